section
-- ===== PART A: goes FIRST, ahead of the names: the tables' words, and 'selects' of the private methods out of them =====
/-- a private method of a class that the tables say can be made, by its rows of tables_1 -/
def lw_okq (q : MethodName × Nat) : Prop := (q.1.cls ≠ "java/lang/invoke/MethodHandle" ∧ q.1.cls ≠ "java/lang/invoke/VarHandle") ∧ Cond.instantiable q.1.cls q.2 ∈ tables_1 ∧ Cond.privateMethod q.1 ∈ tables_1 ∧ Cond.instanceMethod q.1 ∈ tables_1
theorem lw_p0 : lw_okq (⟨"LineCodes$Packer", "fillCosts", "(I)V"⟩, 3) := ⟨⟨by decide +kernel, by decide +kernel⟩, List.mem_of_getElem? (i := 42) (by decide +kernel), List.mem_of_getElem? (i := 118) (by decide +kernel), List.mem_of_getElem? (i := 119) (by decide +kernel)⟩
theorem lw_p1 : lw_okq (⟨"LineCodes$Packer", "costOfTelling", "(II)I"⟩, 3) := ⟨⟨by decide +kernel, by decide +kernel⟩, List.mem_of_getElem? (i := 42) (by decide +kernel), List.mem_of_getElem? (i := 123) (by decide +kernel), List.mem_of_getElem? (i := 124) (by decide +kernel)⟩
theorem lw_p2 : lw_okq (⟨"LineCodes$Packer", "cost", "(II)I"⟩, 3) := ⟨⟨by decide +kernel, by decide +kernel⟩, List.mem_of_getElem? (i := 42) (by decide +kernel), List.mem_of_getElem? (i := 131) (by decide +kernel), List.mem_of_getElem? (i := 132) (by decide +kernel)⟩
theorem lw_p3 : lw_okq (⟨"LineCodes$Packer", "setCost", "(III)V"⟩, 3) := ⟨⟨by decide +kernel, by decide +kernel⟩, List.mem_of_getElem? (i := 42) (by decide +kernel), List.mem_of_getElem? (i := 144) (by decide +kernel), List.mem_of_getElem? (i := 145) (by decide +kernel)⟩
theorem lw_p4 : lw_okq (⟨"LineCodes$Packer", "addSymbols", "()V"⟩, 3) := ⟨⟨by decide +kernel, by decide +kernel⟩, List.mem_of_getElem? (i := 42) (by decide +kernel), List.mem_of_getElem? (i := 152) (by decide +kernel), List.mem_of_getElem? (i := 153) (by decide +kernel)⟩
theorem lw_p5 : lw_okq (⟨"LineCodes$Packer", "cheapestFirstSet", "()I"⟩, 3) := ⟨⟨by decide +kernel, by decide +kernel⟩, List.mem_of_getElem? (i := 42) (by decide +kernel), List.mem_of_getElem? (i := 156) (by decide +kernel), List.mem_of_getElem? (i := 157) (by decide +kernel)⟩
theorem lw_p6 : lw_okq (⟨"LineCodes$Packer", "nextSet", "(II)I"⟩, 3) := ⟨⟨by decide +kernel, by decide +kernel⟩, List.mem_of_getElem? (i := 42) (by decide +kernel), List.mem_of_getElem? (i := 167) (by decide +kernel), List.mem_of_getElem? (i := 168) (by decide +kernel)⟩
theorem lw_p7 : lw_okq (⟨"LineCodes$Packer", "addTold", "(II)I"⟩, 3) := ⟨⟨by decide +kernel, by decide +kernel⟩, List.mem_of_getElem? (i := 42) (by decide +kernel), List.mem_of_getElem? (i := 171) (by decide +kernel), List.mem_of_getElem? (i := 172) (by decide +kernel)⟩
theorem lw_p8 : lw_okq (⟨"LineCodes$Packer", "checkSymbol", "()I"⟩, 3) := ⟨⟨by decide +kernel, by decide +kernel⟩, List.mem_of_getElem? (i := 42) (by decide +kernel), List.mem_of_getElem? (i := 181) (by decide +kernel), List.mem_of_getElem? (i := 182) (by decide +kernel)⟩
theorem lw_p9 : lw_okq (⟨"LineCodes$Reader", "isThirteen", "()Z"⟩, 5) := ⟨⟨by decide +kernel, by decide +kernel⟩, List.mem_of_getElem? (i := 58) (by decide +kernel), List.mem_of_getElem? (i := 222) (by decide +kernel), List.mem_of_getElem? (i := 223) (by decide +kernel)⟩
theorem lw_p10 : lw_okq (⟨"LineCodes$Reader", "areSidesAndMiddleRight", "()Z"⟩, 5) := ⟨⟨by decide +kernel, by decide +kernel⟩, List.mem_of_getElem? (i := 58) (by decide +kernel), List.mem_of_getElem? (i := 226) (by decide +kernel), List.mem_of_getElem? (i := 227) (by decide +kernel)⟩
theorem lw_p11 : lw_okq (⟨"LineCodes$Reader", "sumOf", "(II)I"⟩, 5) := ⟨⟨by decide +kernel, by decide +kernel⟩, List.mem_of_getElem? (i := 58) (by decide +kernel), List.mem_of_getElem? (i := 230) (by decide +kernel), List.mem_of_getElem? (i := 231) (by decide +kernel)⟩
theorem lw_p12 : lw_okq (⟨"LineCodes$Reader", "countsOf", "(IIII)I"⟩, 5) := ⟨⟨by decide +kernel, by decide +kernel⟩, List.mem_of_getElem? (i := 58) (by decide +kernel), List.mem_of_getElem? (i := 235) (by decide +kernel), List.mem_of_getElem? (i := 236) (by decide +kernel)⟩
theorem lw_p13 : lw_okq (⟨"LineCodes$Reader", "isLeftHalf", "()Z"⟩, 5) := ⟨⟨by decide +kernel, by decide +kernel⟩, List.mem_of_getElem? (i := 58) (by decide +kernel), List.mem_of_getElem? (i := 239) (by decide +kernel), List.mem_of_getElem? (i := 240) (by decide +kernel)⟩
theorem lw_p14 : lw_okq (⟨"LineCodes$Reader", "figureCountsAt", "(I)I"⟩, 5) := ⟨⟨by decide +kernel, by decide +kernel⟩, List.mem_of_getElem? (i := 58) (by decide +kernel), List.mem_of_getElem? (i := 244) (by decide +kernel), List.mem_of_getElem? (i := 245) (by decide +kernel)⟩
theorem lw_p15 : lw_okq (⟨"LineCodes$Reader", "isRightHalf", "()Z"⟩, 5) := ⟨⟨by decide +kernel, by decide +kernel⟩, List.mem_of_getElem? (i := 58) (by decide +kernel), List.mem_of_getElem? (i := 265) (by decide +kernel), List.mem_of_getElem? (i := 266) (by decide +kernel)⟩
def lw_privs_1 : List (MethodName × Nat) := [(⟨"LineCodes$Packer", "fillCosts", "(I)V"⟩, 3), (⟨"LineCodes$Packer", "costOfTelling", "(II)I"⟩, 3), (⟨"LineCodes$Packer", "cost", "(II)I"⟩, 3), (⟨"LineCodes$Packer", "setCost", "(III)V"⟩, 3), (⟨"LineCodes$Packer", "addSymbols", "()V"⟩, 3), (⟨"LineCodes$Packer", "cheapestFirstSet", "()I"⟩, 3), (⟨"LineCodes$Packer", "nextSet", "(II)I"⟩, 3), (⟨"LineCodes$Packer", "addTold", "(II)I"⟩, 3), (⟨"LineCodes$Packer", "checkSymbol", "()I"⟩, 3), (⟨"LineCodes$Reader", "isThirteen", "()Z"⟩, 5), (⟨"LineCodes$Reader", "areSidesAndMiddleRight", "()Z"⟩, 5), (⟨"LineCodes$Reader", "sumOf", "(II)I"⟩, 5), (⟨"LineCodes$Reader", "countsOf", "(IIII)I"⟩, 5), (⟨"LineCodes$Reader", "isLeftHalf", "()Z"⟩, 5), (⟨"LineCodes$Reader", "figureCountsAt", "(I)I"⟩, 5), (⟨"LineCodes$Reader", "isRightHalf", "()Z"⟩, 5)]
theorem lw_r1 : ∀ q ∈ lw_privs_1, lw_okq q := List.forall_mem_cons.mpr ⟨lw_p0, List.forall_mem_cons.mpr ⟨lw_p1, List.forall_mem_cons.mpr ⟨lw_p2, List.forall_mem_cons.mpr ⟨lw_p3, List.forall_mem_cons.mpr ⟨lw_p4, List.forall_mem_cons.mpr ⟨lw_p5, List.forall_mem_cons.mpr ⟨lw_p6, List.forall_mem_cons.mpr ⟨lw_p7, List.forall_mem_cons.mpr ⟨lw_p8, List.forall_mem_cons.mpr ⟨lw_p9, List.forall_mem_cons.mpr ⟨lw_p10, List.forall_mem_cons.mpr ⟨lw_p11, List.forall_mem_cons.mpr ⟨lw_p12, List.forall_mem_cons.mpr ⟨lw_p13, List.forall_mem_cons.mpr ⟨lw_p14, List.forall_mem_cons.mpr ⟨lw_p15, fun _ h => absurd h List.not_mem_nil⟩⟩⟩⟩⟩⟩⟩⟩⟩⟩⟩⟩⟩⟩⟩⟩
theorem lw_p16 : lw_okq (⟨"LineCodes$Reader", "isRow", "()Z"⟩, 5) := ⟨⟨by decide +kernel, by decide +kernel⟩, List.mem_of_getElem? (i := 58) (by decide +kernel), List.mem_of_getElem? (i := 272) (by decide +kernel), List.mem_of_getElem? (i := 273) (by decide +kernel)⟩
theorem lw_p17 : lw_okq (⟨"LineCodes$Reader", "isLastAt", "(I)Z"⟩, 5) := ⟨⟨by decide +kernel, by decide +kernel⟩, List.mem_of_getElem? (i := 58) (by decide +kernel), List.mem_of_getElem? (i := 276) (by decide +kernel), List.mem_of_getElem? (i := 277) (by decide +kernel)⟩
theorem lw_p18 : lw_okq (⟨"LineCodes$Reader", "symbolAt", "(I)I"⟩, 5) := ⟨⟨by decide +kernel, by decide +kernel⟩, List.mem_of_getElem? (i := 58) (by decide +kernel), List.mem_of_getElem? (i := 281) (by decide +kernel), List.mem_of_getElem? (i := 282) (by decide +kernel)⟩
theorem lw_p19 : lw_okq (⟨"LineCodes$Reader", "isTold", "(I)Z"⟩, 5) := ⟨⟨by decide +kernel, by decide +kernel⟩, List.mem_of_getElem? (i := 58) (by decide +kernel), List.mem_of_getElem? (i := 293) (by decide +kernel), List.mem_of_getElem? (i := 294) (by decide +kernel)⟩
theorem lw_p20 : lw_okq (⟨"LineCodes$Reader", "isSwitched", "(I)Z"⟩, 5) := ⟨⟨by decide +kernel, by decide +kernel⟩, List.mem_of_getElem? (i := 58) (by decide +kernel), List.mem_of_getElem? (i := 301) (by decide +kernel), List.mem_of_getElem? (i := 302) (by decide +kernel)⟩
theorem lw_p21 : lw_okq (⟨"java/lang/Throwable", "fillInStackTrace", "(I)Ljava/lang/Throwable;"⟩, 6) := ⟨⟨by decide +kernel, by decide +kernel⟩, List.mem_of_getElem? (i := 377) (by decide +kernel), List.mem_of_getElem? (i := 375) (by decide +kernel), List.mem_of_getElem? (i := 376) (by decide +kernel)⟩
theorem lw_p22 : lw_okq (⟨"LineCodes", "addWidths", "(II)V"⟩, 5) := ⟨⟨by decide +kernel, by decide +kernel⟩, List.mem_of_getElem? (i := 17) (by decide +kernel), List.mem_of_getElem? (i := 455) (by decide +kernel), List.mem_of_getElem? (i := 456) (by decide +kernel)⟩
theorem lw_p23 : lw_okq (⟨"LineCodesModel", "relax", "()V"⟩, 18) := ⟨⟨by decide +kernel, by decide +kernel⟩, List.mem_of_getElem? (i := 529) (by decide +kernel), List.mem_of_getElem? (i := 714) (by decide +kernel), List.mem_of_getElem? (i := 715) (by decide +kernel)⟩
theorem lw_p24 : lw_okq (⟨"LineCodesModel", "with", "(III)I"⟩, 18) := ⟨⟨by decide +kernel, by decide +kernel⟩, List.mem_of_getElem? (i := 529) (by decide +kernel), List.mem_of_getElem? (i := 718) (by decide +kernel), List.mem_of_getElem? (i := 719) (by decide +kernel)⟩
theorem lw_p25 : lw_okq (⟨"LineCodesModel", "tells", "(III)I"⟩, 18) := ⟨⟨by decide +kernel, by decide +kernel⟩, List.mem_of_getElem? (i := 529) (by decide +kernel), List.mem_of_getElem? (i := 722) (by decide +kernel), List.mem_of_getElem? (i := 723) (by decide +kernel)⟩
theorem lw_p26 : lw_okq (⟨"LineCodesModel", "at", "(I)I"⟩, 18) := ⟨⟨by decide +kernel, by decide +kernel⟩, List.mem_of_getElem? (i := 529) (by decide +kernel), List.mem_of_getElem? (i := 726) (by decide +kernel), List.mem_of_getElem? (i := 727) (by decide +kernel)⟩
theorem lw_p27 : lw_okq (⟨"LineCodesModel", "isPair", "(II)Z"⟩, 18) := ⟨⟨by decide +kernel, by decide +kernel⟩, List.mem_of_getElem? (i := 529) (by decide +kernel), List.mem_of_getElem? (i := 730) (by decide +kernel), List.mem_of_getElem? (i := 731) (by decide +kernel)⟩
theorem lw_p28 : lw_okq (⟨"LineCodesModel", "leastAt", "(II)I"⟩, 18) := ⟨⟨by decide +kernel, by decide +kernel⟩, List.mem_of_getElem? (i := 529) (by decide +kernel), List.mem_of_getElem? (i := 737) (by decide +kernel), List.mem_of_getElem? (i := 738) (by decide +kernel)⟩
theorem lw_p29 : lw_okq (⟨"LineCodesModel", "isOther", "(II)Z"⟩, 18) := ⟨⟨by decide +kernel, by decide +kernel⟩, List.mem_of_getElem? (i := 529) (by decide +kernel), List.mem_of_getElem? (i := 744) (by decide +kernel), List.mem_of_getElem? (i := 745) (by decide +kernel)⟩
theorem lw_p30 : lw_okq (⟨"LineCodesModel", "add", "(I)V"⟩, 18) := ⟨⟨by decide +kernel, by decide +kernel⟩, List.mem_of_getElem? (i := 529) (by decide +kernel), List.mem_of_getElem? (i := 748) (by decide +kernel), List.mem_of_getElem? (i := 749) (by decide +kernel)⟩
theorem lw_p31 : lw_okq (⟨"LineCodesModel", "lay", "(III)V"⟩, 18) := ⟨⟨by decide +kernel, by decide +kernel⟩, List.mem_of_getElem? (i := 529) (by decide +kernel), List.mem_of_getElem? (i := 766) (by decide +kernel), List.mem_of_getElem? (i := 767) (by decide +kernel)⟩
def lw_privs_2 : List (MethodName × Nat) := [(⟨"LineCodes$Reader", "isRow", "()Z"⟩, 5), (⟨"LineCodes$Reader", "isLastAt", "(I)Z"⟩, 5), (⟨"LineCodes$Reader", "symbolAt", "(I)I"⟩, 5), (⟨"LineCodes$Reader", "isTold", "(I)Z"⟩, 5), (⟨"LineCodes$Reader", "isSwitched", "(I)Z"⟩, 5), (⟨"java/lang/Throwable", "fillInStackTrace", "(I)Ljava/lang/Throwable;"⟩, 6), (⟨"LineCodes", "addWidths", "(II)V"⟩, 5), (⟨"LineCodesModel", "relax", "()V"⟩, 18), (⟨"LineCodesModel", "with", "(III)I"⟩, 18), (⟨"LineCodesModel", "tells", "(III)I"⟩, 18), (⟨"LineCodesModel", "at", "(I)I"⟩, 18), (⟨"LineCodesModel", "isPair", "(II)Z"⟩, 18), (⟨"LineCodesModel", "leastAt", "(II)I"⟩, 18), (⟨"LineCodesModel", "isOther", "(II)Z"⟩, 18), (⟨"LineCodesModel", "add", "(I)V"⟩, 18), (⟨"LineCodesModel", "lay", "(III)V"⟩, 18)]
theorem lw_r2 : ∀ q ∈ lw_privs_2, lw_okq q := List.forall_mem_cons.mpr ⟨lw_p16, List.forall_mem_cons.mpr ⟨lw_p17, List.forall_mem_cons.mpr ⟨lw_p18, List.forall_mem_cons.mpr ⟨lw_p19, List.forall_mem_cons.mpr ⟨lw_p20, List.forall_mem_cons.mpr ⟨lw_p21, List.forall_mem_cons.mpr ⟨lw_p22, List.forall_mem_cons.mpr ⟨lw_p23, List.forall_mem_cons.mpr ⟨lw_p24, List.forall_mem_cons.mpr ⟨lw_p25, List.forall_mem_cons.mpr ⟨lw_p26, List.forall_mem_cons.mpr ⟨lw_p27, List.forall_mem_cons.mpr ⟨lw_p28, List.forall_mem_cons.mpr ⟨lw_p29, List.forall_mem_cons.mpr ⟨lw_p30, List.forall_mem_cons.mpr ⟨lw_p31, fun _ h => absurd h List.not_mem_nil⟩⟩⟩⟩⟩⟩⟩⟩⟩⟩⟩⟩⟩⟩⟩⟩
theorem lw_p32 : lw_okq (⟨"LineCodesModel", "isTurned", "(II)Z"⟩, 18) := ⟨⟨by decide +kernel, by decide +kernel⟩, List.mem_of_getElem? (i := 529) (by decide +kernel), List.mem_of_getElem? (i := 788) (by decide +kernel), List.mem_of_getElem? (i := 789) (by decide +kernel)⟩
theorem lw_p33 : lw_okq (⟨"LineCodesModel", "reverse", "([I[I)V"⟩, 18) := ⟨⟨by decide +kernel, by decide +kernel⟩, List.mem_of_getElem? (i := 529) (by decide +kernel), List.mem_of_getElem? (i := 815) (by decide +kernel), List.mem_of_getElem? (i := 816) (by decide +kernel)⟩
theorem lw_p34 : lw_okq (⟨"LineCodesModel", "isSome", "()Z"⟩, 18) := ⟨⟨by decide +kernel, by decide +kernel⟩, List.mem_of_getElem? (i := 529) (by decide +kernel), List.mem_of_getElem? (i := 823) (by decide +kernel), List.mem_of_getElem? (i := 824) (by decide +kernel)⟩
theorem lw_p35 : lw_okq (⟨"LineCodesModel", "isThirteen", "()Z"⟩, 18) := ⟨⟨by decide +kernel, by decide +kernel⟩, List.mem_of_getElem? (i := 529) (by decide +kernel), List.mem_of_getElem? (i := 827) (by decide +kernel), List.mem_of_getElem? (i := 828) (by decide +kernel)⟩
theorem lw_p36 : lw_okq (⟨"LineCodesModel", "sumOf", "(II)I"⟩, 18) := ⟨⟨by decide +kernel, by decide +kernel⟩, List.mem_of_getElem? (i := 529) (by decide +kernel), List.mem_of_getElem? (i := 831) (by decide +kernel), List.mem_of_getElem? (i := 832) (by decide +kernel)⟩
theorem lw_p37 : lw_okq (⟨"LineCodesModel", "counts", "(IIII)I"⟩, 18) := ⟨⟨by decide +kernel, by decide +kernel⟩, List.mem_of_getElem? (i := 529) (by decide +kernel), List.mem_of_getElem? (i := 835) (by decide +kernel), List.mem_of_getElem? (i := 836) (by decide +kernel)⟩
theorem lw_p38 : lw_okq (⟨"LineCodesModel", "tell", "(I)V"⟩, 18) := ⟨⟨by decide +kernel, by decide +kernel⟩, List.mem_of_getElem? (i := 529) (by decide +kernel), List.mem_of_getElem? (i := 842) (by decide +kernel), List.mem_of_getElem? (i := 843) (by decide +kernel)⟩
theorem lw_p39 : lw_okq (⟨"LineCodesModel", "isRow", "(I)Z"⟩, 18) := ⟨⟨by decide +kernel, by decide +kernel⟩, List.mem_of_getElem? (i := 529) (by decide +kernel), List.mem_of_getElem? (i := 846) (by decide +kernel), List.mem_of_getElem? (i := 847) (by decide +kernel)⟩
def lw_privs_3 : List (MethodName × Nat) := [(⟨"LineCodesModel", "isTurned", "(II)Z"⟩, 18), (⟨"LineCodesModel", "reverse", "([I[I)V"⟩, 18), (⟨"LineCodesModel", "isSome", "()Z"⟩, 18), (⟨"LineCodesModel", "isThirteen", "()Z"⟩, 18), (⟨"LineCodesModel", "sumOf", "(II)I"⟩, 18), (⟨"LineCodesModel", "counts", "(IIII)I"⟩, 18), (⟨"LineCodesModel", "tell", "(I)V"⟩, 18), (⟨"LineCodesModel", "isRow", "(I)Z"⟩, 18)]
theorem lw_r3 : ∀ q ∈ lw_privs_3, lw_okq q := List.forall_mem_cons.mpr ⟨lw_p32, List.forall_mem_cons.mpr ⟨lw_p33, List.forall_mem_cons.mpr ⟨lw_p34, List.forall_mem_cons.mpr ⟨lw_p35, List.forall_mem_cons.mpr ⟨lw_p36, List.forall_mem_cons.mpr ⟨lw_p37, List.forall_mem_cons.mpr ⟨lw_p38, List.forall_mem_cons.mpr ⟨lw_p39, fun _ h => absurd h List.not_mem_nil⟩⟩⟩⟩⟩⟩⟩⟩
def lw_privs : List (MethodName × Nat) := lw_privs_1 ++ (lw_privs_2 ++ (lw_privs_3))
def lw_tbl : List Cond := k2_sels lw_privs ++ tables_1
theorem lw_privs_ok : ∀ q ∈ lw_privs, lw_okq q := by
  show ∀ q ∈ lw_privs_1 ++ (lw_privs_2 ++ (lw_privs_3)), lw_okq q
  exact List.forall_mem_append.mpr ⟨lw_r1, List.forall_mem_append.mpr ⟨lw_r2, lw_r3⟩⟩

/-! The tables' words that every callee may ask for: one list for all methods. -/
def tb : List Cond := lw_tbl.filter goodWord
theorem tb_at {w : Cond} (i : Nat) (h : lw_tbl[i]? = some w) (hg : goodWord w = true) : w ∈ tb := List.mem_filter.mpr ⟨List.mem_of_getElem? h, hg⟩
theorem tb_good : GoodIn tb tb := fun w h => ⟨h, good_of_word (List.mem_filter.mp h).2⟩
theorem tb_sub {args : Array Value} {s : State} (h : ∀ w ∈ lw_tbl, w.before args s = true) : ∀ w ∈ tb, w.before args s = true := fun w hw => h w (List.mem_filter.mp hw).1
theorem g_C {v : Cond} (h5 : v ∈ tb) : GoodIn tb (v :: tb) := fun w hw => (List.mem_cons.mp hw).elim (fun e => e ▸ tb_good v h5) (tb_good w)
theorem g_V {own C : String} {idx : Nat} {y : MethodName} {v : Cond} (h1 : Cond.methodLink own idx y ∈ tb) (h2 : Cond.instanceMethod y ∈ tb) (h3 : Cond.selects C y y ∈ tb) (h4 : Cond.initialized C ∈ tb) (h5 : v ∈ tb) : GoodIn tb (wsV own idx C y (v :: tb)) := by
  intro w hw
  unfold wsV at hw
  rcases List.mem_append.mp hw with hw | hw
  · simp only [List.mem_cons, List.not_mem_nil, or_false] at hw
    rcases hw with rfl | rfl | rfl | rfl
    · exact tb_good _ h1
    · exact tb_good _ h2
    · exact tb_good _ h3
    · exact tb_good _ h4
  · exact g_C h5 w hw
theorem g_S {own : String} {idx : Nat} {y : MethodName} {v : Cond} (h1 : Cond.methodLink own idx y ∈ tb) (h2 : Cond.static y ∈ tb) (h4 : Cond.initialized y.cls ∈ tb) (h5 : v ∈ tb) : GoodIn tb (va_wsS own idx y (v :: tb)) := by
  intro w hw
  unfold va_wsS at hw
  rcases List.mem_append.mp hw with hw | hw
  · simp only [List.mem_cons, List.not_mem_nil, or_false] at hw
    rcases hw with rfl | rfl | rfl
    · exact tb_good _ h1
    · exact tb_good _ h2
    · exact tb_good _ h4
  · exact g_C h5 w hw
/-- a table of numbers -/
def tabL (l : List Nat) : Nat → Int32 := fun j => nI (l.getD j 0)
def symL : List Nat := [212222, 222122, 222221, 121223, 121322, 131222, 122213, 122312, 132212, 221213, 221312, 231212,
  112232, 122132, 122231, 113222, 123122, 123221, 223211, 221132, 221231, 213212, 223112, 312131,
  311222, 321122, 321221, 312212, 322112, 322211, 212123, 212321, 232121, 111323, 131123, 131321,
  112313, 132113, 132311, 211313, 231113, 231311, 112133, 112331, 132131, 113123, 113321, 133121,
  313121, 211331, 231131, 213113, 213311, 213131, 311123, 311321, 331121, 312113, 312311, 332111,
  314111, 221411, 431111, 111224, 111422, 121124, 121421, 141122, 141221, 112214, 112412, 122114,
  122411, 142112, 142211, 241211, 221114, 413111, 241112, 134111, 111242, 121142, 121241, 114212,
  124112, 124211, 411212, 421112, 421211, 212141, 214121, 412121, 111143, 111341, 131141, 114113,
  114311, 411113, 411311, 113141, 114131, 311141, 411131, 211412, 211214, 211232]
def figL : List Nat := [3211, 2221, 2122, 1411, 1132, 1231, 1114, 1312, 1213, 3112]
def trnL : List Nat := [0, 11, 13, 14, 19, 25, 28, 21, 22, 26]
def tabS : Nat → Int32 := tabL symL
def tabF : Nat → Int32 := tabL figL
def tabT : Nat → Int32 := tabL trnL
/-- the class's static tables, at the addresses ad -/
def sk (ad : Nat → Nat) (A : Nat → Prop) (U : State) (H : Heap) : Prop :=
  va_Z "LineCodes$Widths" "SYMBOLS" "[I" (.ref (ad 0)) A U H ∧ va_T .int (ad 0) 106 (fun j => .int (tabS j)) A U H ∧
  va_Z "LineCodes$Widths" "FIGURES" "[I" (.ref (ad 1)) A U H ∧ va_T .int (ad 1) 10 (fun j => .int (tabF j)) A U H ∧
  va_Z "LineCodes$Widths" "TURNS" "[I" (.ref (ad 2)) A U H ∧ va_T .int (ad 2) 10 (fun j => .int (tabT j)) A U H
/-- what the start gives holds the tables -/
def zs (Z : (Nat → Prop) → State → Heap → Prop) (ad : Nat → Nat) : Prop := ∀ (A : Nat → Prop) (U : State) (H : Heap), Z A U H → sk ad A U H
end
section
def R_Lw : String := "LineCodesLaw"
def R_Lc : String := "LineCodes"
def R_It : String := "LineCodes$Items"
def R_Se : String := "LineCodes$Sets"
def R_Wi : String := "LineCodes$Widths"
def R_Fi : String := "LineCodes$Figures"
def R_Pa : String := "LineCodes$Packer"
def R_Re : String := "LineCodes$Reader"
def R_Md : String := "LineCodesModel"
def T_It : u_T := fun k => match k with
  | 0 => ("LineCodes$Items", "items", "[I", true)
  | _ => ("LineCodes$Items", "count", "I", false)
def ty_It : Nat → FieldType := fun k => match k with
  | 0 => .array .int
  | _ => .int
theorem nn_It : ∀ a, a < 2 → ∀ b, b < 2 → a ≠ b → (T_It a).2.1 ≠ (T_It b).2.1 := by decide +kernel
theorem tk_It : ∀ k, k < 2 → parseFieldDescriptor (T_It k).2.2.1 = some (ty_It k) := by decide +kernel
def T_Pa : u_T := fun k => match k with
  | 0 => ("LineCodes$Packer", "text", "LLineCodes$Items;", true)
  | 1 => ("LineCodes$Packer", "row", "LLineCodes$Items;", true)
  | _ => ("LineCodes$Packer", "costs", "[I", true)
def ty_Pa : Nat → FieldType := fun k => match k with
  | 0 => .object "LineCodes$Items"
  | 1 => .object "LineCodes$Items"
  | _ => .array .int
theorem nn_Pa : ∀ a, a < 3 → ∀ b, b < 3 → a ≠ b → (T_Pa a).2.1 ≠ (T_Pa b).2.1 := by decide +kernel
theorem tk_Pa : ∀ k, k < 3 → parseFieldDescriptor (T_Pa k).2.2.1 = some (ty_Pa k) := by decide +kernel
def T_Re : u_T := fun k => match k with
  | 0 => ("LineCodes$Reader", "strip", "LLineCodes$Items;", true)
  | 1 => ("LineCodes$Reader", "told", "LLineCodes$Items;", true)
  | 2 => ("LineCodes$Reader", "fromBack", "Z", false)
  | 3 => ("LineCodes$Reader", "set", "I", false)
  | _ => ("LineCodes$Reader", "shifted", "Z", false)
def ty_Re : Nat → FieldType := fun k => match k with
  | 0 => .object "LineCodes$Items"
  | 1 => .object "LineCodes$Items"
  | 2 => .boolean
  | 3 => .int
  | _ => .boolean
theorem nn_Re : ∀ a, a < 5 → ∀ b, b < 5 → a ≠ b → (T_Re a).2.1 ≠ (T_Re b).2.1 := by decide +kernel
theorem tk_Re : ∀ k, k < 5 → parseFieldDescriptor (T_Re k).2.2.1 = some (ty_Re k) := by decide +kernel
def T_Lc : u_T := fun k => match k with
  | 0 => ("LineCodes", "text", "LLineCodes$Items;", true)
  | 1 => ("LineCodes", "row", "LLineCodes$Items;", true)
  | 2 => ("LineCodes", "strip", "LLineCodes$Items;", true)
  | 3 => ("LineCodes", "packer", "LLineCodes$Packer;", true)
  | _ => ("LineCodes", "reader", "LLineCodes$Reader;", true)
def ty_Lc : Nat → FieldType := fun k => match k with
  | 0 => .object "LineCodes$Items"
  | 1 => .object "LineCodes$Items"
  | 2 => .object "LineCodes$Items"
  | 3 => .object "LineCodes$Packer"
  | _ => .object "LineCodes$Reader"
theorem nn_Lc : ∀ a, a < 5 → ∀ b, b < 5 → a ≠ b → (T_Lc a).2.1 ≠ (T_Lc b).2.1 := by decide +kernel
theorem tk_Lc : ∀ k, k < 5 → parseFieldDescriptor (T_Lc k).2.2.1 = some (ty_Lc k) := by decide +kernel
def T_Md : u_T := fun k => match k with
  | 0 => ("LineCodesModel", "bars", "[I", true)
  | 1 => ("LineCodesModel", "figures", "[I", true)
  | 2 => ("LineCodesModel", "turns", "[I", true)
  | 3 => ("LineCodesModel", "thrown", "I", false)
  | 4 => ("LineCodesModel", "text", "[I", true)
  | 5 => ("LineCodesModel", "length", "I", false)
  | 6 => ("LineCodesModel", "least", "[I", true)
  | 7 => ("LineCodesModel", "row", "[I", true)
  | 8 => ("LineCodesModel", "symbols", "I", false)
  | 9 => ("LineCodesModel", "strip", "[I", true)
  | 10 => ("LineCodesModel", "widths", "I", false)
  | 11 => ("LineCodesModel", "turned", "[I", true)
  | 12 => ("LineCodesModel", "found", "[I", true)
  | 13 => ("LineCodesModel", "signs", "[I", true)
  | 14 => ("LineCodesModel", "told", "I", false)
  | 15 => ("LineCodesModel", "back", "Z", false)
  | 16 => ("LineCodesModel", "draft", "[I", true)
  | _ => ("LineCodesModel", "drafted", "I", false)
def ty_Md : Nat → FieldType := fun k => match k with
  | 0 => .array .int
  | 1 => .array .int
  | 2 => .array .int
  | 3 => .int
  | 4 => .array .int
  | 5 => .int
  | 6 => .array .int
  | 7 => .array .int
  | 8 => .int
  | 9 => .array .int
  | 10 => .int
  | 11 => .array .int
  | 12 => .array .int
  | 13 => .array .int
  | 14 => .int
  | 15 => .boolean
  | 16 => .array .int
  | _ => .int
theorem nn_Md : ∀ a, a < 18 → ∀ b, b < 18 → a ≠ b → (T_Md a).2.1 ≠ (T_Md b).2.1 := by decide +kernel
theorem tk_Md : ∀ k, k < 18 → parseFieldDescriptor (T_Md k).2.2.1 = some (ty_Md k) := by decide +kernel
abbrev vwCl : List vw_C := [(R_It, T_It, 2), (R_Pa, T_Pa, 3), (R_Re, T_Re, 5), (R_Lc, T_Lc, 5), (R_Md, T_Md, 18)]
abbrev c_Lc_init : ByteArray := prog_1_method_1_code
def y_Lc_init : MethodName := ⟨R_Lc, "<init>", "()V"⟩
abbrev wc_Lc_init : Cond := .code y_Lc_init c_Lc_init 1 none
abbrev ws_Lc_init : List Cond := wc_Lc_init :: tb
theorem hd_Lc_init : y_Lc_init.cls = R_Lc ∧ y_Lc_init.cls ≠ "java/lang/invoke/MethodHandle" ∧ y_Lc_init.cls ≠ "java/lang/invoke/VarHandle" ∧ (parseMethodDescriptor y_Lc_init.desc).map (fun d => d.parameters.length) = some 0 := by decide +kernel
abbrev c_Lc_write : ByteArray := prog_1_method_2_code
def y_Lc_write : MethodName := ⟨R_Lc, "write", "(IJ)I"⟩
abbrev wc_Lc_write : Cond := .code y_Lc_write c_Lc_write 5 (some .int)
abbrev ws_Lc_write : List Cond := wc_Lc_write :: tb
theorem hd_Lc_write : y_Lc_write.cls = R_Lc ∧ y_Lc_write.cls ≠ "java/lang/invoke/MethodHandle" ∧ y_Lc_write.cls ≠ "java/lang/invoke/VarHandle" ∧ (parseMethodDescriptor y_Lc_write.desc).map (fun d => d.parameters.length) = some 2 := by decide +kernel
abbrev c_Lc_wipe : ByteArray := prog_1_method_3_code
def y_Lc_wipe : MethodName := ⟨R_Lc, "wipe", "()I"⟩
abbrev wc_Lc_wipe : Cond := .code y_Lc_wipe c_Lc_wipe 1 (some .int)
abbrev ws_Lc_wipe : List Cond := wc_Lc_wipe :: tb
theorem hd_Lc_wipe : y_Lc_wipe.cls = R_Lc ∧ y_Lc_wipe.cls ≠ "java/lang/invoke/MethodHandle" ∧ y_Lc_wipe.cls ≠ "java/lang/invoke/VarHandle" ∧ (parseMethodDescriptor y_Lc_wipe.desc).map (fun d => d.parameters.length) = some 0 := by decide +kernel
abbrev c_Lc_pack : ByteArray := prog_1_method_4_code
def y_Lc_pack : MethodName := ⟨R_Lc, "pack", "()I"⟩
abbrev wc_Lc_pack : Cond := .code y_Lc_pack c_Lc_pack 1 (some .int)
abbrev ws_Lc_pack : List Cond := wc_Lc_pack :: tb
theorem hd_Lc_pack : y_Lc_pack.cls = R_Lc ∧ y_Lc_pack.cls ≠ "java/lang/invoke/MethodHandle" ∧ y_Lc_pack.cls ≠ "java/lang/invoke/VarHandle" ∧ (parseMethodDescriptor y_Lc_pack.desc).map (fun d => d.parameters.length) = some 0 := by decide +kernel
abbrev c_Lc_symbol : ByteArray := prog_1_method_5_code
def y_Lc_symbol : MethodName := ⟨R_Lc, "symbol", "(I)I"⟩
abbrev wc_Lc_symbol : Cond := .code y_Lc_symbol c_Lc_symbol 2 (some .int)
abbrev ws_Lc_symbol : List Cond := wc_Lc_symbol :: tb
theorem hd_Lc_symbol : y_Lc_symbol.cls = R_Lc ∧ y_Lc_symbol.cls ≠ "java/lang/invoke/MethodHandle" ∧ y_Lc_symbol.cls ≠ "java/lang/invoke/VarHandle" ∧ (parseMethodDescriptor y_Lc_symbol.desc).map (fun d => d.parameters.length) = some 1 := by decide +kernel
abbrev c_Lc_bars : ByteArray := prog_1_method_6_code
def y_Lc_bars : MethodName := ⟨R_Lc, "bars", "(I)I"⟩
abbrev wc_Lc_bars : Cond := .code y_Lc_bars c_Lc_bars 3 (some .int)
abbrev ws_Lc_bars : List Cond := wc_Lc_bars :: tb
theorem hd_Lc_bars : y_Lc_bars.cls = R_Lc ∧ y_Lc_bars.cls ≠ "java/lang/invoke/MethodHandle" ∧ y_Lc_bars.cls ≠ "java/lang/invoke/VarHandle" ∧ (parseMethodDescriptor y_Lc_bars.desc).map (fun d => d.parameters.length) = some 1 := by decide +kernel
abbrev c_Lc_checkFigure : ByteArray := prog_1_method_7_code
def y_Lc_checkFigure : MethodName := ⟨R_Lc, "checkFigure", "(J)I"⟩
abbrev wc_Lc_checkFigure : Cond := .code y_Lc_checkFigure c_Lc_checkFigure 3 (some .int)
abbrev ws_Lc_checkFigure : List Cond := wc_Lc_checkFigure :: tb
theorem hd_Lc_checkFigure : y_Lc_checkFigure.cls = R_Lc ∧ y_Lc_checkFigure.cls ≠ "java/lang/invoke/MethodHandle" ∧ y_Lc_checkFigure.cls ≠ "java/lang/invoke/VarHandle" ∧ (parseMethodDescriptor y_Lc_checkFigure.desc).map (fun d => d.parameters.length) = some 1 := by decide +kernel
abbrev c_Lc_thirteen : ByteArray := prog_1_method_8_code
def y_Lc_thirteen : MethodName := ⟨R_Lc, "thirteen", "(JI)I"⟩
abbrev wc_Lc_thirteen : Cond := .code y_Lc_thirteen c_Lc_thirteen 8 (some .int)
abbrev ws_Lc_thirteen : List Cond := wc_Lc_thirteen :: tb
theorem hd_Lc_thirteen : y_Lc_thirteen.cls = R_Lc ∧ y_Lc_thirteen.cls ≠ "java/lang/invoke/MethodHandle" ∧ y_Lc_thirteen.cls ≠ "java/lang/invoke/VarHandle" ∧ (parseMethodDescriptor y_Lc_thirteen.desc).map (fun d => d.parameters.length) = some 2 := by decide +kernel
abbrev c_Lc_put : ByteArray := prog_1_method_9_code
def y_Lc_put : MethodName := ⟨R_Lc, "put", "(IJ)I"⟩
abbrev wc_Lc_put : Cond := .code y_Lc_put c_Lc_put 5 (some .int)
abbrev ws_Lc_put : List Cond := wc_Lc_put :: tb
theorem hd_Lc_put : y_Lc_put.cls = R_Lc ∧ y_Lc_put.cls ≠ "java/lang/invoke/MethodHandle" ∧ y_Lc_put.cls ≠ "java/lang/invoke/VarHandle" ∧ (parseMethodDescriptor y_Lc_put.desc).map (fun d => d.parameters.length) = some 2 := by decide +kernel
abbrev c_Lc_clear : ByteArray := prog_1_method_10_code
def y_Lc_clear : MethodName := ⟨R_Lc, "clear", "()I"⟩
abbrev wc_Lc_clear : Cond := .code y_Lc_clear c_Lc_clear 1 (some .int)
abbrev ws_Lc_clear : List Cond := wc_Lc_clear :: tb
theorem hd_Lc_clear : y_Lc_clear.cls = R_Lc ∧ y_Lc_clear.cls ≠ "java/lang/invoke/MethodHandle" ∧ y_Lc_clear.cls ≠ "java/lang/invoke/VarHandle" ∧ (parseMethodDescriptor y_Lc_clear.desc).map (fun d => d.parameters.length) = some 0 := by decide +kernel
abbrev c_Lc_width : ByteArray := prog_1_method_11_code
def y_Lc_width : MethodName := ⟨R_Lc, "width", "(I)I"⟩
abbrev wc_Lc_width : Cond := .code y_Lc_width c_Lc_width 2 (some .int)
abbrev ws_Lc_width : List Cond := wc_Lc_width :: tb
theorem hd_Lc_width : y_Lc_width.cls = R_Lc ∧ y_Lc_width.cls ≠ "java/lang/invoke/MethodHandle" ∧ y_Lc_width.cls ≠ "java/lang/invoke/VarHandle" ∧ (parseMethodDescriptor y_Lc_width.desc).map (fun d => d.parameters.length) = some 1 := by decide +kernel
abbrev c_Lc_spoil : ByteArray := prog_1_method_12_code
def y_Lc_spoil : MethodName := ⟨R_Lc, "spoil", "(II)I"⟩
abbrev wc_Lc_spoil : Cond := .code y_Lc_spoil c_Lc_spoil 3 (some .int)
abbrev ws_Lc_spoil : List Cond := wc_Lc_spoil :: tb
theorem hd_Lc_spoil : y_Lc_spoil.cls = R_Lc ∧ y_Lc_spoil.cls ≠ "java/lang/invoke/MethodHandle" ∧ y_Lc_spoil.cls ≠ "java/lang/invoke/VarHandle" ∧ (parseMethodDescriptor y_Lc_spoil.desc).map (fun d => d.parameters.length) = some 2 := by decide +kernel
abbrev c_Lc_turn : ByteArray := prog_1_method_13_code
def y_Lc_turn : MethodName := ⟨R_Lc, "turn", "()I"⟩
abbrev wc_Lc_turn : Cond := .code y_Lc_turn c_Lc_turn 1 (some .int)
abbrev ws_Lc_turn : List Cond := wc_Lc_turn :: tb
theorem hd_Lc_turn : y_Lc_turn.cls = R_Lc ∧ y_Lc_turn.cls ≠ "java/lang/invoke/MethodHandle" ∧ y_Lc_turn.cls ≠ "java/lang/invoke/VarHandle" ∧ (parseMethodDescriptor y_Lc_turn.desc).map (fun d => d.parameters.length) = some 0 := by decide +kernel
abbrev c_Lc_read : ByteArray := prog_1_method_14_code
def y_Lc_read : MethodName := ⟨R_Lc, "read", "()I"⟩
abbrev wc_Lc_read : Cond := .code y_Lc_read c_Lc_read 2 (some .int)
abbrev ws_Lc_read : List Cond := wc_Lc_read :: tb
theorem hd_Lc_read : y_Lc_read.cls = R_Lc ∧ y_Lc_read.cls ≠ "java/lang/invoke/MethodHandle" ∧ y_Lc_read.cls ≠ "java/lang/invoke/VarHandle" ∧ (parseMethodDescriptor y_Lc_read.desc).map (fun d => d.parameters.length) = some 0 := by decide +kernel
abbrev c_Lc_sign : ByteArray := prog_1_method_15_code
def y_Lc_sign : MethodName := ⟨R_Lc, "sign", "(I)I"⟩
abbrev wc_Lc_sign : Cond := .code y_Lc_sign c_Lc_sign 2 (some .int)
abbrev ws_Lc_sign : List Cond := wc_Lc_sign :: tb
theorem hd_Lc_sign : y_Lc_sign.cls = R_Lc ∧ y_Lc_sign.cls ≠ "java/lang/invoke/MethodHandle" ∧ y_Lc_sign.cls ≠ "java/lang/invoke/VarHandle" ∧ (parseMethodDescriptor y_Lc_sign.desc).map (fun d => d.parameters.length) = some 1 := by decide +kernel
abbrev c_Lc_backwards : ByteArray := prog_1_method_16_code
def y_Lc_backwards : MethodName := ⟨R_Lc, "backwards", "()Z"⟩
abbrev wc_Lc_backwards : Cond := .code y_Lc_backwards c_Lc_backwards 1 (some .boolean)
abbrev ws_Lc_backwards : List Cond := wc_Lc_backwards :: tb
theorem hd_Lc_backwards : y_Lc_backwards.cls = R_Lc ∧ y_Lc_backwards.cls ≠ "java/lang/invoke/MethodHandle" ∧ y_Lc_backwards.cls ≠ "java/lang/invoke/VarHandle" ∧ (parseMethodDescriptor y_Lc_backwards.desc).map (fun d => d.parameters.length) = some 0 := by decide +kernel
abbrev c_Lc_refuseByteCount : ByteArray := prog_1_method_17_code
def y_Lc_refuseByteCount : MethodName := ⟨R_Lc, "refuseByteCount", "(I)V"⟩
abbrev wc_Lc_refuseByteCount : Cond := .code y_Lc_refuseByteCount c_Lc_refuseByteCount 1 none
abbrev ws_Lc_refuseByteCount : List Cond := wc_Lc_refuseByteCount :: tb
theorem hd_Lc_refuseByteCount : y_Lc_refuseByteCount.cls = R_Lc ∧ y_Lc_refuseByteCount.cls ≠ "java/lang/invoke/MethodHandle" ∧ y_Lc_refuseByteCount.cls ≠ "java/lang/invoke/VarHandle" ∧ (parseMethodDescriptor y_Lc_refuseByteCount.desc).map (fun d => d.parameters.length) = some 1 := by decide +kernel
abbrev c_Lc_refuseModule : ByteArray := prog_1_method_18_code
def y_Lc_refuseModule : MethodName := ⟨R_Lc, "refuseModule", "(I)V"⟩
abbrev wc_Lc_refuseModule : Cond := .code y_Lc_refuseModule c_Lc_refuseModule 1 none
abbrev ws_Lc_refuseModule : List Cond := wc_Lc_refuseModule :: tb
theorem hd_Lc_refuseModule : y_Lc_refuseModule.cls = R_Lc ∧ y_Lc_refuseModule.cls ≠ "java/lang/invoke/MethodHandle" ∧ y_Lc_refuseModule.cls ≠ "java/lang/invoke/VarHandle" ∧ (parseMethodDescriptor y_Lc_refuseModule.desc).map (fun d => d.parameters.length) = some 1 := by decide +kernel
abbrev c_Lc_refuseTwelve : ByteArray := prog_1_method_19_code
def y_Lc_refuseTwelve : MethodName := ⟨R_Lc, "refuseTwelve", "(J)V"⟩
abbrev wc_Lc_refuseTwelve : Cond := .code y_Lc_refuseTwelve c_Lc_refuseTwelve 2 none
abbrev ws_Lc_refuseTwelve : List Cond := wc_Lc_refuseTwelve :: tb
theorem hd_Lc_refuseTwelve : y_Lc_refuseTwelve.cls = R_Lc ∧ y_Lc_refuseTwelve.cls ≠ "java/lang/invoke/MethodHandle" ∧ y_Lc_refuseTwelve.cls ≠ "java/lang/invoke/VarHandle" ∧ (parseMethodDescriptor y_Lc_refuseTwelve.desc).map (fun d => d.parameters.length) = some 1 := by decide +kernel
abbrev c_Lc_byteOf : ByteArray := prog_1_method_20_code
def y_Lc_byteOf : MethodName := ⟨R_Lc, "byteOf", "(JI)I"⟩
abbrev wc_Lc_byteOf : Cond := .code y_Lc_byteOf c_Lc_byteOf 3 (some .int)
abbrev ws_Lc_byteOf : List Cond := wc_Lc_byteOf :: tb
theorem hd_Lc_byteOf : y_Lc_byteOf.cls = R_Lc ∧ y_Lc_byteOf.cls ≠ "java/lang/invoke/MethodHandle" ∧ y_Lc_byteOf.cls ≠ "java/lang/invoke/VarHandle" ∧ (parseMethodDescriptor y_Lc_byteOf.desc).map (fun d => d.parameters.length) = some 2 := by decide +kernel
abbrev c_Lc_addBytes : ByteArray := prog_1_method_21_code
def y_Lc_addBytes : MethodName := ⟨R_Lc, "addBytes", "(LLineCodes$Items;IJ)I"⟩
abbrev wc_Lc_addBytes : Cond := .code y_Lc_addBytes c_Lc_addBytes 5 (some .int)
abbrev ws_Lc_addBytes : List Cond := wc_Lc_addBytes :: tb
theorem hd_Lc_addBytes : y_Lc_addBytes.cls = R_Lc ∧ y_Lc_addBytes.cls ≠ "java/lang/invoke/MethodHandle" ∧ y_Lc_addBytes.cls ≠ "java/lang/invoke/VarHandle" ∧ (parseMethodDescriptor y_Lc_addBytes.desc).map (fun d => d.parameters.length) = some 3 := by decide +kernel
abbrev c_Lc_addWidths : ByteArray := prog_1_method_22_code
def y_Lc_addWidths : MethodName := ⟨R_Lc, "addWidths", "(II)V"⟩
abbrev wc_Lc_addWidths : Cond := .code y_Lc_addWidths c_Lc_addWidths 4 none
abbrev ws_Lc_addWidths : List Cond := wc_Lc_addWidths :: tb
theorem hd_Lc_addWidths : y_Lc_addWidths.cls = R_Lc ∧ y_Lc_addWidths.cls ≠ "java/lang/invoke/MethodHandle" ∧ y_Lc_addWidths.cls ≠ "java/lang/invoke/VarHandle" ∧ (parseMethodDescriptor y_Lc_addWidths.desc).map (fun d => d.parameters.length) = some 2 := by decide +kernel
abbrev c_Md_init : ByteArray := prog_9_method_1_code
def y_Md_init : MethodName := ⟨R_Md, "<init>", "()V"⟩
abbrev wc_Md_init : Cond := .code y_Md_init c_Md_init 1 none
abbrev ws_Md_init : List Cond := wc_Md_init :: tb
theorem hd_Md_init : y_Md_init.cls = R_Md ∧ y_Md_init.cls ≠ "java/lang/invoke/MethodHandle" ∧ y_Md_init.cls ≠ "java/lang/invoke/VarHandle" ∧ (parseMethodDescriptor y_Md_init.desc).map (fun d => d.parameters.length) = some 0 := by decide +kernel
abbrev c_Md_thrown : ByteArray := prog_9_method_2_code
def y_Md_thrown : MethodName := ⟨R_Md, "thrown", "()I"⟩
abbrev wc_Md_thrown : Cond := .code y_Md_thrown c_Md_thrown 1 (some .int)
abbrev ws_Md_thrown : List Cond := wc_Md_thrown :: tb
theorem hd_Md_thrown : y_Md_thrown.cls = R_Md ∧ y_Md_thrown.cls ≠ "java/lang/invoke/MethodHandle" ∧ y_Md_thrown.cls ≠ "java/lang/invoke/VarHandle" ∧ (parseMethodDescriptor y_Md_thrown.desc).map (fun d => d.parameters.length) = some 0 := by decide +kernel
abbrev c_Md_write : ByteArray := prog_9_method_3_code
def y_Md_write : MethodName := ⟨R_Md, "write", "(IJ)I"⟩
abbrev wc_Md_write : Cond := .code y_Md_write c_Md_write 5 (some .int)
abbrev ws_Md_write : List Cond := wc_Md_write :: tb
theorem hd_Md_write : y_Md_write.cls = R_Md ∧ y_Md_write.cls ≠ "java/lang/invoke/MethodHandle" ∧ y_Md_write.cls ≠ "java/lang/invoke/VarHandle" ∧ (parseMethodDescriptor y_Md_write.desc).map (fun d => d.parameters.length) = some 2 := by decide +kernel
abbrev c_Md_wipe : ByteArray := prog_9_method_4_code
def y_Md_wipe : MethodName := ⟨R_Md, "wipe", "()I"⟩
abbrev wc_Md_wipe : Cond := .code y_Md_wipe c_Md_wipe 2 (some .int)
abbrev ws_Md_wipe : List Cond := wc_Md_wipe :: tb
theorem hd_Md_wipe : y_Md_wipe.cls = R_Md ∧ y_Md_wipe.cls ≠ "java/lang/invoke/MethodHandle" ∧ y_Md_wipe.cls ≠ "java/lang/invoke/VarHandle" ∧ (parseMethodDescriptor y_Md_wipe.desc).map (fun d => d.parameters.length) = some 0 := by decide +kernel
abbrev c_Md_signOf : ByteArray := prog_9_method_5_code
def y_Md_signOf : MethodName := ⟨R_Md, "signOf", "(II)I"⟩
abbrev wc_Md_signOf : Cond := .code y_Md_signOf c_Md_signOf 2 (some .int)
abbrev ws_Md_signOf : List Cond := wc_Md_signOf :: tb
theorem hd_Md_signOf : y_Md_signOf.cls = R_Md ∧ y_Md_signOf.cls ≠ "java/lang/invoke/MethodHandle" ∧ y_Md_signOf.cls ≠ "java/lang/invoke/VarHandle" ∧ (parseMethodDescriptor y_Md_signOf.desc).map (fun d => d.parameters.length) = some 2 := by decide +kernel
abbrev c_Md_at : ByteArray := prog_9_method_6_code
def y_Md_at : MethodName := ⟨R_Md, "at", "(I)I"⟩
abbrev wc_Md_at : Cond := .code y_Md_at c_Md_at 2 (some .int)
abbrev ws_Md_at : List Cond := wc_Md_at :: tb
theorem hd_Md_at : y_Md_at.cls = R_Md ∧ y_Md_at.cls ≠ "java/lang/invoke/MethodHandle" ∧ y_Md_at.cls ≠ "java/lang/invoke/VarHandle" ∧ (parseMethodDescriptor y_Md_at.desc).map (fun d => d.parameters.length) = some 1 := by decide +kernel
abbrev c_Md_isPair : ByteArray := prog_9_method_7_code
def y_Md_isPair : MethodName := ⟨R_Md, "isPair", "(II)Z"⟩
abbrev wc_Md_isPair : Cond := .code y_Md_isPair c_Md_isPair 3 (some .boolean)
abbrev ws_Md_isPair : List Cond := wc_Md_isPair :: tb
theorem hd_Md_isPair : y_Md_isPair.cls = R_Md ∧ y_Md_isPair.cls ≠ "java/lang/invoke/MethodHandle" ∧ y_Md_isPair.cls ≠ "java/lang/invoke/VarHandle" ∧ (parseMethodDescriptor y_Md_isPair.desc).map (fun d => d.parameters.length) = some 2 := by decide +kernel
abbrev c_Md_tells : ByteArray := prog_9_method_8_code
def y_Md_tells : MethodName := ⟨R_Md, "tells", "(III)I"⟩
abbrev wc_Md_tells : Cond := .code y_Md_tells c_Md_tells 4 (some .int)
abbrev ws_Md_tells : List Cond := wc_Md_tells :: tb
theorem hd_Md_tells : y_Md_tells.cls = R_Md ∧ y_Md_tells.cls ≠ "java/lang/invoke/MethodHandle" ∧ y_Md_tells.cls ≠ "java/lang/invoke/VarHandle" ∧ (parseMethodDescriptor y_Md_tells.desc).map (fun d => d.parameters.length) = some 3 := by decide +kernel
abbrev c_Md_goes : ByteArray := prog_9_method_9_code
def y_Md_goes : MethodName := ⟨R_Md, "goes", "(II)I"⟩
abbrev wc_Md_goes : Cond := .code y_Md_goes c_Md_goes 3 (some .int)
abbrev ws_Md_goes : List Cond := wc_Md_goes :: tb
theorem hd_Md_goes : y_Md_goes.cls = R_Md ∧ y_Md_goes.cls ≠ "java/lang/invoke/MethodHandle" ∧ y_Md_goes.cls ≠ "java/lang/invoke/VarHandle" ∧ (parseMethodDescriptor y_Md_goes.desc).map (fun d => d.parameters.length) = some 2 := by decide +kernel
abbrev c_Md_leastAt : ByteArray := prog_9_method_10_code
def y_Md_leastAt : MethodName := ⟨R_Md, "leastAt", "(II)I"⟩
abbrev wc_Md_leastAt : Cond := .code y_Md_leastAt c_Md_leastAt 3 (some .int)
abbrev ws_Md_leastAt : List Cond := wc_Md_leastAt :: tb
theorem hd_Md_leastAt : y_Md_leastAt.cls = R_Md ∧ y_Md_leastAt.cls ≠ "java/lang/invoke/MethodHandle" ∧ y_Md_leastAt.cls ≠ "java/lang/invoke/VarHandle" ∧ (parseMethodDescriptor y_Md_leastAt.desc).map (fun d => d.parameters.length) = some 2 := by decide +kernel
abbrev c_Md_with : ByteArray := prog_9_method_11_code
def y_Md_with : MethodName := ⟨R_Md, "with", "(III)I"⟩
abbrev wc_Md_with : Cond := .code y_Md_with c_Md_with 5 (some .int)
abbrev ws_Md_with : List Cond := wc_Md_with :: tb
theorem hd_Md_with : y_Md_with.cls = R_Md ∧ y_Md_with.cls ≠ "java/lang/invoke/MethodHandle" ∧ y_Md_with.cls ≠ "java/lang/invoke/VarHandle" ∧ (parseMethodDescriptor y_Md_with.desc).map (fun d => d.parameters.length) = some 3 := by decide +kernel
abbrev c_Md_isOther : ByteArray := prog_9_method_12_code
def y_Md_isOther : MethodName := ⟨R_Md, "isOther", "(II)Z"⟩
abbrev wc_Md_isOther : Cond := .code y_Md_isOther c_Md_isOther 5 (some .boolean)
abbrev ws_Md_isOther : List Cond := wc_Md_isOther :: tb
theorem hd_Md_isOther : y_Md_isOther.cls = R_Md ∧ y_Md_isOther.cls ≠ "java/lang/invoke/MethodHandle" ∧ y_Md_isOther.cls ≠ "java/lang/invoke/VarHandle" ∧ (parseMethodDescriptor y_Md_isOther.desc).map (fun d => d.parameters.length) = some 2 := by decide +kernel
abbrev c_Md_relax : ByteArray := prog_9_method_13_code
def y_Md_relax : MethodName := ⟨R_Md, "relax", "()V"⟩
abbrev wc_Md_relax : Cond := .code y_Md_relax c_Md_relax 6 none
abbrev ws_Md_relax : List Cond := wc_Md_relax :: tb
theorem hd_Md_relax : y_Md_relax.cls = R_Md ∧ y_Md_relax.cls ≠ "java/lang/invoke/MethodHandle" ∧ y_Md_relax.cls ≠ "java/lang/invoke/VarHandle" ∧ (parseMethodDescriptor y_Md_relax.desc).map (fun d => d.parameters.length) = some 0 := by decide +kernel
abbrev c_Md_add : ByteArray := prog_9_method_14_code
def y_Md_add : MethodName := ⟨R_Md, "add", "(I)V"⟩
abbrev wc_Md_add : Cond := .code y_Md_add c_Md_add 2 none
abbrev ws_Md_add : List Cond := wc_Md_add :: tb
theorem hd_Md_add : y_Md_add.cls = R_Md ∧ y_Md_add.cls ≠ "java/lang/invoke/MethodHandle" ∧ y_Md_add.cls ≠ "java/lang/invoke/VarHandle" ∧ (parseMethodDescriptor y_Md_add.desc).map (fun d => d.parameters.length) = some 1 := by decide +kernel
abbrev c_Md_check : ByteArray := prog_9_method_15_code
def y_Md_check : MethodName := ⟨R_Md, "check", "([II)I"⟩
abbrev wc_Md_check : Cond := .code y_Md_check c_Md_check 4 (some .int)
abbrev ws_Md_check : List Cond := wc_Md_check :: tb
theorem hd_Md_check : y_Md_check.cls = R_Md ∧ y_Md_check.cls ≠ "java/lang/invoke/MethodHandle" ∧ y_Md_check.cls ≠ "java/lang/invoke/VarHandle" ∧ (parseMethodDescriptor y_Md_check.desc).map (fun d => d.parameters.length) = some 2 := by decide +kernel
abbrev c_Md_pack : ByteArray := prog_9_method_16_code
def y_Md_pack : MethodName := ⟨R_Md, "pack", "()I"⟩
abbrev wc_Md_pack : Cond := .code y_Md_pack c_Md_pack 5 (some .int)
abbrev ws_Md_pack : List Cond := wc_Md_pack :: tb
theorem hd_Md_pack : y_Md_pack.cls = R_Md ∧ y_Md_pack.cls ≠ "java/lang/invoke/MethodHandle" ∧ y_Md_pack.cls ≠ "java/lang/invoke/VarHandle" ∧ (parseMethodDescriptor y_Md_pack.desc).map (fun d => d.parameters.length) = some 0 := by decide +kernel
abbrev c_Md_symbol : ByteArray := prog_9_method_17_code
def y_Md_symbol : MethodName := ⟨R_Md, "symbol", "(I)I"⟩
abbrev wc_Md_symbol : Cond := .code y_Md_symbol c_Md_symbol 2 (some .int)
abbrev ws_Md_symbol : List Cond := wc_Md_symbol :: tb
theorem hd_Md_symbol : y_Md_symbol.cls = R_Md ∧ y_Md_symbol.cls ≠ "java/lang/invoke/MethodHandle" ∧ y_Md_symbol.cls ≠ "java/lang/invoke/VarHandle" ∧ (parseMethodDescriptor y_Md_symbol.desc).map (fun d => d.parameters.length) = some 1 := by decide +kernel
abbrev c_Md_lay : ByteArray := prog_9_method_18_code
def y_Md_lay : MethodName := ⟨R_Md, "lay", "(III)V"⟩
abbrev wc_Md_lay : Cond := .code y_Md_lay c_Md_lay 6 none
abbrev ws_Md_lay : List Cond := wc_Md_lay :: tb
theorem hd_Md_lay : y_Md_lay.cls = R_Md ∧ y_Md_lay.cls ≠ "java/lang/invoke/MethodHandle" ∧ y_Md_lay.cls ≠ "java/lang/invoke/VarHandle" ∧ (parseMethodDescriptor y_Md_lay.desc).map (fun d => d.parameters.length) = some 3 := by decide +kernel
abbrev c_Md_noModule : ByteArray := prog_9_method_19_code
def y_Md_noModule : MethodName := ⟨R_Md, "noModule", "(I)Z"⟩
abbrev wc_Md_noModule : Cond := .code y_Md_noModule c_Md_noModule 1 (some .boolean)
abbrev ws_Md_noModule : List Cond := wc_Md_noModule :: tb
theorem hd_Md_noModule : y_Md_noModule.cls = R_Md ∧ y_Md_noModule.cls ≠ "java/lang/invoke/MethodHandle" ∧ y_Md_noModule.cls ≠ "java/lang/invoke/VarHandle" ∧ (parseMethodDescriptor y_Md_noModule.desc).map (fun d => d.parameters.length) = some 1 := by decide +kernel
abbrev c_Md_bars : ByteArray := prog_9_method_20_code
def y_Md_bars : MethodName := ⟨R_Md, "bars", "(I)I"⟩
abbrev wc_Md_bars : Cond := .code y_Md_bars c_Md_bars 3 (some .int)
abbrev ws_Md_bars : List Cond := wc_Md_bars :: tb
theorem hd_Md_bars : y_Md_bars.cls = R_Md ∧ y_Md_bars.cls ≠ "java/lang/invoke/MethodHandle" ∧ y_Md_bars.cls ≠ "java/lang/invoke/VarHandle" ∧ (parseMethodDescriptor y_Md_bars.desc).map (fun d => d.parameters.length) = some 1 := by decide +kernel
abbrev c_Md_noTwelve : ByteArray := prog_9_method_21_code
def y_Md_noTwelve : MethodName := ⟨R_Md, "noTwelve", "(J)Z"⟩
abbrev wc_Md_noTwelve : Cond := .code y_Md_noTwelve c_Md_noTwelve 2 (some .boolean)
abbrev ws_Md_noTwelve : List Cond := wc_Md_noTwelve :: tb
theorem hd_Md_noTwelve : y_Md_noTwelve.cls = R_Md ∧ y_Md_noTwelve.cls ≠ "java/lang/invoke/MethodHandle" ∧ y_Md_noTwelve.cls ≠ "java/lang/invoke/VarHandle" ∧ (parseMethodDescriptor y_Md_noTwelve.desc).map (fun d => d.parameters.length) = some 1 := by decide +kernel
abbrev c_Md_figure : ByteArray := prog_9_method_22_code
def y_Md_figure : MethodName := ⟨R_Md, "figure", "(JI)I"⟩
abbrev wc_Md_figure : Cond := .code y_Md_figure c_Md_figure 6 (some .int)
abbrev ws_Md_figure : List Cond := wc_Md_figure :: tb
theorem hd_Md_figure : y_Md_figure.cls = R_Md ∧ y_Md_figure.cls ≠ "java/lang/invoke/MethodHandle" ∧ y_Md_figure.cls ≠ "java/lang/invoke/VarHandle" ∧ (parseMethodDescriptor y_Md_figure.desc).map (fun d => d.parameters.length) = some 2 := by decide +kernel
abbrev c_Md_checkFigure : ByteArray := prog_9_method_23_code
def y_Md_checkFigure : MethodName := ⟨R_Md, "checkFigure", "(J)I"⟩
abbrev wc_Md_checkFigure : Cond := .code y_Md_checkFigure c_Md_checkFigure 5 (some .int)
abbrev ws_Md_checkFigure : List Cond := wc_Md_checkFigure :: tb
theorem hd_Md_checkFigure : y_Md_checkFigure.cls = R_Md ∧ y_Md_checkFigure.cls ≠ "java/lang/invoke/MethodHandle" ∧ y_Md_checkFigure.cls ≠ "java/lang/invoke/VarHandle" ∧ (parseMethodDescriptor y_Md_checkFigure.desc).map (fun d => d.parameters.length) = some 1 := by decide +kernel
abbrev c_Md_reversed : ByteArray := prog_9_method_24_code
def y_Md_reversed : MethodName := ⟨R_Md, "reversed", "(I)I"⟩
abbrev wc_Md_reversed : Cond := .code y_Md_reversed c_Md_reversed 1 (some .int)
abbrev ws_Md_reversed : List Cond := wc_Md_reversed :: tb
theorem hd_Md_reversed : y_Md_reversed.cls = R_Md ∧ y_Md_reversed.cls ≠ "java/lang/invoke/MethodHandle" ∧ y_Md_reversed.cls ≠ "java/lang/invoke/VarHandle" ∧ (parseMethodDescriptor y_Md_reversed.desc).map (fun d => d.parameters.length) = some 1 := by decide +kernel
abbrev c_Md_isTurned : ByteArray := prog_9_method_25_code
def y_Md_isTurned : MethodName := ⟨R_Md, "isTurned", "(II)Z"⟩
abbrev wc_Md_isTurned : Cond := .code y_Md_isTurned c_Md_isTurned 3 (some .boolean)
abbrev ws_Md_isTurned : List Cond := wc_Md_isTurned :: tb
theorem hd_Md_isTurned : y_Md_isTurned.cls = R_Md ∧ y_Md_isTurned.cls ≠ "java/lang/invoke/MethodHandle" ∧ y_Md_isTurned.cls ≠ "java/lang/invoke/VarHandle" ∧ (parseMethodDescriptor y_Md_isTurned.desc).map (fun d => d.parameters.length) = some 2 := by decide +kernel
abbrev c_Md_thirteen : ByteArray := prog_9_method_26_code
def y_Md_thirteen : MethodName := ⟨R_Md, "thirteen", "(JI)I"⟩
abbrev wc_Md_thirteen : Cond := .code y_Md_thirteen c_Md_thirteen 7 (some .int)
abbrev ws_Md_thirteen : List Cond := wc_Md_thirteen :: tb
theorem hd_Md_thirteen : y_Md_thirteen.cls = R_Md ∧ y_Md_thirteen.cls ≠ "java/lang/invoke/MethodHandle" ∧ y_Md_thirteen.cls ≠ "java/lang/invoke/VarHandle" ∧ (parseMethodDescriptor y_Md_thirteen.desc).map (fun d => d.parameters.length) = some 2 := by decide +kernel
abbrev c_Md_put : ByteArray := prog_9_method_27_code
def y_Md_put : MethodName := ⟨R_Md, "put", "(IJ)I"⟩
abbrev wc_Md_put : Cond := .code y_Md_put c_Md_put 5 (some .int)
abbrev ws_Md_put : List Cond := wc_Md_put :: tb
theorem hd_Md_put : y_Md_put.cls = R_Md ∧ y_Md_put.cls ≠ "java/lang/invoke/MethodHandle" ∧ y_Md_put.cls ≠ "java/lang/invoke/VarHandle" ∧ (parseMethodDescriptor y_Md_put.desc).map (fun d => d.parameters.length) = some 2 := by decide +kernel
abbrev c_Md_clear : ByteArray := prog_9_method_28_code
def y_Md_clear : MethodName := ⟨R_Md, "clear", "()I"⟩
abbrev wc_Md_clear : Cond := .code y_Md_clear c_Md_clear 2 (some .int)
abbrev ws_Md_clear : List Cond := wc_Md_clear :: tb
theorem hd_Md_clear : y_Md_clear.cls = R_Md ∧ y_Md_clear.cls ≠ "java/lang/invoke/MethodHandle" ∧ y_Md_clear.cls ≠ "java/lang/invoke/VarHandle" ∧ (parseMethodDescriptor y_Md_clear.desc).map (fun d => d.parameters.length) = some 0 := by decide +kernel
abbrev c_Md_width : ByteArray := prog_9_method_29_code
def y_Md_width : MethodName := ⟨R_Md, "width", "(I)I"⟩
abbrev wc_Md_width : Cond := .code y_Md_width c_Md_width 2 (some .int)
abbrev ws_Md_width : List Cond := wc_Md_width :: tb
theorem hd_Md_width : y_Md_width.cls = R_Md ∧ y_Md_width.cls ≠ "java/lang/invoke/MethodHandle" ∧ y_Md_width.cls ≠ "java/lang/invoke/VarHandle" ∧ (parseMethodDescriptor y_Md_width.desc).map (fun d => d.parameters.length) = some 1 := by decide +kernel
abbrev c_Md_spoil : ByteArray := prog_9_method_30_code
def y_Md_spoil : MethodName := ⟨R_Md, "spoil", "(II)I"⟩
abbrev wc_Md_spoil : Cond := .code y_Md_spoil c_Md_spoil 4 (some .int)
abbrev ws_Md_spoil : List Cond := wc_Md_spoil :: tb
theorem hd_Md_spoil : y_Md_spoil.cls = R_Md ∧ y_Md_spoil.cls ≠ "java/lang/invoke/MethodHandle" ∧ y_Md_spoil.cls ≠ "java/lang/invoke/VarHandle" ∧ (parseMethodDescriptor y_Md_spoil.desc).map (fun d => d.parameters.length) = some 2 := by decide +kernel
abbrev c_Md_reverse : ByteArray := prog_9_method_31_code
def y_Md_reverse : MethodName := ⟨R_Md, "reverse", "([I[I)V"⟩
abbrev wc_Md_reverse : Cond := .code y_Md_reverse c_Md_reverse 4 none
abbrev ws_Md_reverse : List Cond := wc_Md_reverse :: tb
theorem hd_Md_reverse : y_Md_reverse.cls = R_Md ∧ y_Md_reverse.cls ≠ "java/lang/invoke/MethodHandle" ∧ y_Md_reverse.cls ≠ "java/lang/invoke/VarHandle" ∧ (parseMethodDescriptor y_Md_reverse.desc).map (fun d => d.parameters.length) = some 2 := by decide +kernel
abbrev c_Md_turn : ByteArray := prog_9_method_32_code
def y_Md_turn : MethodName := ⟨R_Md, "turn", "()I"⟩
abbrev wc_Md_turn : Cond := .code y_Md_turn c_Md_turn 1 (some .int)
abbrev ws_Md_turn : List Cond := wc_Md_turn :: tb
theorem hd_Md_turn : y_Md_turn.cls = R_Md ∧ y_Md_turn.cls ≠ "java/lang/invoke/MethodHandle" ∧ y_Md_turn.cls ≠ "java/lang/invoke/VarHandle" ∧ (parseMethodDescriptor y_Md_turn.desc).map (fun d => d.parameters.length) = some 0 := by decide +kernel
abbrev c_Md_counts : ByteArray := prog_9_method_33_code
def y_Md_counts : MethodName := ⟨R_Md, "counts", "(IIII)I"⟩
abbrev wc_Md_counts : Cond := .code y_Md_counts c_Md_counts 8 (some .int)
abbrev ws_Md_counts : List Cond := wc_Md_counts :: tb
theorem hd_Md_counts : y_Md_counts.cls = R_Md ∧ y_Md_counts.cls ≠ "java/lang/invoke/MethodHandle" ∧ y_Md_counts.cls ≠ "java/lang/invoke/VarHandle" ∧ (parseMethodDescriptor y_Md_counts.desc).map (fun d => d.parameters.length) = some 4 := by decide +kernel
abbrev c_Md_sumOf : ByteArray := prog_9_method_34_code
def y_Md_sumOf : MethodName := ⟨R_Md, "sumOf", "(II)I"⟩
abbrev wc_Md_sumOf : Cond := .code y_Md_sumOf c_Md_sumOf 5 (some .int)
abbrev ws_Md_sumOf : List Cond := wc_Md_sumOf :: tb
theorem hd_Md_sumOf : y_Md_sumOf.cls = R_Md ∧ y_Md_sumOf.cls ≠ "java/lang/invoke/MethodHandle" ∧ y_Md_sumOf.cls ≠ "java/lang/invoke/VarHandle" ∧ (parseMethodDescriptor y_Md_sumOf.desc).map (fun d => d.parameters.length) = some 2 := by decide +kernel
abbrev c_Md_place : ByteArray := prog_9_method_35_code
def y_Md_place : MethodName := ⟨R_Md, "place", "([II)I"⟩
abbrev wc_Md_place : Cond := .code y_Md_place c_Md_place 3 (some .int)
abbrev ws_Md_place : List Cond := wc_Md_place :: tb
theorem hd_Md_place : y_Md_place.cls = R_Md ∧ y_Md_place.cls ≠ "java/lang/invoke/MethodHandle" ∧ y_Md_place.cls ≠ "java/lang/invoke/VarHandle" ∧ (parseMethodDescriptor y_Md_place.desc).map (fun d => d.parameters.length) = some 2 := by decide +kernel
abbrev c_Md_isThirteen : ByteArray := prog_9_method_36_code
def y_Md_isThirteen : MethodName := ⟨R_Md, "isThirteen", "()Z"⟩
abbrev wc_Md_isThirteen : Cond := .code y_Md_isThirteen c_Md_isThirteen 7 (some .boolean)
abbrev ws_Md_isThirteen : List Cond := wc_Md_isThirteen :: tb
theorem hd_Md_isThirteen : y_Md_isThirteen.cls = R_Md ∧ y_Md_isThirteen.cls ≠ "java/lang/invoke/MethodHandle" ∧ y_Md_isThirteen.cls ≠ "java/lang/invoke/VarHandle" ∧ (parseMethodDescriptor y_Md_isThirteen.desc).map (fun d => d.parameters.length) = some 0 := by decide +kernel
abbrev c_Md_tell : ByteArray := prog_9_method_37_code
def y_Md_tell : MethodName := ⟨R_Md, "tell", "(I)V"⟩
abbrev wc_Md_tell : Cond := .code y_Md_tell c_Md_tell 2 none
abbrev ws_Md_tell : List Cond := wc_Md_tell :: tb
theorem hd_Md_tell : y_Md_tell.cls = R_Md ∧ y_Md_tell.cls ≠ "java/lang/invoke/MethodHandle" ∧ y_Md_tell.cls ≠ "java/lang/invoke/VarHandle" ∧ (parseMethodDescriptor y_Md_tell.desc).map (fun d => d.parameters.length) = some 1 := by decide +kernel
abbrev c_Md_isRow : ByteArray := prog_9_method_38_code
def y_Md_isRow : MethodName := ⟨R_Md, "isRow", "(I)Z"⟩
abbrev wc_Md_isRow : Cond := .code y_Md_isRow c_Md_isRow 5 (some .boolean)
abbrev ws_Md_isRow : List Cond := wc_Md_isRow :: tb
theorem hd_Md_isRow : y_Md_isRow.cls = R_Md ∧ y_Md_isRow.cls ≠ "java/lang/invoke/MethodHandle" ∧ y_Md_isRow.cls ≠ "java/lang/invoke/VarHandle" ∧ (parseMethodDescriptor y_Md_isRow.desc).map (fun d => d.parameters.length) = some 1 := by decide +kernel
abbrev c_Md_isSome : ByteArray := prog_9_method_39_code
def y_Md_isSome : MethodName := ⟨R_Md, "isSome", "()Z"⟩
abbrev wc_Md_isSome : Cond := .code y_Md_isSome c_Md_isSome 1 (some .boolean)
abbrev ws_Md_isSome : List Cond := wc_Md_isSome :: tb
theorem hd_Md_isSome : y_Md_isSome.cls = R_Md ∧ y_Md_isSome.cls ≠ "java/lang/invoke/MethodHandle" ∧ y_Md_isSome.cls ≠ "java/lang/invoke/VarHandle" ∧ (parseMethodDescriptor y_Md_isSome.desc).map (fun d => d.parameters.length) = some 0 := by decide +kernel
abbrev c_Md_read : ByteArray := prog_9_method_40_code
def y_Md_read : MethodName := ⟨R_Md, "read", "()I"⟩
abbrev wc_Md_read : Cond := .code y_Md_read c_Md_read 4 (some .int)
abbrev ws_Md_read : List Cond := wc_Md_read :: tb
theorem hd_Md_read : y_Md_read.cls = R_Md ∧ y_Md_read.cls ≠ "java/lang/invoke/MethodHandle" ∧ y_Md_read.cls ≠ "java/lang/invoke/VarHandle" ∧ (parseMethodDescriptor y_Md_read.desc).map (fun d => d.parameters.length) = some 0 := by decide +kernel
abbrev c_Md_sign : ByteArray := prog_9_method_41_code
def y_Md_sign : MethodName := ⟨R_Md, "sign", "(I)I"⟩
abbrev wc_Md_sign : Cond := .code y_Md_sign c_Md_sign 2 (some .int)
abbrev ws_Md_sign : List Cond := wc_Md_sign :: tb
theorem hd_Md_sign : y_Md_sign.cls = R_Md ∧ y_Md_sign.cls ≠ "java/lang/invoke/MethodHandle" ∧ y_Md_sign.cls ≠ "java/lang/invoke/VarHandle" ∧ (parseMethodDescriptor y_Md_sign.desc).map (fun d => d.parameters.length) = some 1 := by decide +kernel
abbrev c_Md_backwards : ByteArray := prog_9_method_42_code
def y_Md_backwards : MethodName := ⟨R_Md, "backwards", "()Z"⟩
abbrev wc_Md_backwards : Cond := .code y_Md_backwards c_Md_backwards 1 (some .boolean)
abbrev ws_Md_backwards : List Cond := wc_Md_backwards :: tb
theorem hd_Md_backwards : y_Md_backwards.cls = R_Md ∧ y_Md_backwards.cls ≠ "java/lang/invoke/MethodHandle" ∧ y_Md_backwards.cls ≠ "java/lang/invoke/VarHandle" ∧ (parseMethodDescriptor y_Md_backwards.desc).map (fun d => d.parameters.length) = some 0 := by decide +kernel
abbrev c_Fi_figureOf : ByteArray := prog_2_method_2_code
def y_Fi_figureOf : MethodName := ⟨R_Fi, "figureOf", "(JI)I"⟩
abbrev wc_Fi_figureOf : Cond := .code y_Fi_figureOf c_Fi_figureOf 6 (some .int)
abbrev ws_Fi_figureOf : List Cond := wc_Fi_figureOf :: tb
theorem hd_Fi_figureOf : y_Fi_figureOf.cls = R_Fi ∧ y_Fi_figureOf.cls ≠ "java/lang/invoke/MethodHandle" ∧ y_Fi_figureOf.cls ≠ "java/lang/invoke/VarHandle" ∧ (parseMethodDescriptor y_Fi_figureOf.desc).map (fun d => d.parameters.length) = some 2 := by decide +kernel
abbrev c_Fi_weightOf : ByteArray := prog_2_method_3_code
def y_Fi_weightOf : MethodName := ⟨R_Fi, "weightOf", "(I)I"⟩
abbrev wc_Fi_weightOf : Cond := .code y_Fi_weightOf c_Fi_weightOf 1 (some .int)
abbrev ws_Fi_weightOf : List Cond := wc_Fi_weightOf :: tb
theorem hd_Fi_weightOf : y_Fi_weightOf.cls = R_Fi ∧ y_Fi_weightOf.cls ≠ "java/lang/invoke/MethodHandle" ∧ y_Fi_weightOf.cls ≠ "java/lang/invoke/VarHandle" ∧ (parseMethodDescriptor y_Fi_weightOf.desc).map (fun d => d.parameters.length) = some 1 := by decide +kernel
abbrev c_Fi_checkOf : ByteArray := prog_2_method_4_code
def y_Fi_checkOf : MethodName := ⟨R_Fi, "checkOf", "(J)I"⟩
abbrev wc_Fi_checkOf : Cond := .code y_Fi_checkOf c_Fi_checkOf 4 (some .int)
abbrev ws_Fi_checkOf : List Cond := wc_Fi_checkOf :: tb
theorem hd_Fi_checkOf : y_Fi_checkOf.cls = R_Fi ∧ y_Fi_checkOf.cls ≠ "java/lang/invoke/MethodHandle" ∧ y_Fi_checkOf.cls ≠ "java/lang/invoke/VarHandle" ∧ (parseMethodDescriptor y_Fi_checkOf.desc).map (fun d => d.parameters.length) = some 1 := by decide +kernel
abbrev c_It_init : ByteArray := prog_3_method_1_code
def y_It_init : MethodName := ⟨R_It, "<init>", "(I)V"⟩
abbrev wc_It_init : Cond := .code y_It_init c_It_init 2 none
abbrev ws_It_init : List Cond := wc_It_init :: tb
theorem hd_It_init : y_It_init.cls = R_It ∧ y_It_init.cls ≠ "java/lang/invoke/MethodHandle" ∧ y_It_init.cls ≠ "java/lang/invoke/VarHandle" ∧ (parseMethodDescriptor y_It_init.desc).map (fun d => d.parameters.length) = some 1 := by decide +kernel
abbrev c_It_count : ByteArray := prog_3_method_2_code
def y_It_count : MethodName := ⟨R_It, "count", "()I"⟩
abbrev wc_It_count : Cond := .code y_It_count c_It_count 1 (some .int)
abbrev ws_It_count : List Cond := wc_It_count :: tb
theorem hd_It_count : y_It_count.cls = R_It ∧ y_It_count.cls ≠ "java/lang/invoke/MethodHandle" ∧ y_It_count.cls ≠ "java/lang/invoke/VarHandle" ∧ (parseMethodDescriptor y_It_count.desc).map (fun d => d.parameters.length) = some 0 := by decide +kernel
abbrev c_It_hasRoomFor : ByteArray := prog_3_method_3_code
def y_It_hasRoomFor : MethodName := ⟨R_It, "hasRoomFor", "(I)Z"⟩
abbrev wc_It_hasRoomFor : Cond := .code y_It_hasRoomFor c_It_hasRoomFor 2 (some .boolean)
abbrev ws_It_hasRoomFor : List Cond := wc_It_hasRoomFor :: tb
theorem hd_It_hasRoomFor : y_It_hasRoomFor.cls = R_It ∧ y_It_hasRoomFor.cls ≠ "java/lang/invoke/MethodHandle" ∧ y_It_hasRoomFor.cls ≠ "java/lang/invoke/VarHandle" ∧ (parseMethodDescriptor y_It_hasRoomFor.desc).map (fun d => d.parameters.length) = some 1 := by decide +kernel
abbrev c_It_at : ByteArray := prog_3_method_4_code
def y_It_at : MethodName := ⟨R_It, "at", "(I)I"⟩
abbrev wc_It_at : Cond := .code y_It_at c_It_at 2 (some .int)
abbrev ws_It_at : List Cond := wc_It_at :: tb
theorem hd_It_at : y_It_at.cls = R_It ∧ y_It_at.cls ≠ "java/lang/invoke/MethodHandle" ∧ y_It_at.cls ≠ "java/lang/invoke/VarHandle" ∧ (parseMethodDescriptor y_It_at.desc).map (fun d => d.parameters.length) = some 1 := by decide +kernel
abbrev c_It_add : ByteArray := prog_3_method_5_code
def y_It_add : MethodName := ⟨R_It, "add", "(I)Z"⟩
abbrev wc_It_add : Cond := .code y_It_add c_It_add 2 (some .boolean)
abbrev ws_It_add : List Cond := wc_It_add :: tb
theorem hd_It_add : y_It_add.cls = R_It ∧ y_It_add.cls ≠ "java/lang/invoke/MethodHandle" ∧ y_It_add.cls ≠ "java/lang/invoke/VarHandle" ∧ (parseMethodDescriptor y_It_add.desc).map (fun d => d.parameters.length) = some 1 := by decide +kernel
abbrev c_It_replace : ByteArray := prog_3_method_6_code
def y_It_replace : MethodName := ⟨R_It, "replace", "(II)I"⟩
abbrev wc_It_replace : Cond := .code y_It_replace c_It_replace 4 (some .int)
abbrev ws_It_replace : List Cond := wc_It_replace :: tb
theorem hd_It_replace : y_It_replace.cls = R_It ∧ y_It_replace.cls ≠ "java/lang/invoke/MethodHandle" ∧ y_It_replace.cls ≠ "java/lang/invoke/VarHandle" ∧ (parseMethodDescriptor y_It_replace.desc).map (fun d => d.parameters.length) = some 2 := by decide +kernel
abbrev c_It_empty : ByteArray := prog_3_method_7_code
def y_It_empty : MethodName := ⟨R_It, "empty", "()I"⟩
abbrev wc_It_empty : Cond := .code y_It_empty c_It_empty 2 (some .int)
abbrev ws_It_empty : List Cond := wc_It_empty :: tb
theorem hd_It_empty : y_It_empty.cls = R_It ∧ y_It_empty.cls ≠ "java/lang/invoke/MethodHandle" ∧ y_It_empty.cls ≠ "java/lang/invoke/VarHandle" ∧ (parseMethodDescriptor y_It_empty.desc).map (fun d => d.parameters.length) = some 0 := by decide +kernel
abbrev c_It_reverse : ByteArray := prog_3_method_8_code
def y_It_reverse : MethodName := ⟨R_It, "reverse", "()V"⟩
abbrev wc_It_reverse : Cond := .code y_It_reverse c_It_reverse 2 none
abbrev ws_It_reverse : List Cond := wc_It_reverse :: tb
theorem hd_It_reverse : y_It_reverse.cls = R_It ∧ y_It_reverse.cls ≠ "java/lang/invoke/MethodHandle" ∧ y_It_reverse.cls ≠ "java/lang/invoke/VarHandle" ∧ (parseMethodDescriptor y_It_reverse.desc).map (fun d => d.parameters.length) = some 0 := by decide +kernel
abbrev c_Pa_init : ByteArray := prog_4_method_1_code
def y_Pa_init : MethodName := ⟨R_Pa, "<init>", "(LLineCodes$Items;LLineCodes$Items;)V"⟩
abbrev wc_Pa_init : Cond := .code y_Pa_init c_Pa_init 3 none
abbrev ws_Pa_init : List Cond := wc_Pa_init :: tb
theorem hd_Pa_init : y_Pa_init.cls = R_Pa ∧ y_Pa_init.cls ≠ "java/lang/invoke/MethodHandle" ∧ y_Pa_init.cls ≠ "java/lang/invoke/VarHandle" ∧ (parseMethodDescriptor y_Pa_init.desc).map (fun d => d.parameters.length) = some 2 := by decide +kernel
abbrev c_Pa_makeRow : ByteArray := prog_4_method_2_code
def y_Pa_makeRow : MethodName := ⟨R_Pa, "makeRow", "()V"⟩
abbrev wc_Pa_makeRow : Cond := .code y_Pa_makeRow c_Pa_makeRow 2 none
abbrev ws_Pa_makeRow : List Cond := wc_Pa_makeRow :: tb
theorem hd_Pa_makeRow : y_Pa_makeRow.cls = R_Pa ∧ y_Pa_makeRow.cls ≠ "java/lang/invoke/MethodHandle" ∧ y_Pa_makeRow.cls ≠ "java/lang/invoke/VarHandle" ∧ (parseMethodDescriptor y_Pa_makeRow.desc).map (fun d => d.parameters.length) = some 0 := by decide +kernel
abbrev c_Pa_fillCosts : ByteArray := prog_4_method_3_code
def y_Pa_fillCosts : MethodName := ⟨R_Pa, "fillCosts", "(I)V"⟩
abbrev wc_Pa_fillCosts : Cond := .code y_Pa_fillCosts c_Pa_fillCosts 5 none
abbrev ws_Pa_fillCosts : List Cond := wc_Pa_fillCosts :: tb
theorem hd_Pa_fillCosts : y_Pa_fillCosts.cls = R_Pa ∧ y_Pa_fillCosts.cls ≠ "java/lang/invoke/MethodHandle" ∧ y_Pa_fillCosts.cls ≠ "java/lang/invoke/VarHandle" ∧ (parseMethodDescriptor y_Pa_fillCosts.desc).map (fun d => d.parameters.length) = some 1 := by decide +kernel
abbrev c_Pa_costOfTelling : ByteArray := prog_4_method_4_code
def y_Pa_costOfTelling : MethodName := ⟨R_Pa, "costOfTelling", "(II)I"⟩
abbrev wc_Pa_costOfTelling : Cond := .code y_Pa_costOfTelling c_Pa_costOfTelling 5 (some .int)
abbrev ws_Pa_costOfTelling : List Cond := wc_Pa_costOfTelling :: tb
theorem hd_Pa_costOfTelling : y_Pa_costOfTelling.cls = R_Pa ∧ y_Pa_costOfTelling.cls ≠ "java/lang/invoke/MethodHandle" ∧ y_Pa_costOfTelling.cls ≠ "java/lang/invoke/VarHandle" ∧ (parseMethodDescriptor y_Pa_costOfTelling.desc).map (fun d => d.parameters.length) = some 2 := by decide +kernel
abbrev c_Pa_addSymbols : ByteArray := prog_4_method_5_code
def y_Pa_addSymbols : MethodName := ⟨R_Pa, "addSymbols", "()V"⟩
abbrev wc_Pa_addSymbols : Cond := .code y_Pa_addSymbols c_Pa_addSymbols 5 none
abbrev ws_Pa_addSymbols : List Cond := wc_Pa_addSymbols :: tb
theorem hd_Pa_addSymbols : y_Pa_addSymbols.cls = R_Pa ∧ y_Pa_addSymbols.cls ≠ "java/lang/invoke/MethodHandle" ∧ y_Pa_addSymbols.cls ≠ "java/lang/invoke/VarHandle" ∧ (parseMethodDescriptor y_Pa_addSymbols.desc).map (fun d => d.parameters.length) = some 0 := by decide +kernel
abbrev c_Pa_cheapestFirstSet : ByteArray := prog_4_method_6_code
def y_Pa_cheapestFirstSet : MethodName := ⟨R_Pa, "cheapestFirstSet", "()I"⟩
abbrev wc_Pa_cheapestFirstSet : Cond := .code y_Pa_cheapestFirstSet c_Pa_cheapestFirstSet 3 (some .int)
abbrev ws_Pa_cheapestFirstSet : List Cond := wc_Pa_cheapestFirstSet :: tb
theorem hd_Pa_cheapestFirstSet : y_Pa_cheapestFirstSet.cls = R_Pa ∧ y_Pa_cheapestFirstSet.cls ≠ "java/lang/invoke/MethodHandle" ∧ y_Pa_cheapestFirstSet.cls ≠ "java/lang/invoke/VarHandle" ∧ (parseMethodDescriptor y_Pa_cheapestFirstSet.desc).map (fun d => d.parameters.length) = some 0 := by decide +kernel
abbrev c_Pa_nextSet : ByteArray := prog_4_method_7_code
def y_Pa_nextSet : MethodName := ⟨R_Pa, "nextSet", "(II)I"⟩
abbrev wc_Pa_nextSet : Cond := .code y_Pa_nextSet c_Pa_nextSet 5 (some .int)
abbrev ws_Pa_nextSet : List Cond := wc_Pa_nextSet :: tb
theorem hd_Pa_nextSet : y_Pa_nextSet.cls = R_Pa ∧ y_Pa_nextSet.cls ≠ "java/lang/invoke/MethodHandle" ∧ y_Pa_nextSet.cls ≠ "java/lang/invoke/VarHandle" ∧ (parseMethodDescriptor y_Pa_nextSet.desc).map (fun d => d.parameters.length) = some 2 := by decide +kernel
abbrev c_Pa_addTold : ByteArray := prog_4_method_8_code
def y_Pa_addTold : MethodName := ⟨R_Pa, "addTold", "(II)I"⟩
abbrev wc_Pa_addTold : Cond := .code y_Pa_addTold c_Pa_addTold 5 (some .int)
abbrev ws_Pa_addTold : List Cond := wc_Pa_addTold :: tb
theorem hd_Pa_addTold : y_Pa_addTold.cls = R_Pa ∧ y_Pa_addTold.cls ≠ "java/lang/invoke/MethodHandle" ∧ y_Pa_addTold.cls ≠ "java/lang/invoke/VarHandle" ∧ (parseMethodDescriptor y_Pa_addTold.desc).map (fun d => d.parameters.length) = some 2 := by decide +kernel
abbrev c_Pa_checkSymbol : ByteArray := prog_4_method_9_code
def y_Pa_checkSymbol : MethodName := ⟨R_Pa, "checkSymbol", "()I"⟩
abbrev wc_Pa_checkSymbol : Cond := .code y_Pa_checkSymbol c_Pa_checkSymbol 3 (some .int)
abbrev ws_Pa_checkSymbol : List Cond := wc_Pa_checkSymbol :: tb
theorem hd_Pa_checkSymbol : y_Pa_checkSymbol.cls = R_Pa ∧ y_Pa_checkSymbol.cls ≠ "java/lang/invoke/MethodHandle" ∧ y_Pa_checkSymbol.cls ≠ "java/lang/invoke/VarHandle" ∧ (parseMethodDescriptor y_Pa_checkSymbol.desc).map (fun d => d.parameters.length) = some 0 := by decide +kernel
abbrev c_Pa_cost : ByteArray := prog_4_method_10_code
def y_Pa_cost : MethodName := ⟨R_Pa, "cost", "(II)I"⟩
abbrev wc_Pa_cost : Cond := .code y_Pa_cost c_Pa_cost 4 (some .int)
abbrev ws_Pa_cost : List Cond := wc_Pa_cost :: tb
theorem hd_Pa_cost : y_Pa_cost.cls = R_Pa ∧ y_Pa_cost.cls ≠ "java/lang/invoke/MethodHandle" ∧ y_Pa_cost.cls ≠ "java/lang/invoke/VarHandle" ∧ (parseMethodDescriptor y_Pa_cost.desc).map (fun d => d.parameters.length) = some 2 := by decide +kernel
abbrev c_Pa_setCost : ByteArray := prog_4_method_11_code
def y_Pa_setCost : MethodName := ⟨R_Pa, "setCost", "(III)V"⟩
abbrev wc_Pa_setCost : Cond := .code y_Pa_setCost c_Pa_setCost 5 none
abbrev ws_Pa_setCost : List Cond := wc_Pa_setCost :: tb
theorem hd_Pa_setCost : y_Pa_setCost.cls = R_Pa ∧ y_Pa_setCost.cls ≠ "java/lang/invoke/MethodHandle" ∧ y_Pa_setCost.cls ≠ "java/lang/invoke/VarHandle" ∧ (parseMethodDescriptor y_Pa_setCost.desc).map (fun d => d.parameters.length) = some 3 := by decide +kernel
abbrev c_Re_init : ByteArray := prog_5_method_1_code
def y_Re_init : MethodName := ⟨R_Re, "<init>", "(LLineCodes$Items;)V"⟩
abbrev wc_Re_init : Cond := .code y_Re_init c_Re_init 2 none
abbrev ws_Re_init : List Cond := wc_Re_init :: tb
theorem hd_Re_init : y_Re_init.cls = R_Re ∧ y_Re_init.cls ≠ "java/lang/invoke/MethodHandle" ∧ y_Re_init.cls ≠ "java/lang/invoke/VarHandle" ∧ (parseMethodDescriptor y_Re_init.desc).map (fun d => d.parameters.length) = some 1 := by decide +kernel
abbrev c_Re_toldCount : ByteArray := prog_5_method_2_code
def y_Re_toldCount : MethodName := ⟨R_Re, "toldCount", "()I"⟩
abbrev wc_Re_toldCount : Cond := .code y_Re_toldCount c_Re_toldCount 1 (some .int)
abbrev ws_Re_toldCount : List Cond := wc_Re_toldCount :: tb
theorem hd_Re_toldCount : y_Re_toldCount.cls = R_Re ∧ y_Re_toldCount.cls ≠ "java/lang/invoke/MethodHandle" ∧ y_Re_toldCount.cls ≠ "java/lang/invoke/VarHandle" ∧ (parseMethodDescriptor y_Re_toldCount.desc).map (fun d => d.parameters.length) = some 0 := by decide +kernel
abbrev c_Re_toldAt : ByteArray := prog_5_method_3_code
def y_Re_toldAt : MethodName := ⟨R_Re, "toldAt", "(I)I"⟩
abbrev wc_Re_toldAt : Cond := .code y_Re_toldAt c_Re_toldAt 2 (some .int)
abbrev ws_Re_toldAt : List Cond := wc_Re_toldAt :: tb
theorem hd_Re_toldAt : y_Re_toldAt.cls = R_Re ∧ y_Re_toldAt.cls ≠ "java/lang/invoke/MethodHandle" ∧ y_Re_toldAt.cls ≠ "java/lang/invoke/VarHandle" ∧ (parseMethodDescriptor y_Re_toldAt.desc).map (fun d => d.parameters.length) = some 1 := by decide +kernel
abbrev c_Re_isFromBack : ByteArray := prog_5_method_4_code
def y_Re_isFromBack : MethodName := ⟨R_Re, "isFromBack", "()Z"⟩
abbrev wc_Re_isFromBack : Cond := .code y_Re_isFromBack c_Re_isFromBack 1 (some .boolean)
abbrev ws_Re_isFromBack : List Cond := wc_Re_isFromBack :: tb
theorem hd_Re_isFromBack : y_Re_isFromBack.cls = R_Re ∧ y_Re_isFromBack.cls ≠ "java/lang/invoke/MethodHandle" ∧ y_Re_isFromBack.cls ≠ "java/lang/invoke/VarHandle" ∧ (parseMethodDescriptor y_Re_isFromBack.desc).map (fun d => d.parameters.length) = some 0 := by decide +kernel
abbrev c_Re_isReadable : ByteArray := prog_5_method_5_code
def y_Re_isReadable : MethodName := ⟨R_Re, "isReadable", "(Z)Z"⟩
abbrev wc_Re_isReadable : Cond := .code y_Re_isReadable c_Re_isReadable 3 (some .boolean)
abbrev ws_Re_isReadable : List Cond := wc_Re_isReadable :: tb
theorem hd_Re_isReadable : y_Re_isReadable.cls = R_Re ∧ y_Re_isReadable.cls ≠ "java/lang/invoke/MethodHandle" ∧ y_Re_isReadable.cls ≠ "java/lang/invoke/VarHandle" ∧ (parseMethodDescriptor y_Re_isReadable.desc).map (fun d => d.parameters.length) = some 1 := by decide +kernel
abbrev c_Re_isThirteen : ByteArray := prog_5_method_6_code
def y_Re_isThirteen : MethodName := ⟨R_Re, "isThirteen", "()Z"⟩
abbrev wc_Re_isThirteen : Cond := .code y_Re_isThirteen c_Re_isThirteen 3 (some .boolean)
abbrev ws_Re_isThirteen : List Cond := wc_Re_isThirteen :: tb
theorem hd_Re_isThirteen : y_Re_isThirteen.cls = R_Re ∧ y_Re_isThirteen.cls ≠ "java/lang/invoke/MethodHandle" ∧ y_Re_isThirteen.cls ≠ "java/lang/invoke/VarHandle" ∧ (parseMethodDescriptor y_Re_isThirteen.desc).map (fun d => d.parameters.length) = some 0 := by decide +kernel
abbrev c_Re_areSidesAndMiddleRight : ByteArray := prog_5_method_7_code
def y_Re_areSidesAndMiddleRight : MethodName := ⟨R_Re, "areSidesAndMiddleRight", "()Z"⟩
abbrev wc_Re_areSidesAndMiddleRight : Cond := .code y_Re_areSidesAndMiddleRight c_Re_areSidesAndMiddleRight 2 (some .boolean)
abbrev ws_Re_areSidesAndMiddleRight : List Cond := wc_Re_areSidesAndMiddleRight :: tb
theorem hd_Re_areSidesAndMiddleRight : y_Re_areSidesAndMiddleRight.cls = R_Re ∧ y_Re_areSidesAndMiddleRight.cls ≠ "java/lang/invoke/MethodHandle" ∧ y_Re_areSidesAndMiddleRight.cls ≠ "java/lang/invoke/VarHandle" ∧ (parseMethodDescriptor y_Re_areSidesAndMiddleRight.desc).map (fun d => d.parameters.length) = some 0 := by decide +kernel
abbrev c_Re_isLeftHalf : ByteArray := prog_5_method_8_code
def y_Re_isLeftHalf : MethodName := ⟨R_Re, "isLeftHalf", "()Z"⟩
abbrev wc_Re_isLeftHalf : Cond := .code y_Re_isLeftHalf c_Re_isLeftHalf 6 (some .boolean)
abbrev ws_Re_isLeftHalf : List Cond := wc_Re_isLeftHalf :: tb
theorem hd_Re_isLeftHalf : y_Re_isLeftHalf.cls = R_Re ∧ y_Re_isLeftHalf.cls ≠ "java/lang/invoke/MethodHandle" ∧ y_Re_isLeftHalf.cls ≠ "java/lang/invoke/VarHandle" ∧ (parseMethodDescriptor y_Re_isLeftHalf.desc).map (fun d => d.parameters.length) = some 0 := by decide +kernel
abbrev c_Re_isRightHalf : ByteArray := prog_5_method_9_code
def y_Re_isRightHalf : MethodName := ⟨R_Re, "isRightHalf", "()Z"⟩
abbrev wc_Re_isRightHalf : Cond := .code y_Re_isRightHalf c_Re_isRightHalf 3 (some .boolean)
abbrev ws_Re_isRightHalf : List Cond := wc_Re_isRightHalf :: tb
theorem hd_Re_isRightHalf : y_Re_isRightHalf.cls = R_Re ∧ y_Re_isRightHalf.cls ≠ "java/lang/invoke/MethodHandle" ∧ y_Re_isRightHalf.cls ≠ "java/lang/invoke/VarHandle" ∧ (parseMethodDescriptor y_Re_isRightHalf.desc).map (fun d => d.parameters.length) = some 0 := by decide +kernel
abbrev c_Re_isRow : ByteArray := prog_5_method_10_code
def y_Re_isRow : MethodName := ⟨R_Re, "isRow", "()Z"⟩
abbrev wc_Re_isRow : Cond := .code y_Re_isRow c_Re_isRow 7 (some .boolean)
abbrev ws_Re_isRow : List Cond := wc_Re_isRow :: tb
theorem hd_Re_isRow : y_Re_isRow.cls = R_Re ∧ y_Re_isRow.cls ≠ "java/lang/invoke/MethodHandle" ∧ y_Re_isRow.cls ≠ "java/lang/invoke/VarHandle" ∧ (parseMethodDescriptor y_Re_isRow.desc).map (fun d => d.parameters.length) = some 0 := by decide +kernel
abbrev c_Re_isTold : ByteArray := prog_5_method_11_code
def y_Re_isTold : MethodName := ⟨R_Re, "isTold", "(I)Z"⟩
abbrev wc_Re_isTold : Cond := .code y_Re_isTold c_Re_isTold 2 (some .boolean)
abbrev ws_Re_isTold : List Cond := wc_Re_isTold :: tb
theorem hd_Re_isTold : y_Re_isTold.cls = R_Re ∧ y_Re_isTold.cls ≠ "java/lang/invoke/MethodHandle" ∧ y_Re_isTold.cls ≠ "java/lang/invoke/VarHandle" ∧ (parseMethodDescriptor y_Re_isTold.desc).map (fun d => d.parameters.length) = some 1 := by decide +kernel
abbrev c_Re_isSwitched : ByteArray := prog_5_method_12_code
def y_Re_isSwitched : MethodName := ⟨R_Re, "isSwitched", "(I)Z"⟩
abbrev wc_Re_isSwitched : Cond := .code y_Re_isSwitched c_Re_isSwitched 3 (some .boolean)
abbrev ws_Re_isSwitched : List Cond := wc_Re_isSwitched :: tb
theorem hd_Re_isSwitched : y_Re_isSwitched.cls = R_Re ∧ y_Re_isSwitched.cls ≠ "java/lang/invoke/MethodHandle" ∧ y_Re_isSwitched.cls ≠ "java/lang/invoke/VarHandle" ∧ (parseMethodDescriptor y_Re_isSwitched.desc).map (fun d => d.parameters.length) = some 1 := by decide +kernel
abbrev c_Re_figureCountsAt : ByteArray := prog_5_method_13_code
def y_Re_figureCountsAt : MethodName := ⟨R_Re, "figureCountsAt", "(I)I"⟩
abbrev wc_Re_figureCountsAt : Cond := .code y_Re_figureCountsAt c_Re_figureCountsAt 3 (some .int)
abbrev ws_Re_figureCountsAt : List Cond := wc_Re_figureCountsAt :: tb
theorem hd_Re_figureCountsAt : y_Re_figureCountsAt.cls = R_Re ∧ y_Re_figureCountsAt.cls ≠ "java/lang/invoke/MethodHandle" ∧ y_Re_figureCountsAt.cls ≠ "java/lang/invoke/VarHandle" ∧ (parseMethodDescriptor y_Re_figureCountsAt.desc).map (fun d => d.parameters.length) = some 1 := by decide +kernel
abbrev c_Re_symbolAt : ByteArray := prog_5_method_14_code
def y_Re_symbolAt : MethodName := ⟨R_Re, "symbolAt", "(I)I"⟩
abbrev wc_Re_symbolAt : Cond := .code y_Re_symbolAt c_Re_symbolAt 3 (some .int)
abbrev ws_Re_symbolAt : List Cond := wc_Re_symbolAt :: tb
theorem hd_Re_symbolAt : y_Re_symbolAt.cls = R_Re ∧ y_Re_symbolAt.cls ≠ "java/lang/invoke/MethodHandle" ∧ y_Re_symbolAt.cls ≠ "java/lang/invoke/VarHandle" ∧ (parseMethodDescriptor y_Re_symbolAt.desc).map (fun d => d.parameters.length) = some 1 := by decide +kernel
abbrev c_Re_isLastAt : ByteArray := prog_5_method_15_code
def y_Re_isLastAt : MethodName := ⟨R_Re, "isLastAt", "(I)Z"⟩
abbrev wc_Re_isLastAt : Cond := .code y_Re_isLastAt c_Re_isLastAt 3 (some .boolean)
abbrev ws_Re_isLastAt : List Cond := wc_Re_isLastAt :: tb
theorem hd_Re_isLastAt : y_Re_isLastAt.cls = R_Re ∧ y_Re_isLastAt.cls ≠ "java/lang/invoke/MethodHandle" ∧ y_Re_isLastAt.cls ≠ "java/lang/invoke/VarHandle" ∧ (parseMethodDescriptor y_Re_isLastAt.desc).map (fun d => d.parameters.length) = some 1 := by decide +kernel
abbrev c_Re_sumOf : ByteArray := prog_5_method_16_code
def y_Re_sumOf : MethodName := ⟨R_Re, "sumOf", "(II)I"⟩
abbrev wc_Re_sumOf : Cond := .code y_Re_sumOf c_Re_sumOf 5 (some .int)
abbrev ws_Re_sumOf : List Cond := wc_Re_sumOf :: tb
theorem hd_Re_sumOf : y_Re_sumOf.cls = R_Re ∧ y_Re_sumOf.cls ≠ "java/lang/invoke/MethodHandle" ∧ y_Re_sumOf.cls ≠ "java/lang/invoke/VarHandle" ∧ (parseMethodDescriptor y_Re_sumOf.desc).map (fun d => d.parameters.length) = some 2 := by decide +kernel
abbrev c_Re_countsOf : ByteArray := prog_5_method_17_code
def y_Re_countsOf : MethodName := ⟨R_Re, "countsOf", "(IIII)I"⟩
abbrev wc_Re_countsOf : Cond := .code y_Re_countsOf c_Re_countsOf 8 (some .int)
abbrev ws_Re_countsOf : List Cond := wc_Re_countsOf :: tb
theorem hd_Re_countsOf : y_Re_countsOf.cls = R_Re ∧ y_Re_countsOf.cls ≠ "java/lang/invoke/MethodHandle" ∧ y_Re_countsOf.cls ≠ "java/lang/invoke/VarHandle" ∧ (parseMethodDescriptor y_Re_countsOf.desc).map (fun d => d.parameters.length) = some 4 := by decide +kernel
abbrev c_Se_isFirst : ByteArray := prog_6_method_2_code
def y_Se_isFirst : MethodName := ⟨R_Se, "isFirst", "(I)Z"⟩
abbrev wc_Se_isFirst : Cond := .code y_Se_isFirst c_Se_isFirst 1 (some .boolean)
abbrev ws_Se_isFirst : List Cond := wc_Se_isFirst :: tb
theorem hd_Se_isFirst : y_Se_isFirst.cls = R_Se ∧ y_Se_isFirst.cls ≠ "java/lang/invoke/MethodHandle" ∧ y_Se_isFirst.cls ≠ "java/lang/invoke/VarHandle" ∧ (parseMethodDescriptor y_Se_isFirst.desc).map (fun d => d.parameters.length) = some 1 := by decide +kernel
abbrev c_Se_firstOf : ByteArray := prog_6_method_3_code
def y_Se_firstOf : MethodName := ⟨R_Se, "firstOf", "(I)I"⟩
abbrev wc_Se_firstOf : Cond := .code y_Se_firstOf c_Se_firstOf 1 (some .int)
abbrev ws_Se_firstOf : List Cond := wc_Se_firstOf :: tb
theorem hd_Se_firstOf : y_Se_firstOf.cls = R_Se ∧ y_Se_firstOf.cls ≠ "java/lang/invoke/MethodHandle" ∧ y_Se_firstOf.cls ≠ "java/lang/invoke/VarHandle" ∧ (parseMethodDescriptor y_Se_firstOf.desc).map (fun d => d.parameters.length) = some 1 := by decide +kernel
abbrev c_Se_switchTo : ByteArray := prog_6_method_4_code
def y_Se_switchTo : MethodName := ⟨R_Se, "switchTo", "(I)I"⟩
abbrev wc_Se_switchTo : Cond := .code y_Se_switchTo c_Se_switchTo 1 (some .int)
abbrev ws_Se_switchTo : List Cond := wc_Se_switchTo :: tb
theorem hd_Se_switchTo : y_Se_switchTo.cls = R_Se ∧ y_Se_switchTo.cls ≠ "java/lang/invoke/MethodHandle" ∧ y_Se_switchTo.cls ≠ "java/lang/invoke/VarHandle" ∧ (parseMethodDescriptor y_Se_switchTo.desc).map (fun d => d.parameters.length) = some 1 := by decide +kernel
abbrev c_Se_setAfter : ByteArray := prog_6_method_5_code
def y_Se_setAfter : MethodName := ⟨R_Se, "setAfter", "(II)I"⟩
abbrev wc_Se_setAfter : Cond := .code y_Se_setAfter c_Se_setAfter 3 (some .int)
abbrev ws_Se_setAfter : List Cond := wc_Se_setAfter :: tb
theorem hd_Se_setAfter : y_Se_setAfter.cls = R_Se ∧ y_Se_setAfter.cls ≠ "java/lang/invoke/MethodHandle" ∧ y_Se_setAfter.cls ≠ "java/lang/invoke/VarHandle" ∧ (parseMethodDescriptor y_Se_setAfter.desc).map (fun d => d.parameters.length) = some 2 := by decide +kernel
abbrev c_Se_otherOfAB : ByteArray := prog_6_method_6_code
def y_Se_otherOfAB : MethodName := ⟨R_Se, "otherOfAB", "(I)I"⟩
abbrev wc_Se_otherOfAB : Cond := .code y_Se_otherOfAB c_Se_otherOfAB 1 (some .int)
abbrev ws_Se_otherOfAB : List Cond := wc_Se_otherOfAB :: tb
theorem hd_Se_otherOfAB : y_Se_otherOfAB.cls = R_Se ∧ y_Se_otherOfAB.cls ≠ "java/lang/invoke/MethodHandle" ∧ y_Se_otherOfAB.cls ≠ "java/lang/invoke/VarHandle" ∧ (parseMethodDescriptor y_Se_otherOfAB.desc).map (fun d => d.parameters.length) = some 1 := by decide +kernel
abbrev c_Se_symbolOf : ByteArray := prog_6_method_7_code
def y_Se_symbolOf : MethodName := ⟨R_Se, "symbolOf", "(II)I"⟩
abbrev wc_Se_symbolOf : Cond := .code y_Se_symbolOf c_Se_symbolOf 2 (some .int)
abbrev ws_Se_symbolOf : List Cond := wc_Se_symbolOf :: tb
theorem hd_Se_symbolOf : y_Se_symbolOf.cls = R_Se ∧ y_Se_symbolOf.cls ≠ "java/lang/invoke/MethodHandle" ∧ y_Se_symbolOf.cls ≠ "java/lang/invoke/VarHandle" ∧ (parseMethodDescriptor y_Se_symbolOf.desc).map (fun d => d.parameters.length) = some 2 := by decide +kernel
abbrev c_Se_signOf : ByteArray := prog_6_method_8_code
def y_Se_signOf : MethodName := ⟨R_Se, "signOf", "(II)I"⟩
abbrev wc_Se_signOf : Cond := .code y_Se_signOf c_Se_signOf 2 (some .int)
abbrev ws_Se_signOf : List Cond := wc_Se_signOf :: tb
theorem hd_Se_signOf : y_Se_signOf.cls = R_Se ∧ y_Se_signOf.cls ≠ "java/lang/invoke/MethodHandle" ∧ y_Se_signOf.cls ≠ "java/lang/invoke/VarHandle" ∧ (parseMethodDescriptor y_Se_signOf.desc).map (fun d => d.parameters.length) = some 2 := by decide +kernel
abbrev c_Se_pairOf : ByteArray := prog_6_method_9_code
def y_Se_pairOf : MethodName := ⟨R_Se, "pairOf", "(II)I"⟩
abbrev wc_Se_pairOf : Cond := .code y_Se_pairOf c_Se_pairOf 2 (some .int)
abbrev ws_Se_pairOf : List Cond := wc_Se_pairOf :: tb
theorem hd_Se_pairOf : y_Se_pairOf.cls = R_Se ∧ y_Se_pairOf.cls ≠ "java/lang/invoke/MethodHandle" ∧ y_Se_pairOf.cls ≠ "java/lang/invoke/VarHandle" ∧ (parseMethodDescriptor y_Se_pairOf.desc).map (fun d => d.parameters.length) = some 2 := by decide +kernel
abbrev c_Se_isFigure : ByteArray := prog_6_method_10_code
def y_Se_isFigure : MethodName := ⟨R_Se, "isFigure", "(I)Z"⟩
abbrev wc_Se_isFigure : Cond := .code y_Se_isFigure c_Se_isFigure 1 (some .boolean)
abbrev ws_Se_isFigure : List Cond := wc_Se_isFigure :: tb
theorem hd_Se_isFigure : y_Se_isFigure.cls = R_Se ∧ y_Se_isFigure.cls ≠ "java/lang/invoke/MethodHandle" ∧ y_Se_isFigure.cls ≠ "java/lang/invoke/VarHandle" ∧ (parseMethodDescriptor y_Se_isFigure.desc).map (fun d => d.parameters.length) = some 1 := by decide +kernel
abbrev c_Wi_ofSymbol : ByteArray := prog_7_method_2_code
def y_Wi_ofSymbol : MethodName := ⟨R_Wi, "ofSymbol", "(I)I"⟩
abbrev wc_Wi_ofSymbol : Cond := .code y_Wi_ofSymbol c_Wi_ofSymbol 1 (some .int)
abbrev ws_Wi_ofSymbol : List Cond := wc_Wi_ofSymbol :: tb
theorem hd_Wi_ofSymbol : y_Wi_ofSymbol.cls = R_Wi ∧ y_Wi_ofSymbol.cls ≠ "java/lang/invoke/MethodHandle" ∧ y_Wi_ofSymbol.cls ≠ "java/lang/invoke/VarHandle" ∧ (parseMethodDescriptor y_Wi_ofSymbol.desc).map (fun d => d.parameters.length) = some 1 := by decide +kernel
abbrev c_Wi_ofFigure : ByteArray := prog_7_method_3_code
def y_Wi_ofFigure : MethodName := ⟨R_Wi, "ofFigure", "(I)I"⟩
abbrev wc_Wi_ofFigure : Cond := .code y_Wi_ofFigure c_Wi_ofFigure 1 (some .int)
abbrev ws_Wi_ofFigure : List Cond := wc_Wi_ofFigure :: tb
theorem hd_Wi_ofFigure : y_Wi_ofFigure.cls = R_Wi ∧ y_Wi_ofFigure.cls ≠ "java/lang/invoke/MethodHandle" ∧ y_Wi_ofFigure.cls ≠ "java/lang/invoke/VarHandle" ∧ (parseMethodDescriptor y_Wi_ofFigure.desc).map (fun d => d.parameters.length) = some 1 := by decide +kernel
abbrev c_Wi_turnsOf : ByteArray := prog_7_method_4_code
def y_Wi_turnsOf : MethodName := ⟨R_Wi, "turnsOf", "(I)I"⟩
abbrev wc_Wi_turnsOf : Cond := .code y_Wi_turnsOf c_Wi_turnsOf 1 (some .int)
abbrev ws_Wi_turnsOf : List Cond := wc_Wi_turnsOf :: tb
theorem hd_Wi_turnsOf : y_Wi_turnsOf.cls = R_Wi ∧ y_Wi_turnsOf.cls ≠ "java/lang/invoke/MethodHandle" ∧ y_Wi_turnsOf.cls ≠ "java/lang/invoke/VarHandle" ∧ (parseMethodDescriptor y_Wi_turnsOf.desc).map (fun d => d.parameters.length) = some 1 := by decide +kernel
abbrev c_Wi_symbolWith : ByteArray := prog_7_method_5_code
def y_Wi_symbolWith : MethodName := ⟨R_Wi, "symbolWith", "(I)I"⟩
abbrev wc_Wi_symbolWith : Cond := .code y_Wi_symbolWith c_Wi_symbolWith 1 (some .int)
abbrev ws_Wi_symbolWith : List Cond := wc_Wi_symbolWith :: tb
theorem hd_Wi_symbolWith : y_Wi_symbolWith.cls = R_Wi ∧ y_Wi_symbolWith.cls ≠ "java/lang/invoke/MethodHandle" ∧ y_Wi_symbolWith.cls ≠ "java/lang/invoke/VarHandle" ∧ (parseMethodDescriptor y_Wi_symbolWith.desc).map (fun d => d.parameters.length) = some 1 := by decide +kernel
abbrev c_Wi_figureWith : ByteArray := prog_7_method_6_code
def y_Wi_figureWith : MethodName := ⟨R_Wi, "figureWith", "(I)I"⟩
abbrev wc_Wi_figureWith : Cond := .code y_Wi_figureWith c_Wi_figureWith 1 (some .int)
abbrev ws_Wi_figureWith : List Cond := wc_Wi_figureWith :: tb
theorem hd_Wi_figureWith : y_Wi_figureWith.cls = R_Wi ∧ y_Wi_figureWith.cls ≠ "java/lang/invoke/MethodHandle" ∧ y_Wi_figureWith.cls ≠ "java/lang/invoke/VarHandle" ∧ (parseMethodDescriptor y_Wi_figureWith.desc).map (fun d => d.parameters.length) = some 1 := by decide +kernel
abbrev c_Wi_firstFigureWith : ByteArray := prog_7_method_7_code
def y_Wi_firstFigureWith : MethodName := ⟨R_Wi, "firstFigureWith", "(I)I"⟩
abbrev wc_Wi_firstFigureWith : Cond := .code y_Wi_firstFigureWith c_Wi_firstFigureWith 1 (some .int)
abbrev ws_Wi_firstFigureWith : List Cond := wc_Wi_firstFigureWith :: tb
theorem hd_Wi_firstFigureWith : y_Wi_firstFigureWith.cls = R_Wi ∧ y_Wi_firstFigureWith.cls ≠ "java/lang/invoke/MethodHandle" ∧ y_Wi_firstFigureWith.cls ≠ "java/lang/invoke/VarHandle" ∧ (parseMethodDescriptor y_Wi_firstFigureWith.desc).map (fun d => d.parameters.length) = some 1 := by decide +kernel
abbrev c_Wi_turned : ByteArray := prog_7_method_8_code
def y_Wi_turned : MethodName := ⟨R_Wi, "turned", "(I)I"⟩
abbrev wc_Wi_turned : Cond := .code y_Wi_turned c_Wi_turned 1 (some .int)
abbrev ws_Wi_turned : List Cond := wc_Wi_turned :: tb
theorem hd_Wi_turned : y_Wi_turned.cls = R_Wi ∧ y_Wi_turned.cls ≠ "java/lang/invoke/MethodHandle" ∧ y_Wi_turned.cls ≠ "java/lang/invoke/VarHandle" ∧ (parseMethodDescriptor y_Wi_turned.desc).map (fun d => d.parameters.length) = some 1 := by decide +kernel
abbrev c_Wi_entry : ByteArray := prog_7_method_9_code
def y_Wi_entry : MethodName := ⟨R_Wi, "entry", "([II)I"⟩
abbrev wc_Wi_entry : Cond := .code y_Wi_entry c_Wi_entry 2 (some .int)
abbrev ws_Wi_entry : List Cond := wc_Wi_entry :: tb
theorem hd_Wi_entry : y_Wi_entry.cls = R_Wi ∧ y_Wi_entry.cls ≠ "java/lang/invoke/MethodHandle" ∧ y_Wi_entry.cls ≠ "java/lang/invoke/VarHandle" ∧ (parseMethodDescriptor y_Wi_entry.desc).map (fun d => d.parameters.length) = some 2 := by decide +kernel
abbrev c_Wi_placeOf : ByteArray := prog_7_method_10_code
def y_Wi_placeOf : MethodName := ⟨R_Wi, "placeOf", "([II)I"⟩
abbrev wc_Wi_placeOf : Cond := .code y_Wi_placeOf c_Wi_placeOf 3 (some .int)
abbrev ws_Wi_placeOf : List Cond := wc_Wi_placeOf :: tb
theorem hd_Wi_placeOf : y_Wi_placeOf.cls = R_Wi ∧ y_Wi_placeOf.cls ≠ "java/lang/invoke/MethodHandle" ∧ y_Wi_placeOf.cls ≠ "java/lang/invoke/VarHandle" ∧ (parseMethodDescriptor y_Wi_placeOf.desc).map (fun d => d.parameters.length) = some 2 := by decide +kernel
abbrev c_Lw_write : ByteArray := method_3_code
def y_Lw_write : MethodName := ⟨R_Lw, "write", "(LLineCodes;IJ[J)I"⟩
abbrev wc_Lw_write : Cond := .codeWith y_Lw_write c_Lw_write 6 (some .int) [(0, 11, 14, 13)]
abbrev ws_Lw_write : List Cond := wc_Lw_write :: tb
theorem hd_Lw_write : y_Lw_write.cls = R_Lw ∧ y_Lw_write.cls ≠ "java/lang/invoke/MethodHandle" ∧ y_Lw_write.cls ≠ "java/lang/invoke/VarHandle" ∧ (parseMethodDescriptor y_Lw_write.desc).map (fun d => d.parameters.length) = some 4 := by decide +kernel
abbrev c_Lw_bars : ByteArray := method_4_code
def y_Lw_bars : MethodName := ⟨R_Lw, "bars", "(LLineCodes;I[J)I"⟩
abbrev wc_Lw_bars : Cond := .codeWith y_Lw_bars c_Lw_bars 4 (some .int) [(0, 9, 12, 13), (0, 9, 15, 19)]
abbrev ws_Lw_bars : List Cond := wc_Lw_bars :: tb
theorem hd_Lw_bars : y_Lw_bars.cls = R_Lw ∧ y_Lw_bars.cls ≠ "java/lang/invoke/MethodHandle" ∧ y_Lw_bars.cls ≠ "java/lang/invoke/VarHandle" ∧ (parseMethodDescriptor y_Lw_bars.desc).map (fun d => d.parameters.length) = some 3 := by decide +kernel
abbrev c_Lw_checkFigure : ByteArray := method_5_code
def y_Lw_checkFigure : MethodName := ⟨R_Lw, "checkFigure", "(LLineCodes;J[J)I"⟩
abbrev wc_Lw_checkFigure : Cond := .codeWith y_Lw_checkFigure c_Lw_checkFigure 5 (some .int) [(0, 9, 12, 13)]
abbrev ws_Lw_checkFigure : List Cond := wc_Lw_checkFigure :: tb
theorem hd_Lw_checkFigure : y_Lw_checkFigure.cls = R_Lw ∧ y_Lw_checkFigure.cls ≠ "java/lang/invoke/MethodHandle" ∧ y_Lw_checkFigure.cls ≠ "java/lang/invoke/VarHandle" ∧ (parseMethodDescriptor y_Lw_checkFigure.desc).map (fun d => d.parameters.length) = some 3 := by decide +kernel
abbrev c_Lw_thirteen : ByteArray := method_6_code
def y_Lw_thirteen : MethodName := ⟨R_Lw, "thirteen", "(LLineCodes;JI[J)I"⟩
abbrev wc_Lw_thirteen : Cond := .codeWith y_Lw_thirteen c_Lw_thirteen 6 (some .int) [(0, 11, 14, 13)]
abbrev ws_Lw_thirteen : List Cond := wc_Lw_thirteen :: tb
theorem hd_Lw_thirteen : y_Lw_thirteen.cls = R_Lw ∧ y_Lw_thirteen.cls ≠ "java/lang/invoke/MethodHandle" ∧ y_Lw_thirteen.cls ≠ "java/lang/invoke/VarHandle" ∧ (parseMethodDescriptor y_Lw_thirteen.desc).map (fun d => d.parameters.length) = some 4 := by decide +kernel
abbrev c_Lw_put : ByteArray := method_7_code
def y_Lw_put : MethodName := ⟨R_Lw, "put", "(LLineCodes;IJ[J)I"⟩
abbrev wc_Lw_put : Cond := .codeWith y_Lw_put c_Lw_put 6 (some .int) [(0, 11, 14, 13)]
abbrev ws_Lw_put : List Cond := wc_Lw_put :: tb
theorem hd_Lw_put : y_Lw_put.cls = R_Lw ∧ y_Lw_put.cls ≠ "java/lang/invoke/MethodHandle" ∧ y_Lw_put.cls ≠ "java/lang/invoke/VarHandle" ∧ (parseMethodDescriptor y_Lw_put.desc).map (fun d => d.parameters.length) = some 4 := by decide +kernel
abbrev c_Lw_spoil : ByteArray := method_8_code
def y_Lw_spoil : MethodName := ⟨R_Lw, "spoil", "(LLineCodes;II[J)I"⟩
abbrev wc_Lw_spoil : Cond := .codeWith y_Lw_spoil c_Lw_spoil 5 (some .int) [(0, 10, 13, 36), (0, 10, 17, 13)]
abbrev ws_Lw_spoil : List Cond := wc_Lw_spoil :: tb
theorem hd_Lw_spoil : y_Lw_spoil.cls = R_Lw ∧ y_Lw_spoil.cls ≠ "java/lang/invoke/MethodHandle" ∧ y_Lw_spoil.cls ≠ "java/lang/invoke/VarHandle" ∧ (parseMethodDescriptor y_Lw_spoil.desc).map (fun d => d.parameters.length) = some 4 := by decide +kernel
abbrev c_Lw_law : ByteArray := code
def y_Lw_law : MethodName := ⟨R_Lw, "law", "([I)Z"⟩
end
section
/-! Calls in one row: the callee's cells are cut out of the world, the contract is used, what came back is joined. -/
/-- facts of the tables and statics that outlive every call: they move with alike machines, stay where their cells stay, and hold of fewer places -/
def zk (Z : (Nat → Prop) → State → Heap → Prop) : Prop := (∀ (A : Nat → Prop) (u U : State) (H : Heap), u.WarmedH U.vm → Z A u H → Z A U H) ∧ (∀ (A : Nat → Prop) (U : State) (H H1 : Heap), Z A U H → (∀ a : Nat, a < H.size → ¬ A a → H1[a]? = H[a]?) → Z A U H1) ∧ (∀ (A B : Nat → Prop) (U : State) (H : Heap), Z A U H → (∀ q, B q → A q) → Z B U H)
theorem zk_to {Z : (Nat → Prop) → State → Heap → Prop} (hz : zk Z) {A B : Nat → Prop} {s U : State} {H : Heap} {locs : List Loc} (h : Z A s s.heap) (hS : va_S A s.heap H locs) (hAB : ∀ q, B q → A q) (hU : U.heap = H) (hv : s.WarmedH U.vm) : Z B U U.heap := by
  rw [hU]
  exact hz.2.2 _ _ _ _ (hz.1 _ _ _ _ hv (hz.2.1 _ _ _ _ h hS.2.1)) hAB
/-- a start of a method that only reads: the world, the array classes, the statics -/
def ro_ (D : va_G) (cl : List vw_C) (tys : List (ClassId × FieldType)) (ws : va_W) (Z : (Nat → Prop) → State → Heap → Prop) : State → Prop := fun U => va_P D cl ws U.heap ∧ va_K D cl tys U ∧ Z (fun _ => False) U U.heap
/-- a start of a method that writes -/
def rw_ (D : va_G) (cl : List vw_C) (tys : List (ClassId × FieldType)) (ws : va_W) (Z : (Nat → Prop) → State → Heap → Prop) (sz : Nat) : State → Prop := fun U => U.heap.size = sz ∧ va_P D cl ws U.heap ∧ va_K D cl tys U ∧ va_D (fun _ => True) ws ∧ Z (va_A ws sz) U U.heap
/-- the world behind a method -/
def at_ (D : va_G) (cl : List vw_C) (tys : List (ClassId × FieldType)) (A : Nat → Prop) (ws : va_W) (t : State) : Prop := va_P D cl ws t.heap ∧ va_K D cl tys t ∧ va_D A ws
theorem ro_blind {Z : (Nat → Prop) → State → Heap → Prop} (hz : zk Z) {D : va_G} {cl : List vw_C} {tys : List (ClassId × FieldType)} {ws : va_W} {av : List Value} : FrameBlind (va_Pc av (ro_ D cl tys ws Z)) := by
  intro a U g mk q
  obtain ⟨q0, qP, qK, qZ⟩ := q
  exact ⟨q0, qP, va_K.moved (u := U) (U := U.calling g mk a) (Vm.Alike.refl U.vm) qK, hz.1 _ U (U.calling g mk a) _ (State.WarmedH.refl U) qZ⟩
theorem rw_blind {Z : (Nat → Prop) → State → Heap → Prop} (hz : zk Z) {D : va_G} {cl : List vw_C} {tys : List (ClassId × FieldType)} {ws : va_W} {av : List Value} {sz : Nat} : FrameBlind (va_Pc av (rw_ D cl tys ws Z sz)) := by
  intro a U g mk q
  obtain ⟨q0, q1, qP, qK, qD, qZ⟩ := q
  exact ⟨q0, q1, qP, va_K.moved (u := U) (U := U.calling g mk a) (Vm.Alike.refl U.vm) qK, qD, hz.1 _ U (U.calling g mk a) _ (State.WarmedH.refl U) qZ⟩
section KCALLS
variable {p : Program} {l : Launch} {e : Env} {R : Room} {s : State} {m : MethodId} {args : Array Value} {below : List Frame} {meth : Method} {c : Code} {H : Heap} {locs : List Loc} {cells slots : Nat} {Q : State → Prop}
variable {cc : ByteArray} {pc nL n index : Nat} {ls : Array Slot} {st0 rest As : List Value} {Ts wsy : List Cond} {own C : String} {y : MethodName} {bytes : ByteArray} {maxL : Nat} {ret : Option FieldType} {rm : Room}
variable {D : va_G} {cl : List vw_C} {tys tysc : List (ClassId × FieldType)} {ws wc wr : va_W} {A : Nat → Prop} {Z : (Nat → Prop) → State → Heap → Prop} {b : Nat}
theorem ro_pre {av : List Value} (hz : zk Z) (isC isT : List Nat) (hP : va_P D cl ws H) (hK : va_K D cl tys s) (hZ : Z A s s.heap) (hS : va_S A s.heap H locs) (hC : isC.filterMap (fun i => ws[i]?) = wc) (hT : isT.filterMap (fun i => tys[i]?) = tysc) : ∀ U : State, U.heap = H → s.WarmedH U.vm → va_Pc av (ro_ D cl tysc wc Z) av.toArray U := by
  intro U hU hW
  exact ⟨rfl, by rw [hU]; exact hP.sub isC hC, va_K.moved hW.alike (hK.sub isT hT), zk_to hz hZ hS (fun _ h => h.elim) hU hW⟩
/-- a reader of an object: int answer -/
theorem k_roVi {post : Int32 → Prop} (hz : zk Z) (isC isT : List Nat) (q0 ci : Nat) (S : CallFix p m c cc nL s args Ts own) (hM : Met l y wsy rm (va_Pc (.ref b :: As) (ro_ D cl tysc wc Z)) (vp_Si post) 0 0 (fun _ => False)) (cw : CallW R s args own C index y bytes maxL ret wsy rm 0 0 n)
    (hP : va_P D cl ws H) (hK : va_K D cl tys s) (hZ : Z A s s.heap) (hS : va_S A s.heap H locs) (hC : isC.filterMap (fun i => ws[i]?) = wc) (hT : isT.filterMap (fun i => tys[i]?) = tysc) {fs : List Value} {T : u_T} {N : Nat} (he : ws[q0]? = some (b, .inr (ci, fs))) (hc : cl[ci]? = some (C, T, N))
    (hn : As.length = n) (hsize : ls.size = nL) (hst : st0 = As.reverse ++ .ref b :: rest) (hW : (rest.map fun v => v.category).sum ≤ 8) (hdg : decode cc pc = .ok (.invokevirtual index, 3)) (hf : cells ≤ R.cells ∧ slots ≤ R.slots)
    (kk : ∀ r : Int32, post r → W p l e R s m args below meth c H locs cells slots Q (F0 m (pc + 3) ls (.int r :: rest))) : W p l e R s m args below meth c H locs cells slots Q (F0 m pc ls st0) :=
  vp_callSi (va_runV (As := As) (rest := rest) S hM cw ⟨ro_blind hz, va_recv hK hP hc he, ro_pre hz isC isT hP hK hZ hS hC hT⟩ rfl hn hsize hst (lv_room hW) hdg hf).run kk
/-- a static reader: int answer -/
theorem k_roSi {post : Int32 → Prop} (hz : zk Z) (isC isT : List Nat) (S : CallFix p m c cc nL s args Ts own) (hM : Met l y wsy rm (va_Pc As (ro_ D cl tysc wc Z)) (vp_Si post) 0 0 (fun _ => False)) (cw : CallB R s args own index y bytes maxL ret wsy rm 0 0 n ∧ (Cond.static y).before args s = true)
    (hP : va_P D cl ws H) (hK : va_K D cl tys s) (hZ : Z A s s.heap) (hS : va_S A s.heap H locs) (hC : isC.filterMap (fun i => ws[i]?) = wc) (hT : isT.filterMap (fun i => tys[i]?) = tysc)
    (hn : As.length = n) (hsize : ls.size = nL) (hst : st0 = As.reverse ++ rest) (hW : (rest.map fun v => v.category).sum ≤ 8) (hdg : decode cc pc = .ok (.invokestatic index, 3)) (hf : cells ≤ R.cells ∧ slots ≤ R.slots)
    (kk : ∀ r : Int32, post r → W p l e R s m args below meth c H locs cells slots Q (F0 m (pc + 3) ls (.int r :: rest))) : W p l e R s m args below meth c H locs cells slots Q (F0 m pc ls st0) :=
  vp_callSi (va_runS (As := As) (rest := rest) S hM cw ⟨ro_blind hz, ro_pre hz isC isT hP hK hZ hS hC hT⟩ rfl hn hsize hst (lv_room hW) hdg hf).run kk
/-- a static reader without an answer -/
theorem k_roSv {post : Prop} (hz : zk Z) (isC isT : List Nat) (S : CallFix p m c cc nL s args Ts own) (hM : Met l y wsy rm (va_Pc As (ro_ D cl tysc wc Z)) (va_Sv (fun _ => post)) 0 0 (fun _ => False)) (cw : CallB R s args own index y bytes maxL ret wsy rm 0 0 n ∧ (Cond.static y).before args s = true)
    (hP : va_P D cl ws H) (hK : va_K D cl tys s) (hZ : Z A s s.heap) (hS : va_S A s.heap H locs) (hC : isC.filterMap (fun i => ws[i]?) = wc) (hT : isT.filterMap (fun i => tys[i]?) = tysc)
    (hn : As.length = n) (hsize : ls.size = nL) (hst : st0 = As.reverse ++ rest) (hW : (rest.map fun v => v.category).sum ≤ 8) (hdg : decode cc pc = .ok (.invokestatic index, 3)) (hf : cells ≤ R.cells ∧ slots ≤ R.slots)
    (kk : post → W p l e R s m args below meth c H locs cells slots Q (F0 m (pc + 3) ls rest)) : W p l e R s m args below meth c H locs cells slots Q (F0 m pc ls st0) :=
  va_csv (va_runS (As := As) (rest := rest) S hM cw ⟨ro_blind hz, ro_pre hz isC isT hP hK hZ hS hC hT⟩ rfl hn hsize hst (lv_room hW) hdg hf).run kk
theorem rw_pre {av : List Value} (hz : zk Z) (isC isT : List Nat) (hP : va_P D cl ws H) (hD : va_D A ws) (hK : va_K D cl tys s) (hZ : Z A s s.heap) (hS : va_S A s.heap H locs) (hA : ∀ q, s.heap.size ≤ q → A q) (hC : isC.map (fun i => ws[i]?) = wc.map some) (hC' : isC.filterMap (fun i => ws[i]?) = wc) (hn : va_nd isC = true) (hT : isT.filterMap (fun i => tys[i]?) = tysc) : ∀ U : State, U.heap = H → s.WarmedH U.vm → va_Pc av (rw_ D cl tysc wc Z H.size) av.toArray U := by
  intro U hU hW
  exact ⟨rfl, by rw [hU], by rw [hU]; exact hP.sub isC hC', va_K.moved hW.alike (hK.sub isT hT), (hD.sub isC hn hC).weaken (fun _ _ _ _ => trivial), zk_to hz hZ hS (va_free hD hS hA isC hC) hU hW⟩
/-- a writer of an object: int answer -/
theorem k_rwVi {S1 : Type} {post : Int32 → S1 → Prop} {wn : S1 → va_W} (hz : zk Z) (isC isR isT : List Nat) (q0 ci : Nat) (S : CallFix p m c cc nL s args Ts own) (hM : Met l y wsy rm (va_Pc (.ref b :: As) (rw_ D cl tysc wc Z H.size)) (va_Qi post (fun u t => at_ D cl tysc (va_A wc H.size) (wn u) t) (va_A wc H.size)) 0 0 (va_A wc H.size)) (cw : CallW R s args own C index y bytes maxL ret wsy rm 0 0 n)
    (hP : va_P D cl ws H) (hD : va_D A ws) (hK : va_K D cl tys s) (hZ : Z A s s.heap) (hS : va_S A s.heap H locs) (hA : ∀ q, s.heap.size ≤ q → A q) (hC : isC.map (fun i => ws[i]?) = wc.map some) (hC' : isC.filterMap (fun i => ws[i]?) = wc) (hR : isR.map (fun i => ws[i]?) = wr.map some) (hnC : va_nd isC = true) (hnR : va_nd isR = true) (hdis : ∀ i ∈ isR, i ∉ isC) (hT : isT.filterMap (fun i => tys[i]?) = tysc) {fs : List Value} {T : u_T} {N : Nat} (he : ws[q0]? = some (b, .inr (ci, fs))) (hc : cl[ci]? = some (C, T, N))
    (hn : As.length = n) (hsize : ls.size = nL) (hst : st0 = As.reverse ++ .ref b :: rest) (hW : (rest.map fun v => v.category).sum ≤ 8) (hdg : decode cc pc = .ok (.invokevirtual index, 3)) (hf : cells ≤ R.cells ∧ slots ≤ R.slots)
    (kk : ∀ (r : Int32) (u : S1) (H1 : Heap) (locs1 : List Loc), post r u → va_P D cl (wr ++ wn u) H1 → va_D A (wr ++ wn u) → va_S A s.heap H1 locs1 → W p l e R s m args below meth c H1 locs1 cells slots Q (F0 m (pc + 3) ls (.int r :: rest))) : W p l e R s m args below meth c H locs cells slots Q (F0 m pc ls st0) := by
  have hFc := va_free (wc := wc) hD hS hA isC hC
  refine va_calli (va_runV (As := As) (rest := rest) S hM cw ⟨rw_blind hz, va_recv hK hP hc he, rw_pre hz isC isT hP hD hK hZ hS hA hC hC' hnC hT⟩ rfl hn hsize hst (lv_room hW) hdg hf) hS (fun q _ h => hFc q h) hFc (fun r u t H1 locs1 ht hvm hw hB hz1 hk1 hS1 => ?_)
  obtain ⟨hP1, hK1, hD1⟩ := hB
  rw [ht] at hP1
  obtain ⟨hP2, hD2⟩ := va_join (wr := wr) (w1 := wn u) hP hD isC isR hC hR hnR hdis hk1 hFc hP1 hD1
  exact kk r u H1 locs1 hw hP2 hD2 hS1
/-- a writer of an object: no answer -/
theorem k_rwVv {S1 : Type} {post : S1 → Prop} {wn : S1 → va_W} (hz : zk Z) (isC isR isT : List Nat) (q0 ci : Nat) (S : CallFix p m c cc nL s args Ts own) (hM : Met l y wsy rm (va_Pc (.ref b :: As) (rw_ D cl tysc wc Z H.size)) (va_Qv post (fun u t => at_ D cl tysc (va_A wc H.size) (wn u) t) (va_A wc H.size)) 0 0 (va_A wc H.size)) (cw : CallW R s args own C index y bytes maxL ret wsy rm 0 0 n)
    (hP : va_P D cl ws H) (hD : va_D A ws) (hK : va_K D cl tys s) (hZ : Z A s s.heap) (hS : va_S A s.heap H locs) (hA : ∀ q, s.heap.size ≤ q → A q) (hC : isC.map (fun i => ws[i]?) = wc.map some) (hC' : isC.filterMap (fun i => ws[i]?) = wc) (hR : isR.map (fun i => ws[i]?) = wr.map some) (hnC : va_nd isC = true) (hnR : va_nd isR = true) (hdis : ∀ i ∈ isR, i ∉ isC) (hT : isT.filterMap (fun i => tys[i]?) = tysc) {fs : List Value} {T : u_T} {N : Nat} (he : ws[q0]? = some (b, .inr (ci, fs))) (hc : cl[ci]? = some (C, T, N))
    (hn : As.length = n) (hsize : ls.size = nL) (hst : st0 = As.reverse ++ .ref b :: rest) (hW : (rest.map fun v => v.category).sum ≤ 8) (hdg : decode cc pc = .ok (.invokevirtual index, 3)) (hf : cells ≤ R.cells ∧ slots ≤ R.slots)
    (kk : ∀ (u : S1) (H1 : Heap) (locs1 : List Loc), post u → va_P D cl (wr ++ wn u) H1 → va_D A (wr ++ wn u) → va_S A s.heap H1 locs1 → W p l e R s m args below meth c H1 locs1 cells slots Q (F0 m (pc + 3) ls rest)) : W p l e R s m args below meth c H locs cells slots Q (F0 m pc ls st0) := by
  have hFc := va_free (wc := wc) hD hS hA isC hC
  refine va_callv (va_runV (As := As) (rest := rest) S hM cw ⟨rw_blind hz, va_recv hK hP hc he, rw_pre hz isC isT hP hD hK hZ hS hA hC hC' hnC hT⟩ rfl hn hsize hst (lv_room hW) hdg hf) hS (fun q _ h => hFc q h) hFc (fun u t H1 locs1 ht hvm hw hB hz1 hk1 hS1 => ?_)
  obtain ⟨hP1, hK1, hD1⟩ := hB
  rw [ht] at hP1
  obtain ⟨hP2, hD2⟩ := va_join (wr := wr) (w1 := wn u) hP hD isC isR hC hR hnR hdis hk1 hFc hP1 hD1
  exact kk u H1 locs1 hw hP2 hD2 hS1
/-- a static writer: int answer -/
theorem k_rwSi {S1 : Type} {post : Int32 → S1 → Prop} {wn : S1 → va_W} (hz : zk Z) (isC isR isT : List Nat) (S : CallFix p m c cc nL s args Ts own) (hM : Met l y wsy rm (va_Pc As (rw_ D cl tysc wc Z H.size)) (va_Qi post (fun u t => at_ D cl tysc (va_A wc H.size) (wn u) t) (va_A wc H.size)) 0 0 (va_A wc H.size)) (cw : CallB R s args own index y bytes maxL ret wsy rm 0 0 n ∧ (Cond.static y).before args s = true)
    (hP : va_P D cl ws H) (hD : va_D A ws) (hK : va_K D cl tys s) (hZ : Z A s s.heap) (hS : va_S A s.heap H locs) (hA : ∀ q, s.heap.size ≤ q → A q) (hC : isC.map (fun i => ws[i]?) = wc.map some) (hC' : isC.filterMap (fun i => ws[i]?) = wc) (hR : isR.map (fun i => ws[i]?) = wr.map some) (hnC : va_nd isC = true) (hnR : va_nd isR = true) (hdis : ∀ i ∈ isR, i ∉ isC) (hT : isT.filterMap (fun i => tys[i]?) = tysc)
    (hn : As.length = n) (hsize : ls.size = nL) (hst : st0 = As.reverse ++ rest) (hW : (rest.map fun v => v.category).sum ≤ 8) (hdg : decode cc pc = .ok (.invokestatic index, 3)) (hf : cells ≤ R.cells ∧ slots ≤ R.slots)
    (kk : ∀ (r : Int32) (u : S1) (H1 : Heap) (locs1 : List Loc), post r u → va_P D cl (wr ++ wn u) H1 → va_D A (wr ++ wn u) → va_S A s.heap H1 locs1 → W p l e R s m args below meth c H1 locs1 cells slots Q (F0 m (pc + 3) ls (.int r :: rest))) : W p l e R s m args below meth c H locs cells slots Q (F0 m pc ls st0) := by
  have hFc := va_free (wc := wc) hD hS hA isC hC
  refine va_calli (va_runS (As := As) (rest := rest) S hM cw ⟨rw_blind hz, rw_pre hz isC isT hP hD hK hZ hS hA hC hC' hnC hT⟩ rfl hn hsize hst (lv_room hW) hdg hf) hS (fun q _ h => hFc q h) hFc (fun r u t H1 locs1 ht hvm hw hB hz1 hk1 hS1 => ?_)
  obtain ⟨hP1, hK1, hD1⟩ := hB
  rw [ht] at hP1
  obtain ⟨hP2, hD2⟩ := va_join (wr := wr) (w1 := wn u) hP hD isC isR hC hR hnR hdis hk1 hFc hP1 hD1
  exact kk r u H1 locs1 hw hP2 hD2 hS1
/-- a constructor: new cells, new array classes -/
theorem k_Iv {S1 : Type} {post : S1 → Prop} {wn : S1 → va_W} {tn : S1 → List (ClassId × FieldType)} {mc ms : Nat} (hz : zk Z) (isC isR isT : List Nat) (S : CallFix p m c cc nL s args Ts own) (hM : Met l y wsy rm (va_Pc (.ref b :: As) (rw_ D cl tysc wc Z H.size)) (va_Qv post (fun u t => at_ D cl (tn u) (va_A wc H.size) (wn u) t) (va_A wc H.size)) mc ms (va_A wc H.size)) (cw : CallB R s args own index y bytes maxL none wsy rm mc ms n ∧ y.name = "<init>" ∧ (Cond.instanceMethod y).before args s = true)
    (hP : va_P D cl ws H) (hD : va_D A ws) (hK : va_K D cl tys s) (hZ : Z A s s.heap) (hS : va_S A s.heap H locs) (hA : ∀ q, s.heap.size ≤ q → A q) (hC : isC.map (fun i => ws[i]?) = wc.map some) (hC' : isC.filterMap (fun i => ws[i]?) = wc) (hR : isR.map (fun i => ws[i]?) = wr.map some) (hnC : va_nd isC = true) (hnR : va_nd isR = true) (hdis : ∀ i ∈ isR, i ∉ isC) (hT : isT.filterMap (fun i => tys[i]?) = tysc)
    (hn : As.length = n) (hsize : ls.size = nL) (hst : st0 = As.reverse ++ .ref b :: rest) (hW : (rest.map fun v => v.category).sum ≤ 8) (hdg : decode cc pc = .ok (.invokespecial index, 3)) (hf : cells + mc ≤ R.cells ∧ slots + ms ≤ R.slots)
    (kk : ∀ (u : S1) (H1 : Heap) (locs1 : List Loc), post u → va_P D cl (wr ++ wn u) H1 → va_D A (wr ++ wn u) → va_S A s.heap H1 locs1 → va_K D cl (tys ++ tn u) s → W p l e R s m args below meth c H1 locs1 (cells + mc) (slots + ms) Q (F0 m (pc + 3) ls rest)) : W p l e R s m args below meth c H locs cells slots Q (F0 m pc ls st0) := by
  have hFc := va_free (wc := wc) hD hS hA isC hC
  refine va_callv (va_runI (As := As) (rest := rest) S hM cw ⟨rw_blind hz, rw_pre hz isC isT hP hD hK hZ hS hA hC hC' hnC hT⟩ rfl hn hsize hst (lv_room hW) hdg hf) hS (fun q _ h => hFc q h) hFc (fun u t H1 locs1 ht hvm hw hB hz1 hk1 hS1 => ?_)
  obtain ⟨hP1, hK1, hD1⟩ := hB
  rw [ht] at hP1
  have hK2 := va_K.moved hvm.symm hK1
  obtain ⟨hP2, hD2⟩ := va_join (wr := wr) (w1 := wn u) hP hD isC isR hC hR hnR hdis hk1 hFc hP1 hD1
  exact kk u H1 locs1 hw hP2 hD2 hS1 (hK.app hK2)
end KCALLS
/-- 0 or 1: what a boolean is -/
def vz (x : Int32) : Prop := x = 0 ∨ x = 1
theorem vz_n {x : Int32} (h : vz x) : narrow .boolean (.int x) = .int x := by rcases h with rfl | rfl <;> rfl
theorem vz_f {x : Int32} (h : vz x) : fits .boolean (.int x) = true := by rcases h with rfl | rfl <;> rfl
/-- with one static table more -/
def zt (Z : (Nat → Prop) → State → Heap → Prop) (t N : Nat) (f : Nat → Int32) : (Nat → Prop) → State → Heap → Prop := fun A U H => Z A U H ∧ va_T .int t N (fun j => .int (f j)) A U H
theorem zt_zk {Z : (Nat → Prop) → State → Heap → Prop} {t N : Nat} {f : Nat → Int32} (hz : zk Z) : zk (zt Z t N f) :=
  ⟨fun A u U H hv h => ⟨hz.1 A u U H hv h.1, va_T.moved hv.alike h.2⟩, fun A U H H1 h hq => ⟨hz.2.1 A U H H1 h.1 hq, va_T.kept h.2 hq⟩, fun A B U H h hAB => ⟨hz.2.2 A B U H h.1 hAB, va_T.narrow h.2 hAB⟩⟩
end
section
theorem mm_0 : Cond.selects R_Pa y_Pa_fillCosts y_Pa_fillCosts ∈ tb := tb_at 0 (by decide +kernel) (by decide +kernel)
theorem mm_1 : Cond.selects R_Pa y_Pa_costOfTelling y_Pa_costOfTelling ∈ tb := tb_at 1 (by decide +kernel) (by decide +kernel)
theorem mm_2 : Cond.selects R_Pa y_Pa_cost y_Pa_cost ∈ tb := tb_at 2 (by decide +kernel) (by decide +kernel)
theorem mm_3 : Cond.selects R_Pa y_Pa_setCost y_Pa_setCost ∈ tb := tb_at 3 (by decide +kernel) (by decide +kernel)
theorem mm_4 : Cond.selects R_Pa y_Pa_addSymbols y_Pa_addSymbols ∈ tb := tb_at 4 (by decide +kernel) (by decide +kernel)
theorem mm_5 : Cond.selects R_Pa y_Pa_cheapestFirstSet y_Pa_cheapestFirstSet ∈ tb := tb_at 5 (by decide +kernel) (by decide +kernel)
theorem mm_6 : Cond.selects R_Pa y_Pa_nextSet y_Pa_nextSet ∈ tb := tb_at 6 (by decide +kernel) (by decide +kernel)
theorem mm_7 : Cond.selects R_Pa y_Pa_addTold y_Pa_addTold ∈ tb := tb_at 7 (by decide +kernel) (by decide +kernel)
theorem mm_8 : Cond.selects R_Pa y_Pa_checkSymbol y_Pa_checkSymbol ∈ tb := tb_at 8 (by decide +kernel) (by decide +kernel)
theorem mm_9 : Cond.selects R_Re y_Re_isThirteen y_Re_isThirteen ∈ tb := tb_at 9 (by decide +kernel) (by decide +kernel)
theorem mm_10 : Cond.selects R_Re y_Re_areSidesAndMiddleRight y_Re_areSidesAndMiddleRight ∈ tb := tb_at 10 (by decide +kernel) (by decide +kernel)
theorem mm_11 : Cond.selects R_Re y_Re_sumOf y_Re_sumOf ∈ tb := tb_at 11 (by decide +kernel) (by decide +kernel)
theorem mm_12 : Cond.selects R_Re y_Re_countsOf y_Re_countsOf ∈ tb := tb_at 12 (by decide +kernel) (by decide +kernel)
theorem mm_13 : Cond.selects R_Re y_Re_isLeftHalf y_Re_isLeftHalf ∈ tb := tb_at 13 (by decide +kernel) (by decide +kernel)
theorem mm_14 : Cond.selects R_Re y_Re_figureCountsAt y_Re_figureCountsAt ∈ tb := tb_at 14 (by decide +kernel) (by decide +kernel)
theorem mm_15 : Cond.selects R_Re y_Re_isRightHalf y_Re_isRightHalf ∈ tb := tb_at 15 (by decide +kernel) (by decide +kernel)
theorem mm_16 : Cond.selects R_Re y_Re_isRow y_Re_isRow ∈ tb := tb_at 16 (by decide +kernel) (by decide +kernel)
theorem mm_17 : Cond.selects R_Re y_Re_isLastAt y_Re_isLastAt ∈ tb := tb_at 17 (by decide +kernel) (by decide +kernel)
theorem mm_18 : Cond.selects R_Re y_Re_symbolAt y_Re_symbolAt ∈ tb := tb_at 18 (by decide +kernel) (by decide +kernel)
theorem mm_19 : Cond.selects R_Re y_Re_isTold y_Re_isTold ∈ tb := tb_at 19 (by decide +kernel) (by decide +kernel)
theorem mm_20 : Cond.selects R_Re y_Re_isSwitched y_Re_isSwitched ∈ tb := tb_at 20 (by decide +kernel) (by decide +kernel)
theorem mm_22 : Cond.selects R_Lc y_Lc_addWidths y_Lc_addWidths ∈ tb := tb_at 22 (by decide +kernel) (by decide +kernel)
theorem mm_23 : Cond.selects R_Md y_Md_relax y_Md_relax ∈ tb := tb_at 23 (by decide +kernel) (by decide +kernel)
theorem mm_24 : Cond.selects R_Md y_Md_with y_Md_with ∈ tb := tb_at 24 (by decide +kernel) (by decide +kernel)
theorem mm_25 : Cond.selects R_Md y_Md_tells y_Md_tells ∈ tb := tb_at 25 (by decide +kernel) (by decide +kernel)
theorem mm_26 : Cond.selects R_Md y_Md_at y_Md_at ∈ tb := tb_at 26 (by decide +kernel) (by decide +kernel)
theorem mm_27 : Cond.selects R_Md y_Md_isPair y_Md_isPair ∈ tb := tb_at 27 (by decide +kernel) (by decide +kernel)
theorem mm_28 : Cond.selects R_Md y_Md_leastAt y_Md_leastAt ∈ tb := tb_at 28 (by decide +kernel) (by decide +kernel)
theorem mm_29 : Cond.selects R_Md y_Md_isOther y_Md_isOther ∈ tb := tb_at 29 (by decide +kernel) (by decide +kernel)
theorem mm_30 : Cond.selects R_Md y_Md_add y_Md_add ∈ tb := tb_at 30 (by decide +kernel) (by decide +kernel)
theorem mm_31 : Cond.selects R_Md y_Md_lay y_Md_lay ∈ tb := tb_at 31 (by decide +kernel) (by decide +kernel)
theorem mm_32 : Cond.selects R_Md y_Md_isTurned y_Md_isTurned ∈ tb := tb_at 32 (by decide +kernel) (by decide +kernel)
theorem mm_33 : Cond.selects R_Md y_Md_reverse y_Md_reverse ∈ tb := tb_at 33 (by decide +kernel) (by decide +kernel)
theorem mm_34 : Cond.selects R_Md y_Md_isSome y_Md_isSome ∈ tb := tb_at 34 (by decide +kernel) (by decide +kernel)
theorem mm_35 : Cond.selects R_Md y_Md_isThirteen y_Md_isThirteen ∈ tb := tb_at 35 (by decide +kernel) (by decide +kernel)
theorem mm_36 : Cond.selects R_Md y_Md_sumOf y_Md_sumOf ∈ tb := tb_at 36 (by decide +kernel) (by decide +kernel)
theorem mm_37 : Cond.selects R_Md y_Md_counts y_Md_counts ∈ tb := tb_at 37 (by decide +kernel) (by decide +kernel)
theorem mm_38 : Cond.selects R_Md y_Md_tell y_Md_tell ∈ tb := tb_at 38 (by decide +kernel) (by decide +kernel)
theorem mm_39 : Cond.selects R_Md y_Md_isRow y_Md_isRow ∈ tb := tb_at 39 (by decide +kernel) (by decide +kernel)
theorem mm_41 : Cond.initialized R_Lc ∈ tb := tb_at 41 (by decide +kernel) (by decide +kernel)
theorem mm_42 : Cond.initialized R_It ∈ tb := tb_at 42 (by decide +kernel) (by decide +kernel)
theorem mm_43 : Cond.initialized "java/lang/Math" ∈ tb := tb_at 43 (by decide +kernel) (by decide +kernel)
theorem mm_44 : Cond.initialized R_Pa ∈ tb := tb_at 44 (by decide +kernel) (by decide +kernel)
theorem mm_45 : Cond.initialized R_Re ∈ tb := tb_at 45 (by decide +kernel) (by decide +kernel)
theorem mm_46 : Cond.initialized R_Md ∈ tb := tb_at 46 (by decide +kernel) (by decide +kernel)
theorem mm_51 : Cond.initialized R_Se ∈ tb := tb_at 51 (by decide +kernel) (by decide +kernel)
theorem mm_53 : Cond.initialized R_Wi ∈ tb := tb_at 53 (by decide +kernel) (by decide +kernel)
theorem mm_54 : Cond.initialized R_Fi ∈ tb := tb_at 54 (by decide +kernel) (by decide +kernel)
theorem mm_73 : Cond.fieldLink R_It 15 "LineCodes$Items" "items" "[I" ∈ tb := tb_at 73 (by decide +kernel) (by decide +kernel)
theorem mm_74 : Cond.fieldLink R_It 21 "LineCodes$Items" "count" "I" ∈ tb := tb_at 74 (by decide +kernel) (by decide +kernel)
theorem mm_75 : Cond.laysFinal R_It "LineCodes$Items" "items" "[I" ∈ tb := tb_at 75 (by decide +kernel) (by decide +kernel)
theorem mm_77 : Cond.lays R_It "LineCodes$Items" "count" "I" ∈ tb := tb_at 77 (by decide +kernel) (by decide +kernel)
theorem mm_87 : Cond.fieldLink R_Pa 9 "LineCodes$Packer" "text" "LLineCodes$Items;" ∈ tb := tb_at 87 (by decide +kernel) (by decide +kernel)
theorem mm_88 : Cond.fieldLink R_Pa 15 "LineCodes$Packer" "row" "LLineCodes$Items;" ∈ tb := tb_at 88 (by decide +kernel) (by decide +kernel)
theorem mm_89 : Cond.fieldLink R_Pa 20 "LineCodes$Packer" "costs" "[I" ∈ tb := tb_at 89 (by decide +kernel) (by decide +kernel)
theorem mm_90 : Cond.laysFinal R_Pa "LineCodes$Packer" "text" "LLineCodes$Items;" ∈ tb := tb_at 90 (by decide +kernel) (by decide +kernel)
theorem mm_92 : Cond.laysFinal R_Pa "LineCodes$Packer" "row" "LLineCodes$Items;" ∈ tb := tb_at 92 (by decide +kernel) (by decide +kernel)
theorem mm_94 : Cond.laysFinal R_Pa "LineCodes$Packer" "costs" "[I" ∈ tb := tb_at 94 (by decide +kernel) (by decide +kernel)
theorem mm_105 : Cond.fieldLink R_Re 9 "LineCodes$Reader" "strip" "LLineCodes$Items;" ∈ tb := tb_at 105 (by decide +kernel) (by decide +kernel)
theorem mm_106 : Cond.fieldLink R_Re 20 "LineCodes$Reader" "told" "LLineCodes$Items;" ∈ tb := tb_at 106 (by decide +kernel) (by decide +kernel)
theorem mm_107 : Cond.fieldLink R_Re 23 "LineCodes$Reader" "fromBack" "Z" ∈ tb := tb_at 107 (by decide +kernel) (by decide +kernel)
theorem mm_108 : Cond.fieldLink R_Re 29 "LineCodes$Reader" "set" "I" ∈ tb := tb_at 108 (by decide +kernel) (by decide +kernel)
theorem mm_109 : Cond.fieldLink R_Re 33 "LineCodes$Reader" "shifted" "Z" ∈ tb := tb_at 109 (by decide +kernel) (by decide +kernel)
theorem mm_110 : Cond.laysFinal R_Re "LineCodes$Reader" "strip" "LLineCodes$Items;" ∈ tb := tb_at 110 (by decide +kernel) (by decide +kernel)
theorem mm_112 : Cond.laysFinal R_Re "LineCodes$Reader" "told" "LLineCodes$Items;" ∈ tb := tb_at 112 (by decide +kernel) (by decide +kernel)
theorem mm_114 : Cond.lays R_Re "LineCodes$Reader" "fromBack" "Z" ∈ tb := tb_at 114 (by decide +kernel) (by decide +kernel)
theorem mm_116 : Cond.lays R_Re "LineCodes$Reader" "set" "I" ∈ tb := tb_at 116 (by decide +kernel) (by decide +kernel)
theorem mm_118 : Cond.lays R_Re "LineCodes$Reader" "shifted" "Z" ∈ tb := tb_at 118 (by decide +kernel) (by decide +kernel)
theorem mm_121 : Cond.fieldLink R_Lc 14 "LineCodes" "text" "LLineCodes$Items;" ∈ tb := tb_at 121 (by decide +kernel) (by decide +kernel)
theorem mm_122 : Cond.fieldLink R_Lc 18 "LineCodes" "row" "LLineCodes$Items;" ∈ tb := tb_at 122 (by decide +kernel) (by decide +kernel)
theorem mm_123 : Cond.fieldLink R_Lc 21 "LineCodes" "strip" "LLineCodes$Items;" ∈ tb := tb_at 123 (by decide +kernel) (by decide +kernel)
theorem mm_124 : Cond.fieldLink R_Lc 29 "LineCodes" "packer" "LLineCodes$Packer;" ∈ tb := tb_at 124 (by decide +kernel) (by decide +kernel)
theorem mm_125 : Cond.fieldLink R_Lc 38 "LineCodes" "reader" "LLineCodes$Reader;" ∈ tb := tb_at 125 (by decide +kernel) (by decide +kernel)
theorem mm_126 : Cond.laysFinal R_Lc "LineCodes" "text" "LLineCodes$Items;" ∈ tb := tb_at 126 (by decide +kernel) (by decide +kernel)
theorem mm_128 : Cond.laysFinal R_Lc "LineCodes" "row" "LLineCodes$Items;" ∈ tb := tb_at 128 (by decide +kernel) (by decide +kernel)
theorem mm_130 : Cond.laysFinal R_Lc "LineCodes" "strip" "LLineCodes$Items;" ∈ tb := tb_at 130 (by decide +kernel) (by decide +kernel)
theorem mm_132 : Cond.laysFinal R_Lc "LineCodes" "packer" "LLineCodes$Packer;" ∈ tb := tb_at 132 (by decide +kernel) (by decide +kernel)
theorem mm_134 : Cond.laysFinal R_Lc "LineCodes" "reader" "LLineCodes$Reader;" ∈ tb := tb_at 134 (by decide +kernel) (by decide +kernel)
theorem mm_141 : Cond.methodLink R_Lc 62 y_It_empty ∈ tb := tb_at 141 (by decide +kernel) (by decide +kernel)
theorem mm_142 : Cond.instanceMethod y_It_empty ∈ tb := tb_at 142 (by decide +kernel) (by decide +kernel)
theorem mm_143 : Cond.selects R_It y_It_empty y_It_empty ∈ tb := tb_at 143 (by decide +kernel) (by decide +kernel)
theorem mm_144 : wc_It_empty ∈ tb := tb_at 144 (by decide +kernel) (by decide +kernel)
theorem mm_149 : Cond.methodLink R_Lc 66 y_Pa_makeRow ∈ tb := tb_at 149 (by decide +kernel) (by decide +kernel)
theorem mm_150 : Cond.instanceMethod y_Pa_makeRow ∈ tb := tb_at 150 (by decide +kernel) (by decide +kernel)
theorem mm_151 : Cond.selects R_Pa y_Pa_makeRow y_Pa_makeRow ∈ tb := tb_at 151 (by decide +kernel) (by decide +kernel)
theorem mm_152 : wc_Pa_makeRow ∈ tb := tb_at 152 (by decide +kernel) (by decide +kernel)
theorem mm_153 : Cond.methodLink R_Pa 24 y_It_count ∈ tb := tb_at 153 (by decide +kernel) (by decide +kernel)
theorem mm_154 : Cond.instanceMethod y_It_count ∈ tb := tb_at 154 (by decide +kernel) (by decide +kernel)
theorem mm_155 : Cond.selects R_It y_It_count y_It_count ∈ tb := tb_at 155 (by decide +kernel) (by decide +kernel)
theorem mm_156 : wc_It_count ∈ tb := tb_at 156 (by decide +kernel) (by decide +kernel)
theorem mm_157 : Cond.methodLink R_Pa 30 y_Pa_fillCosts ∈ tb := tb_at 157 (by decide +kernel) (by decide +kernel)
theorem mm_159 : Cond.instanceMethod y_Pa_fillCosts ∈ tb := tb_at 159 (by decide +kernel) (by decide +kernel)
theorem mm_160 : wc_Pa_fillCosts ∈ tb := tb_at 160 (by decide +kernel) (by decide +kernel)
theorem mm_161 : Cond.constant R_Pa 47 1000000 ∈ tb := tb_at 161 (by decide +kernel) (by decide +kernel)
theorem mm_162 : Cond.methodLink R_Pa 48 y_Pa_costOfTelling ∈ tb := tb_at 162 (by decide +kernel) (by decide +kernel)
theorem mm_164 : Cond.instanceMethod y_Pa_costOfTelling ∈ tb := tb_at 164 (by decide +kernel) (by decide +kernel)
theorem mm_165 : wc_Pa_costOfTelling ∈ tb := tb_at 165 (by decide +kernel) (by decide +kernel)
theorem mm_166 : Cond.methodLink R_Pa 64 y_It_at ∈ tb := tb_at 166 (by decide +kernel) (by decide +kernel)
theorem mm_167 : Cond.instanceMethod y_It_at ∈ tb := tb_at 167 (by decide +kernel) (by decide +kernel)
theorem mm_168 : Cond.selects R_It y_It_at y_It_at ∈ tb := tb_at 168 (by decide +kernel) (by decide +kernel)
theorem mm_169 : wc_It_at ∈ tb := tb_at 169 (by decide +kernel) (by decide +kernel)
theorem mm_170 : Cond.methodLink R_Pa 61 y_Pa_cost ∈ tb := tb_at 170 (by decide +kernel) (by decide +kernel)
theorem mm_172 : Cond.instanceMethod y_Pa_cost ∈ tb := tb_at 172 (by decide +kernel) (by decide +kernel)
theorem mm_173 : wc_Pa_cost ∈ tb := tb_at 173 (by decide +kernel) (by decide +kernel)
theorem mm_174 : Cond.methodLink R_Pa 68 y_Se_pairOf ∈ tb := tb_at 174 (by decide +kernel) (by decide +kernel)
theorem mm_175 : Cond.static y_Se_pairOf ∈ tb := tb_at 175 (by decide +kernel) (by decide +kernel)
theorem mm_176 : wc_Se_pairOf ∈ tb := tb_at 176 (by decide +kernel) (by decide +kernel)
theorem mm_177 : Cond.methodLink R_Se 11 y_Se_isFigure ∈ tb := tb_at 177 (by decide +kernel) (by decide +kernel)
theorem mm_178 : Cond.static y_Se_isFigure ∈ tb := tb_at 178 (by decide +kernel) (by decide +kernel)
theorem mm_179 : wc_Se_isFigure ∈ tb := tb_at 179 (by decide +kernel) (by decide +kernel)
theorem mm_180 : Cond.methodLink R_Pa 71 y_Se_symbolOf ∈ tb := tb_at 180 (by decide +kernel) (by decide +kernel)
theorem mm_181 : Cond.static y_Se_symbolOf ∈ tb := tb_at 181 (by decide +kernel) (by decide +kernel)
theorem mm_182 : wc_Se_symbolOf ∈ tb := tb_at 182 (by decide +kernel) (by decide +kernel)
theorem mm_183 : Cond.methodLink R_Pa 52 y_Pa_setCost ∈ tb := tb_at 183 (by decide +kernel) (by decide +kernel)
theorem mm_185 : Cond.instanceMethod y_Pa_setCost ∈ tb := tb_at 185 (by decide +kernel) (by decide +kernel)
theorem mm_186 : wc_Pa_setCost ∈ tb := tb_at 186 (by decide +kernel) (by decide +kernel)
theorem mm_187 : Cond.methodLink R_Pa 56 Lib.Math.min.name ∈ tb := tb_at 187 (by decide +kernel) (by decide +kernel)
theorem mm_188 : Cond.static Lib.Math.min.name ∈ tb := tb_at 188 (by decide +kernel) (by decide +kernel)
theorem mm_189 : Cond.code Lib.Math.min.name Lib.Math.min.code 2 (some .int) ∈ tb := tb_at 189 (by decide +kernel) (by decide +kernel)
theorem mm_190 : Cond.methodLink R_Pa 34 y_It_empty ∈ tb := tb_at 190 (by decide +kernel) (by decide +kernel)
theorem mm_191 : Cond.methodLink R_Pa 37 y_Pa_addSymbols ∈ tb := tb_at 191 (by decide +kernel) (by decide +kernel)
theorem mm_193 : Cond.instanceMethod y_Pa_addSymbols ∈ tb := tb_at 193 (by decide +kernel) (by decide +kernel)
theorem mm_194 : wc_Pa_addSymbols ∈ tb := tb_at 194 (by decide +kernel) (by decide +kernel)
theorem mm_195 : Cond.methodLink R_Pa 74 y_Pa_cheapestFirstSet ∈ tb := tb_at 195 (by decide +kernel) (by decide +kernel)
theorem mm_197 : Cond.instanceMethod y_Pa_cheapestFirstSet ∈ tb := tb_at 197 (by decide +kernel) (by decide +kernel)
theorem mm_198 : wc_Pa_cheapestFirstSet ∈ tb := tb_at 198 (by decide +kernel) (by decide +kernel)
theorem mm_199 : Cond.methodLink R_Pa 77 y_Se_firstOf ∈ tb := tb_at 199 (by decide +kernel) (by decide +kernel)
theorem mm_200 : Cond.static y_Se_firstOf ∈ tb := tb_at 200 (by decide +kernel) (by decide +kernel)
theorem mm_201 : wc_Se_firstOf ∈ tb := tb_at 201 (by decide +kernel) (by decide +kernel)
theorem mm_202 : Cond.methodLink R_Pa 43 y_It_add ∈ tb := tb_at 202 (by decide +kernel) (by decide +kernel)
theorem mm_203 : Cond.instanceMethod y_It_add ∈ tb := tb_at 203 (by decide +kernel) (by decide +kernel)
theorem mm_204 : Cond.selects R_It y_It_add y_It_add ∈ tb := tb_at 204 (by decide +kernel) (by decide +kernel)
theorem mm_205 : wc_It_add ∈ tb := tb_at 205 (by decide +kernel) (by decide +kernel)
theorem mm_206 : Cond.methodLink R_Pa 80 y_Pa_nextSet ∈ tb := tb_at 206 (by decide +kernel) (by decide +kernel)
theorem mm_208 : Cond.instanceMethod y_Pa_nextSet ∈ tb := tb_at 208 (by decide +kernel) (by decide +kernel)
theorem mm_209 : wc_Pa_nextSet ∈ tb := tb_at 209 (by decide +kernel) (by decide +kernel)
theorem mm_210 : Cond.methodLink R_Pa 83 y_Pa_addTold ∈ tb := tb_at 210 (by decide +kernel) (by decide +kernel)
theorem mm_212 : Cond.instanceMethod y_Pa_addTold ∈ tb := tb_at 212 (by decide +kernel) (by decide +kernel)
theorem mm_213 : wc_Pa_addTold ∈ tb := tb_at 213 (by decide +kernel) (by decide +kernel)
theorem mm_214 : Cond.methodLink R_Pa 89 y_Se_otherOfAB ∈ tb := tb_at 214 (by decide +kernel) (by decide +kernel)
theorem mm_215 : Cond.static y_Se_otherOfAB ∈ tb := tb_at 215 (by decide +kernel) (by decide +kernel)
theorem mm_216 : wc_Se_otherOfAB ∈ tb := tb_at 216 (by decide +kernel) (by decide +kernel)
theorem mm_217 : Cond.methodLink R_Pa 86 y_Se_switchTo ∈ tb := tb_at 217 (by decide +kernel) (by decide +kernel)
theorem mm_218 : Cond.static y_Se_switchTo ∈ tb := tb_at 218 (by decide +kernel) (by decide +kernel)
theorem mm_219 : wc_Se_switchTo ∈ tb := tb_at 219 (by decide +kernel) (by decide +kernel)
theorem mm_220 : Cond.methodLink R_Pa 40 y_Pa_checkSymbol ∈ tb := tb_at 220 (by decide +kernel) (by decide +kernel)
theorem mm_222 : Cond.instanceMethod y_Pa_checkSymbol ∈ tb := tb_at 222 (by decide +kernel) (by decide +kernel)
theorem mm_223 : wc_Pa_checkSymbol ∈ tb := tb_at 223 (by decide +kernel) (by decide +kernel)
theorem mm_224 : Cond.methodLink R_Lc 69 y_It_count ∈ tb := tb_at 224 (by decide +kernel) (by decide +kernel)
theorem mm_229 : Cond.methodLink R_Lc 72 y_It_at ∈ tb := tb_at 229 (by decide +kernel) (by decide +kernel)
theorem mm_242 : Cond.methodLink R_Lc 128 y_It_reverse ∈ tb := tb_at 242 (by decide +kernel) (by decide +kernel)
theorem mm_243 : Cond.instanceMethod y_It_reverse ∈ tb := tb_at 243 (by decide +kernel) (by decide +kernel)
theorem mm_244 : Cond.selects R_It y_It_reverse y_It_reverse ∈ tb := tb_at 244 (by decide +kernel) (by decide +kernel)
theorem mm_245 : wc_It_reverse ∈ tb := tb_at 245 (by decide +kernel) (by decide +kernel)
theorem mm_246 : Cond.methodLink R_It 25 y_It_at ∈ tb := tb_at 246 (by decide +kernel) (by decide +kernel)
theorem mm_247 : Cond.methodLink R_It 29 y_It_replace ∈ tb := tb_at 247 (by decide +kernel) (by decide +kernel)
theorem mm_248 : Cond.instanceMethod y_It_replace ∈ tb := tb_at 248 (by decide +kernel) (by decide +kernel)
theorem mm_249 : Cond.selects R_It y_It_replace y_It_replace ∈ tb := tb_at 249 (by decide +kernel) (by decide +kernel)
theorem mm_250 : wc_It_replace ∈ tb := tb_at 250 (by decide +kernel) (by decide +kernel)
theorem mm_255 : Cond.methodLink R_Lc 131 y_Re_isReadable ∈ tb := tb_at 255 (by decide +kernel) (by decide +kernel)
theorem mm_256 : Cond.instanceMethod y_Re_isReadable ∈ tb := tb_at 256 (by decide +kernel) (by decide +kernel)
theorem mm_257 : Cond.selects R_Re y_Re_isReadable y_Re_isReadable ∈ tb := tb_at 257 (by decide +kernel) (by decide +kernel)
theorem mm_258 : wc_Re_isReadable ∈ tb := tb_at 258 (by decide +kernel) (by decide +kernel)
theorem mm_259 : Cond.methodLink R_Re 44 y_It_empty ∈ tb := tb_at 259 (by decide +kernel) (by decide +kernel)
theorem mm_260 : Cond.methodLink R_Re 36 y_It_count ∈ tb := tb_at 260 (by decide +kernel) (by decide +kernel)
theorem mm_261 : Cond.methodLink R_Re 47 y_Re_isThirteen ∈ tb := tb_at 261 (by decide +kernel) (by decide +kernel)
theorem mm_263 : Cond.instanceMethod y_Re_isThirteen ∈ tb := tb_at 263 (by decide +kernel) (by decide +kernel)
theorem mm_264 : wc_Re_isThirteen ∈ tb := tb_at 264 (by decide +kernel) (by decide +kernel)
theorem mm_265 : Cond.methodLink R_Re 54 y_Re_areSidesAndMiddleRight ∈ tb := tb_at 265 (by decide +kernel) (by decide +kernel)
theorem mm_267 : Cond.instanceMethod y_Re_areSidesAndMiddleRight ∈ tb := tb_at 267 (by decide +kernel) (by decide +kernel)
theorem mm_268 : wc_Re_areSidesAndMiddleRight ∈ tb := tb_at 268 (by decide +kernel) (by decide +kernel)
theorem mm_269 : Cond.methodLink R_Re 68 y_Re_sumOf ∈ tb := tb_at 269 (by decide +kernel) (by decide +kernel)
theorem mm_271 : Cond.instanceMethod y_Re_sumOf ∈ tb := tb_at 271 (by decide +kernel) (by decide +kernel)
theorem mm_272 : wc_Re_sumOf ∈ tb := tb_at 272 (by decide +kernel) (by decide +kernel)
theorem mm_273 : Cond.methodLink R_Re 40 y_It_at ∈ tb := tb_at 273 (by decide +kernel) (by decide +kernel)
theorem mm_274 : Cond.methodLink R_Re 74 y_Re_countsOf ∈ tb := tb_at 274 (by decide +kernel) (by decide +kernel)
theorem mm_276 : Cond.instanceMethod y_Re_countsOf ∈ tb := tb_at 276 (by decide +kernel) (by decide +kernel)
theorem mm_277 : wc_Re_countsOf ∈ tb := tb_at 277 (by decide +kernel) (by decide +kernel)
theorem mm_278 : Cond.methodLink R_Re 57 y_Re_isLeftHalf ∈ tb := tb_at 278 (by decide +kernel) (by decide +kernel)
theorem mm_280 : Cond.instanceMethod y_Re_isLeftHalf ∈ tb := tb_at 280 (by decide +kernel) (by decide +kernel)
theorem mm_281 : wc_Re_isLeftHalf ∈ tb := tb_at 281 (by decide +kernel) (by decide +kernel)
theorem mm_282 : Cond.methodLink R_Re 78 y_It_add ∈ tb := tb_at 282 (by decide +kernel) (by decide +kernel)
theorem mm_283 : Cond.methodLink R_Re 82 y_Re_figureCountsAt ∈ tb := tb_at 283 (by decide +kernel) (by decide +kernel)
theorem mm_285 : Cond.instanceMethod y_Re_figureCountsAt ∈ tb := tb_at 285 (by decide +kernel) (by decide +kernel)
theorem mm_286 : wc_Re_figureCountsAt ∈ tb := tb_at 286 (by decide +kernel) (by decide +kernel)
theorem mm_287 : Cond.methodLink R_Re 85 y_Wi_figureWith ∈ tb := tb_at 287 (by decide +kernel) (by decide +kernel)
theorem mm_288 : Cond.static y_Wi_figureWith ∈ tb := tb_at 288 (by decide +kernel) (by decide +kernel)
theorem mm_289 : wc_Wi_figureWith ∈ tb := tb_at 289 (by decide +kernel) (by decide +kernel)
theorem mm_290 : Cond.fieldLink R_Wi 22 "LineCodes$Widths" "FIGURES" "[I" ∈ tb := tb_at 290 (by decide +kernel) (by decide +kernel)
theorem mm_292 : Cond.methodLink R_Wi 28 y_Wi_placeOf ∈ tb := tb_at 292 (by decide +kernel) (by decide +kernel)
theorem mm_293 : Cond.static y_Wi_placeOf ∈ tb := tb_at 293 (by decide +kernel) (by decide +kernel)
theorem mm_294 : wc_Wi_placeOf ∈ tb := tb_at 294 (by decide +kernel) (by decide +kernel)
theorem mm_295 : Cond.methodLink R_Re 88 y_Wi_turned ∈ tb := tb_at 295 (by decide +kernel) (by decide +kernel)
theorem mm_296 : Cond.static y_Wi_turned ∈ tb := tb_at 296 (by decide +kernel) (by decide +kernel)
theorem mm_297 : wc_Wi_turned ∈ tb := tb_at 297 (by decide +kernel) (by decide +kernel)
theorem mm_298 : Cond.methodLink R_Re 91 y_Wi_firstFigureWith ∈ tb := tb_at 298 (by decide +kernel) (by decide +kernel)
theorem mm_299 : Cond.static y_Wi_firstFigureWith ∈ tb := tb_at 299 (by decide +kernel) (by decide +kernel)
theorem mm_300 : wc_Wi_firstFigureWith ∈ tb := tb_at 300 (by decide +kernel) (by decide +kernel)
theorem mm_301 : Cond.fieldLink R_Wi 25 "LineCodes$Widths" "TURNS" "[I" ∈ tb := tb_at 301 (by decide +kernel) (by decide +kernel)
theorem mm_303 : Cond.methodLink R_Re 94 y_It_replace ∈ tb := tb_at 303 (by decide +kernel) (by decide +kernel)
theorem mm_304 : Cond.methodLink R_Re 60 y_Re_isRightHalf ∈ tb := tb_at 304 (by decide +kernel) (by decide +kernel)
theorem mm_306 : Cond.instanceMethod y_Re_isRightHalf ∈ tb := tb_at 306 (by decide +kernel) (by decide +kernel)
theorem mm_307 : wc_Re_isRightHalf ∈ tb := tb_at 307 (by decide +kernel) (by decide +kernel)
theorem mm_308 : Cond.methodLink R_Re 65 y_Fi_weightOf ∈ tb := tb_at 308 (by decide +kernel) (by decide +kernel)
theorem mm_309 : Cond.static y_Fi_weightOf ∈ tb := tb_at 309 (by decide +kernel) (by decide +kernel)
theorem mm_310 : wc_Fi_weightOf ∈ tb := tb_at 310 (by decide +kernel) (by decide +kernel)
theorem mm_311 : Cond.methodLink R_Re 51 y_Re_isRow ∈ tb := tb_at 311 (by decide +kernel) (by decide +kernel)
theorem mm_313 : Cond.instanceMethod y_Re_isRow ∈ tb := tb_at 313 (by decide +kernel) (by decide +kernel)
theorem mm_314 : wc_Re_isRow ∈ tb := tb_at 314 (by decide +kernel) (by decide +kernel)
theorem mm_315 : Cond.methodLink R_Re 97 y_Re_isLastAt ∈ tb := tb_at 315 (by decide +kernel) (by decide +kernel)
theorem mm_317 : Cond.instanceMethod y_Re_isLastAt ∈ tb := tb_at 317 (by decide +kernel) (by decide +kernel)
theorem mm_318 : wc_Re_isLastAt ∈ tb := tb_at 318 (by decide +kernel) (by decide +kernel)
theorem mm_319 : Cond.constant R_Re 124 2331112 ∈ tb := tb_at 319 (by decide +kernel) (by decide +kernel)
theorem mm_320 : Cond.methodLink R_Re 100 y_Re_symbolAt ∈ tb := tb_at 320 (by decide +kernel) (by decide +kernel)
theorem mm_322 : Cond.instanceMethod y_Re_symbolAt ∈ tb := tb_at 322 (by decide +kernel) (by decide +kernel)
theorem mm_323 : wc_Re_symbolAt ∈ tb := tb_at 323 (by decide +kernel) (by decide +kernel)
theorem mm_324 : Cond.methodLink R_Re 121 y_Wi_symbolWith ∈ tb := tb_at 324 (by decide +kernel) (by decide +kernel)
theorem mm_325 : Cond.static y_Wi_symbolWith ∈ tb := tb_at 325 (by decide +kernel) (by decide +kernel)
theorem mm_326 : wc_Wi_symbolWith ∈ tb := tb_at 326 (by decide +kernel) (by decide +kernel)
theorem mm_327 : Cond.fieldLink R_Wi 14 "LineCodes$Widths" "SYMBOLS" "[I" ∈ tb := tb_at 327 (by decide +kernel) (by decide +kernel)
theorem mm_329 : Cond.methodLink R_Re 103 y_Se_isFirst ∈ tb := tb_at 329 (by decide +kernel) (by decide +kernel)
theorem mm_330 : Cond.static y_Se_isFirst ∈ tb := tb_at 330 (by decide +kernel) (by decide +kernel)
theorem mm_331 : wc_Se_isFirst ∈ tb := tb_at 331 (by decide +kernel) (by decide +kernel)
theorem mm_332 : Cond.methodLink R_Re 106 y_Re_isTold ∈ tb := tb_at 332 (by decide +kernel) (by decide +kernel)
theorem mm_334 : Cond.instanceMethod y_Re_isTold ∈ tb := tb_at 334 (by decide +kernel) (by decide +kernel)
theorem mm_335 : wc_Re_isTold ∈ tb := tb_at 335 (by decide +kernel) (by decide +kernel)
theorem mm_336 : Cond.methodLink R_Re 109 y_Se_otherOfAB ∈ tb := tb_at 336 (by decide +kernel) (by decide +kernel)
theorem mm_337 : Cond.methodLink R_Re 112 y_Se_signOf ∈ tb := tb_at 337 (by decide +kernel) (by decide +kernel)
theorem mm_338 : Cond.static y_Se_signOf ∈ tb := tb_at 338 (by decide +kernel) (by decide +kernel)
theorem mm_339 : wc_Se_signOf ∈ tb := tb_at 339 (by decide +kernel) (by decide +kernel)
theorem mm_340 : Cond.methodLink R_Re 115 y_Re_isSwitched ∈ tb := tb_at 340 (by decide +kernel) (by decide +kernel)
theorem mm_342 : Cond.instanceMethod y_Re_isSwitched ∈ tb := tb_at 342 (by decide +kernel) (by decide +kernel)
theorem mm_343 : wc_Re_isSwitched ∈ tb := tb_at 343 (by decide +kernel) (by decide +kernel)
theorem mm_344 : Cond.methodLink R_Re 118 y_Se_setAfter ∈ tb := tb_at 344 (by decide +kernel) (by decide +kernel)
theorem mm_345 : Cond.static y_Se_setAfter ∈ tb := tb_at 345 (by decide +kernel) (by decide +kernel)
theorem mm_346 : wc_Se_setAfter ∈ tb := tb_at 346 (by decide +kernel) (by decide +kernel)
theorem mm_347 : Cond.methodLink R_Lc 135 y_Re_toldCount ∈ tb := tb_at 347 (by decide +kernel) (by decide +kernel)
theorem mm_348 : Cond.instanceMethod y_Re_toldCount ∈ tb := tb_at 348 (by decide +kernel) (by decide +kernel)
theorem mm_349 : Cond.selects R_Re y_Re_toldCount y_Re_toldCount ∈ tb := tb_at 349 (by decide +kernel) (by decide +kernel)
theorem mm_350 : wc_Re_toldCount ∈ tb := tb_at 350 (by decide +kernel) (by decide +kernel)
theorem mm_355 : Cond.methodLink R_Lc 138 y_Re_toldAt ∈ tb := tb_at 355 (by decide +kernel) (by decide +kernel)
theorem mm_356 : Cond.instanceMethod y_Re_toldAt ∈ tb := tb_at 356 (by decide +kernel) (by decide +kernel)
theorem mm_357 : Cond.selects R_Re y_Re_toldAt y_Re_toldAt ∈ tb := tb_at 357 (by decide +kernel) (by decide +kernel)
theorem mm_358 : wc_Re_toldAt ∈ tb := tb_at 358 (by decide +kernel) (by decide +kernel)
theorem mm_363 : Cond.methodLink R_Lc 141 y_Re_isFromBack ∈ tb := tb_at 363 (by decide +kernel) (by decide +kernel)
theorem mm_364 : Cond.instanceMethod y_Re_isFromBack ∈ tb := tb_at 364 (by decide +kernel) (by decide +kernel)
theorem mm_365 : Cond.selects R_Re y_Re_isFromBack y_Re_isFromBack ∈ tb := tb_at 365 (by decide +kernel) (by decide +kernel)
theorem mm_366 : wc_Re_isFromBack ∈ tb := tb_at 366 (by decide +kernel) (by decide +kernel)
theorem mm_375 : Cond.methodLink R_Lc 42 y_Lc_refuseByteCount ∈ tb := tb_at 375 (by decide +kernel) (by decide +kernel)
theorem mm_376 : Cond.static y_Lc_refuseByteCount ∈ tb := tb_at 376 (by decide +kernel) (by decide +kernel)
theorem mm_377 : wc_Lc_refuseByteCount ∈ tb := tb_at 377 (by decide +kernel) (by decide +kernel)
theorem mm_446 : Cond.methodLink R_Lc 45 y_Lc_byteOf ∈ tb := tb_at 446 (by decide +kernel) (by decide +kernel)
theorem mm_447 : Cond.static y_Lc_byteOf ∈ tb := tb_at 447 (by decide +kernel) (by decide +kernel)
theorem mm_448 : wc_Lc_byteOf ∈ tb := tb_at 448 (by decide +kernel) (by decide +kernel)
theorem mm_449 : Cond.constantLong R_Lc 153 255 ∈ tb := tb_at 449 (by decide +kernel) (by decide +kernel)
theorem mm_451 : Cond.methodLink R_Lc 58 y_Lc_addBytes ∈ tb := tb_at 451 (by decide +kernel) (by decide +kernel)
theorem mm_452 : Cond.static y_Lc_addBytes ∈ tb := tb_at 452 (by decide +kernel) (by decide +kernel)
theorem mm_453 : wc_Lc_addBytes ∈ tb := tb_at 453 (by decide +kernel) (by decide +kernel)
theorem mm_454 : Cond.methodLink R_Lc 155 y_It_hasRoomFor ∈ tb := tb_at 454 (by decide +kernel) (by decide +kernel)
theorem mm_455 : Cond.instanceMethod y_It_hasRoomFor ∈ tb := tb_at 455 (by decide +kernel) (by decide +kernel)
theorem mm_456 : Cond.selects R_It y_It_hasRoomFor y_It_hasRoomFor ∈ tb := tb_at 456 (by decide +kernel) (by decide +kernel)
theorem mm_457 : wc_It_hasRoomFor ∈ tb := tb_at 457 (by decide +kernel) (by decide +kernel)
theorem mm_458 : Cond.methodLink R_Lc 159 y_It_add ∈ tb := tb_at 458 (by decide +kernel) (by decide +kernel)
theorem mm_467 : Cond.methodLink R_Lc 76 y_Lc_refuseModule ∈ tb := tb_at 467 (by decide +kernel) (by decide +kernel)
theorem mm_468 : Cond.static y_Lc_refuseModule ∈ tb := tb_at 468 (by decide +kernel) (by decide +kernel)
theorem mm_469 : wc_Lc_refuseModule ∈ tb := tb_at 469 (by decide +kernel) (by decide +kernel)
theorem mm_487 : Cond.methodLink R_Lc 84 y_Wi_ofSymbol ∈ tb := tb_at 487 (by decide +kernel) (by decide +kernel)
theorem mm_488 : Cond.static y_Wi_ofSymbol ∈ tb := tb_at 488 (by decide +kernel) (by decide +kernel)
theorem mm_489 : wc_Wi_ofSymbol ∈ tb := tb_at 489 (by decide +kernel) (by decide +kernel)
theorem mm_490 : Cond.constant R_Wi 13 2331112 ∈ tb := tb_at 490 (by decide +kernel) (by decide +kernel)
theorem mm_491 : Cond.methodLink R_Wi 18 y_Wi_entry ∈ tb := tb_at 491 (by decide +kernel) (by decide +kernel)
theorem mm_492 : Cond.static y_Wi_entry ∈ tb := tb_at 492 (by decide +kernel) (by decide +kernel)
theorem mm_493 : wc_Wi_entry ∈ tb := tb_at 493 (by decide +kernel) (by decide +kernel)
theorem mm_494 : Cond.methodLink R_Lc 89 y_Lc_addWidths ∈ tb := tb_at 494 (by decide +kernel) (by decide +kernel)
theorem mm_496 : Cond.instanceMethod y_Lc_addWidths ∈ tb := tb_at 496 (by decide +kernel) (by decide +kernel)
theorem mm_497 : wc_Lc_addWidths ∈ tb := tb_at 497 (by decide +kernel) (by decide +kernel)
theorem mm_498 : Cond.constant R_Lc 162 1000000 ∈ tb := tb_at 498 (by decide +kernel) (by decide +kernel)
theorem mm_506 : Cond.methodLink R_Lc 93 y_Lc_refuseTwelve ∈ tb := tb_at 506 (by decide +kernel) (by decide +kernel)
theorem mm_507 : Cond.static y_Lc_refuseTwelve ∈ tb := tb_at 507 (by decide +kernel) (by decide +kernel)
theorem mm_508 : wc_Lc_refuseTwelve ∈ tb := tb_at 508 (by decide +kernel) (by decide +kernel)
theorem mm_509 : Cond.constantLong R_Lc 149 999999999999 ∈ tb := tb_at 509 (by decide +kernel) (by decide +kernel)
theorem mm_511 : Cond.methodLink R_Lc 97 y_Fi_checkOf ∈ tb := tb_at 511 (by decide +kernel) (by decide +kernel)
theorem mm_512 : Cond.static y_Fi_checkOf ∈ tb := tb_at 512 (by decide +kernel) (by decide +kernel)
theorem mm_513 : wc_Fi_checkOf ∈ tb := tb_at 513 (by decide +kernel) (by decide +kernel)
theorem mm_514 : Cond.methodLink R_Fi 11 y_Fi_weightOf ∈ tb := tb_at 514 (by decide +kernel) (by decide +kernel)
theorem mm_515 : Cond.methodLink R_Fi 15 y_Fi_figureOf ∈ tb := tb_at 515 (by decide +kernel) (by decide +kernel)
theorem mm_516 : Cond.static y_Fi_figureOf ∈ tb := tb_at 516 (by decide +kernel) (by decide +kernel)
theorem mm_517 : wc_Fi_figureOf ∈ tb := tb_at 517 (by decide +kernel) (by decide +kernel)
theorem mm_518 : Cond.constantLong R_Fi 9 10 ∈ tb := tb_at 518 (by decide +kernel) (by decide +kernel)
theorem mm_526 : Cond.methodLink R_Lc 103 y_Fi_figureOf ∈ tb := tb_at 526 (by decide +kernel) (by decide +kernel)
theorem mm_527 : Cond.methodLink R_Lc 106 y_Wi_turnsOf ∈ tb := tb_at 527 (by decide +kernel) (by decide +kernel)
theorem mm_528 : Cond.static y_Wi_turnsOf ∈ tb := tb_at 528 (by decide +kernel) (by decide +kernel)
theorem mm_529 : wc_Wi_turnsOf ∈ tb := tb_at 529 (by decide +kernel) (by decide +kernel)
theorem mm_530 : Cond.methodLink R_Lc 109 y_Wi_ofFigure ∈ tb := tb_at 530 (by decide +kernel) (by decide +kernel)
theorem mm_531 : Cond.static y_Wi_ofFigure ∈ tb := tb_at 531 (by decide +kernel) (by decide +kernel)
theorem mm_532 : wc_Wi_ofFigure ∈ tb := tb_at 532 (by decide +kernel) (by decide +kernel)
theorem mm_533 : Cond.methodLink R_Lc 112 y_Wi_turned ∈ tb := tb_at 533 (by decide +kernel) (by decide +kernel)
theorem mm_567 : Cond.methodLink R_Lc 124 y_It_replace ∈ tb := tb_at 567 (by decide +kernel) (by decide +kernel)
theorem mm_680 : Cond.fieldLink R_Md 113 "LineCodesModel" "bars" "[I" ∈ tb := tb_at 680 (by decide +kernel) (by decide +kernel)
theorem mm_681 : Cond.fieldLink R_Md 119 "LineCodesModel" "figures" "[I" ∈ tb := tb_at 681 (by decide +kernel) (by decide +kernel)
theorem mm_682 : Cond.fieldLink R_Md 122 "LineCodesModel" "turns" "[I" ∈ tb := tb_at 682 (by decide +kernel) (by decide +kernel)
theorem mm_683 : Cond.fieldLink R_Md 149 "LineCodesModel" "thrown" "I" ∈ tb := tb_at 683 (by decide +kernel) (by decide +kernel)
theorem mm_684 : Cond.fieldLink R_Md 125 "LineCodesModel" "text" "[I" ∈ tb := tb_at 684 (by decide +kernel) (by decide +kernel)
theorem mm_685 : Cond.fieldLink R_Md 157 "LineCodesModel" "length" "I" ∈ tb := tb_at 685 (by decide +kernel) (by decide +kernel)
theorem mm_686 : Cond.fieldLink R_Md 128 "LineCodesModel" "least" "[I" ∈ tb := tb_at 686 (by decide +kernel) (by decide +kernel)
theorem mm_687 : Cond.fieldLink R_Md 131 "LineCodesModel" "row" "[I" ∈ tb := tb_at 687 (by decide +kernel) (by decide +kernel)
theorem mm_688 : Cond.fieldLink R_Md 188 "LineCodesModel" "symbols" "I" ∈ tb := tb_at 688 (by decide +kernel) (by decide +kernel)
theorem mm_689 : Cond.fieldLink R_Md 134 "LineCodesModel" "strip" "[I" ∈ tb := tb_at 689 (by decide +kernel) (by decide +kernel)
theorem mm_690 : Cond.fieldLink R_Md 202 "LineCodesModel" "widths" "I" ∈ tb := tb_at 690 (by decide +kernel) (by decide +kernel)
theorem mm_691 : Cond.fieldLink R_Md 137 "LineCodesModel" "turned" "[I" ∈ tb := tb_at 691 (by decide +kernel) (by decide +kernel)
theorem mm_692 : Cond.fieldLink R_Md 140 "LineCodesModel" "found" "[I" ∈ tb := tb_at 692 (by decide +kernel) (by decide +kernel)
theorem mm_693 : Cond.fieldLink R_Md 143 "LineCodesModel" "signs" "[I" ∈ tb := tb_at 693 (by decide +kernel) (by decide +kernel)
theorem mm_694 : Cond.fieldLink R_Md 270 "LineCodesModel" "told" "I" ∈ tb := tb_at 694 (by decide +kernel) (by decide +kernel)
theorem mm_695 : Cond.fieldLink R_Md 266 "LineCodesModel" "back" "Z" ∈ tb := tb_at 695 (by decide +kernel) (by decide +kernel)
theorem mm_696 : Cond.fieldLink R_Md 146 "LineCodesModel" "draft" "[I" ∈ tb := tb_at 696 (by decide +kernel) (by decide +kernel)
theorem mm_697 : Cond.fieldLink R_Md 250 "LineCodesModel" "drafted" "I" ∈ tb := tb_at 697 (by decide +kernel) (by decide +kernel)
theorem mm_698 : Cond.laysFinal R_Md "LineCodesModel" "bars" "[I" ∈ tb := tb_at 698 (by decide +kernel) (by decide +kernel)
theorem mm_700 : Cond.laysFinal R_Md "LineCodesModel" "figures" "[I" ∈ tb := tb_at 700 (by decide +kernel) (by decide +kernel)
theorem mm_702 : Cond.laysFinal R_Md "LineCodesModel" "turns" "[I" ∈ tb := tb_at 702 (by decide +kernel) (by decide +kernel)
theorem mm_704 : Cond.lays R_Md "LineCodesModel" "thrown" "I" ∈ tb := tb_at 704 (by decide +kernel) (by decide +kernel)
theorem mm_706 : Cond.laysFinal R_Md "LineCodesModel" "text" "[I" ∈ tb := tb_at 706 (by decide +kernel) (by decide +kernel)
theorem mm_708 : Cond.lays R_Md "LineCodesModel" "length" "I" ∈ tb := tb_at 708 (by decide +kernel) (by decide +kernel)
theorem mm_710 : Cond.laysFinal R_Md "LineCodesModel" "least" "[I" ∈ tb := tb_at 710 (by decide +kernel) (by decide +kernel)
theorem mm_712 : Cond.laysFinal R_Md "LineCodesModel" "row" "[I" ∈ tb := tb_at 712 (by decide +kernel) (by decide +kernel)
theorem mm_714 : Cond.lays R_Md "LineCodesModel" "symbols" "I" ∈ tb := tb_at 714 (by decide +kernel) (by decide +kernel)
theorem mm_716 : Cond.laysFinal R_Md "LineCodesModel" "strip" "[I" ∈ tb := tb_at 716 (by decide +kernel) (by decide +kernel)
theorem mm_718 : Cond.lays R_Md "LineCodesModel" "widths" "I" ∈ tb := tb_at 718 (by decide +kernel) (by decide +kernel)
theorem mm_720 : Cond.laysFinal R_Md "LineCodesModel" "turned" "[I" ∈ tb := tb_at 720 (by decide +kernel) (by decide +kernel)
theorem mm_722 : Cond.laysFinal R_Md "LineCodesModel" "found" "[I" ∈ tb := tb_at 722 (by decide +kernel) (by decide +kernel)
theorem mm_724 : Cond.laysFinal R_Md "LineCodesModel" "signs" "[I" ∈ tb := tb_at 724 (by decide +kernel) (by decide +kernel)
theorem mm_726 : Cond.lays R_Md "LineCodesModel" "told" "I" ∈ tb := tb_at 726 (by decide +kernel) (by decide +kernel)
theorem mm_728 : Cond.lays R_Md "LineCodesModel" "back" "Z" ∈ tb := tb_at 728 (by decide +kernel) (by decide +kernel)
theorem mm_730 : Cond.laysFinal R_Md "LineCodesModel" "draft" "[I" ∈ tb := tb_at 730 (by decide +kernel) (by decide +kernel)
theorem mm_732 : Cond.lays R_Md "LineCodesModel" "drafted" "I" ∈ tb := tb_at 732 (by decide +kernel) (by decide +kernel)
theorem mm_743 : Cond.constantLong R_Md 153 255 ∈ tb := tb_at 743 (by decide +kernel) (by decide +kernel)
theorem mm_744 : Cond.constantLong R_Md 155 128 ∈ tb := tb_at 744 (by decide +kernel) (by decide +kernel)
theorem mm_753 : Cond.methodLink R_Md 191 y_Md_relax ∈ tb := tb_at 753 (by decide +kernel) (by decide +kernel)
theorem mm_755 : Cond.instanceMethod y_Md_relax ∈ tb := tb_at 755 (by decide +kernel) (by decide +kernel)
theorem mm_756 : wc_Md_relax ∈ tb := tb_at 756 (by decide +kernel) (by decide +kernel)
theorem mm_757 : Cond.methodLink R_Md 185 y_Md_with ∈ tb := tb_at 757 (by decide +kernel) (by decide +kernel)
theorem mm_759 : Cond.instanceMethod y_Md_with ∈ tb := tb_at 759 (by decide +kernel) (by decide +kernel)
theorem mm_760 : wc_Md_with ∈ tb := tb_at 760 (by decide +kernel) (by decide +kernel)
theorem mm_761 : Cond.methodLink R_Md 172 y_Md_tells ∈ tb := tb_at 761 (by decide +kernel) (by decide +kernel)
theorem mm_763 : Cond.instanceMethod y_Md_tells ∈ tb := tb_at 763 (by decide +kernel) (by decide +kernel)
theorem mm_764 : wc_Md_tells ∈ tb := tb_at 764 (by decide +kernel) (by decide +kernel)
theorem mm_765 : Cond.methodLink R_Md 160 y_Md_at ∈ tb := tb_at 765 (by decide +kernel) (by decide +kernel)
theorem mm_767 : Cond.instanceMethod y_Md_at ∈ tb := tb_at 767 (by decide +kernel) (by decide +kernel)
theorem mm_768 : wc_Md_at ∈ tb := tb_at 768 (by decide +kernel) (by decide +kernel)
theorem mm_769 : Cond.methodLink R_Md 164 y_Md_isPair ∈ tb := tb_at 769 (by decide +kernel) (by decide +kernel)
theorem mm_771 : Cond.instanceMethod y_Md_isPair ∈ tb := tb_at 771 (by decide +kernel) (by decide +kernel)
theorem mm_772 : wc_Md_isPair ∈ tb := tb_at 772 (by decide +kernel) (by decide +kernel)
theorem mm_773 : Cond.methodLink R_Md 168 y_Md_signOf ∈ tb := tb_at 773 (by decide +kernel) (by decide +kernel)
theorem mm_774 : Cond.static y_Md_signOf ∈ tb := tb_at 774 (by decide +kernel) (by decide +kernel)
theorem mm_775 : wc_Md_signOf ∈ tb := tb_at 775 (by decide +kernel) (by decide +kernel)
theorem mm_776 : Cond.methodLink R_Md 176 y_Md_leastAt ∈ tb := tb_at 776 (by decide +kernel) (by decide +kernel)
theorem mm_778 : Cond.instanceMethod y_Md_leastAt ∈ tb := tb_at 778 (by decide +kernel) (by decide +kernel)
theorem mm_779 : wc_Md_leastAt ∈ tb := tb_at 779 (by decide +kernel) (by decide +kernel)
theorem mm_780 : Cond.methodLink R_Md 179 y_Md_goes ∈ tb := tb_at 780 (by decide +kernel) (by decide +kernel)
theorem mm_781 : Cond.static y_Md_goes ∈ tb := tb_at 781 (by decide +kernel) (by decide +kernel)
theorem mm_782 : wc_Md_goes ∈ tb := tb_at 782 (by decide +kernel) (by decide +kernel)
theorem mm_783 : Cond.methodLink R_Md 182 y_Md_isOther ∈ tb := tb_at 783 (by decide +kernel) (by decide +kernel)
theorem mm_785 : Cond.instanceMethod y_Md_isOther ∈ tb := tb_at 785 (by decide +kernel) (by decide +kernel)
theorem mm_786 : wc_Md_isOther ∈ tb := tb_at 786 (by decide +kernel) (by decide +kernel)
theorem mm_787 : Cond.methodLink R_Md 194 y_Md_add ∈ tb := tb_at 787 (by decide +kernel) (by decide +kernel)
theorem mm_789 : Cond.instanceMethod y_Md_add ∈ tb := tb_at 789 (by decide +kernel) (by decide +kernel)
theorem mm_790 : wc_Md_add ∈ tb := tb_at 790 (by decide +kernel) (by decide +kernel)
theorem mm_791 : Cond.methodLink R_Md 198 y_Md_check ∈ tb := tb_at 791 (by decide +kernel) (by decide +kernel)
theorem mm_792 : Cond.static y_Md_check ∈ tb := tb_at 792 (by decide +kernel) (by decide +kernel)
theorem mm_793 : wc_Md_check ∈ tb := tb_at 793 (by decide +kernel) (by decide +kernel)
theorem mm_802 : Cond.methodLink R_Md 205 y_Md_noModule ∈ tb := tb_at 802 (by decide +kernel) (by decide +kernel)
theorem mm_803 : Cond.static y_Md_noModule ∈ tb := tb_at 803 (by decide +kernel) (by decide +kernel)
theorem mm_804 : wc_Md_noModule ∈ tb := tb_at 804 (by decide +kernel) (by decide +kernel)
theorem mm_805 : Cond.methodLink R_Md 209 y_Md_lay ∈ tb := tb_at 805 (by decide +kernel) (by decide +kernel)
theorem mm_807 : Cond.instanceMethod y_Md_lay ∈ tb := tb_at 807 (by decide +kernel) (by decide +kernel)
theorem mm_808 : wc_Md_lay ∈ tb := tb_at 808 (by decide +kernel) (by decide +kernel)
theorem mm_809 : Cond.constant R_Md 213 2331112 ∈ tb := tb_at 809 (by decide +kernel) (by decide +kernel)
theorem mm_811 : Cond.instanceMethod y_Md_checkFigure ∈ tb := tb_at 811 (by decide +kernel) (by decide +kernel)
theorem mm_812 : Cond.selects R_Md y_Md_checkFigure y_Md_checkFigure ∈ tb := tb_at 812 (by decide +kernel) (by decide +kernel)
theorem mm_813 : wc_Md_checkFigure ∈ tb := tb_at 813 (by decide +kernel) (by decide +kernel)
theorem mm_814 : Cond.methodLink R_Md 218 y_Md_noTwelve ∈ tb := tb_at 814 (by decide +kernel) (by decide +kernel)
theorem mm_815 : Cond.static y_Md_noTwelve ∈ tb := tb_at 815 (by decide +kernel) (by decide +kernel)
theorem mm_816 : wc_Md_noTwelve ∈ tb := tb_at 816 (by decide +kernel) (by decide +kernel)
theorem mm_817 : Cond.constantLong R_Md 214 999999999999 ∈ tb := tb_at 817 (by decide +kernel) (by decide +kernel)
theorem mm_818 : Cond.methodLink R_Md 222 y_Md_figure ∈ tb := tb_at 818 (by decide +kernel) (by decide +kernel)
theorem mm_819 : Cond.static y_Md_figure ∈ tb := tb_at 819 (by decide +kernel) (by decide +kernel)
theorem mm_820 : wc_Md_figure ∈ tb := tb_at 820 (by decide +kernel) (by decide +kernel)
theorem mm_821 : Cond.constantLong R_Md 216 10 ∈ tb := tb_at 821 (by decide +kernel) (by decide +kernel)
theorem mm_826 : Cond.methodLink R_Md 226 y_Md_checkFigure ∈ tb := tb_at 826 (by decide +kernel) (by decide +kernel)
theorem mm_827 : Cond.methodLink R_Md 230 y_Md_isTurned ∈ tb := tb_at 827 (by decide +kernel) (by decide +kernel)
theorem mm_829 : Cond.instanceMethod y_Md_isTurned ∈ tb := tb_at 829 (by decide +kernel) (by decide +kernel)
theorem mm_830 : wc_Md_isTurned ∈ tb := tb_at 830 (by decide +kernel) (by decide +kernel)
theorem mm_831 : Cond.methodLink R_Md 233 y_Md_reversed ∈ tb := tb_at 831 (by decide +kernel) (by decide +kernel)
theorem mm_832 : Cond.static y_Md_reversed ∈ tb := tb_at 832 (by decide +kernel) (by decide +kernel)
theorem mm_833 : wc_Md_reversed ∈ tb := tb_at 833 (by decide +kernel) (by decide +kernel)
theorem mm_854 : Cond.methodLink R_Md 236 y_Md_reverse ∈ tb := tb_at 854 (by decide +kernel) (by decide +kernel)
theorem mm_856 : Cond.instanceMethod y_Md_reverse ∈ tb := tb_at 856 (by decide +kernel) (by decide +kernel)
theorem mm_857 : wc_Md_reverse ∈ tb := tb_at 857 (by decide +kernel) (by decide +kernel)
theorem mm_862 : Cond.methodLink R_Md 263 y_Md_isSome ∈ tb := tb_at 862 (by decide +kernel) (by decide +kernel)
theorem mm_864 : Cond.instanceMethod y_Md_isSome ∈ tb := tb_at 864 (by decide +kernel) (by decide +kernel)
theorem mm_865 : wc_Md_isSome ∈ tb := tb_at 865 (by decide +kernel) (by decide +kernel)
theorem mm_866 : Cond.methodLink R_Md 256 y_Md_isThirteen ∈ tb := tb_at 866 (by decide +kernel) (by decide +kernel)
theorem mm_868 : Cond.instanceMethod y_Md_isThirteen ∈ tb := tb_at 868 (by decide +kernel) (by decide +kernel)
theorem mm_869 : wc_Md_isThirteen ∈ tb := tb_at 869 (by decide +kernel) (by decide +kernel)
theorem mm_870 : Cond.methodLink R_Md 240 y_Md_sumOf ∈ tb := tb_at 870 (by decide +kernel) (by decide +kernel)
theorem mm_872 : Cond.instanceMethod y_Md_sumOf ∈ tb := tb_at 872 (by decide +kernel) (by decide +kernel)
theorem mm_873 : wc_Md_sumOf ∈ tb := tb_at 873 (by decide +kernel) (by decide +kernel)
theorem mm_874 : Cond.methodLink R_Md 243 y_Md_counts ∈ tb := tb_at 874 (by decide +kernel) (by decide +kernel)
theorem mm_876 : Cond.instanceMethod y_Md_counts ∈ tb := tb_at 876 (by decide +kernel) (by decide +kernel)
theorem mm_877 : wc_Md_counts ∈ tb := tb_at 877 (by decide +kernel) (by decide +kernel)
theorem mm_878 : Cond.methodLink R_Md 247 y_Md_place ∈ tb := tb_at 878 (by decide +kernel) (by decide +kernel)
theorem mm_879 : Cond.static y_Md_place ∈ tb := tb_at 879 (by decide +kernel) (by decide +kernel)
theorem mm_880 : wc_Md_place ∈ tb := tb_at 880 (by decide +kernel) (by decide +kernel)
theorem mm_881 : Cond.methodLink R_Md 253 y_Md_tell ∈ tb := tb_at 881 (by decide +kernel) (by decide +kernel)
theorem mm_883 : Cond.instanceMethod y_Md_tell ∈ tb := tb_at 883 (by decide +kernel) (by decide +kernel)
theorem mm_884 : wc_Md_tell ∈ tb := tb_at 884 (by decide +kernel) (by decide +kernel)
theorem mm_885 : Cond.methodLink R_Md 260 y_Md_isRow ∈ tb := tb_at 885 (by decide +kernel) (by decide +kernel)
theorem mm_887 : Cond.instanceMethod y_Md_isRow ∈ tb := tb_at 887 (by decide +kernel) (by decide +kernel)
theorem mm_888 : wc_Md_isRow ∈ tb := tb_at 888 (by decide +kernel) (by decide +kernel)
theorem in_It : ∀ w ∈ u_ws R_It T_It 2, w ∈ tb := List.forall_mem_cons.mpr ⟨mm_75, List.forall_mem_cons.mpr ⟨mm_77, fun _ h => absurd h List.not_mem_nil⟩⟩
theorem in_Pa : ∀ w ∈ u_ws R_Pa T_Pa 3, w ∈ tb := List.forall_mem_cons.mpr ⟨mm_90, List.forall_mem_cons.mpr ⟨mm_92, List.forall_mem_cons.mpr ⟨mm_94, fun _ h => absurd h List.not_mem_nil⟩⟩⟩
theorem in_Re : ∀ w ∈ u_ws R_Re T_Re 5, w ∈ tb := List.forall_mem_cons.mpr ⟨mm_110, List.forall_mem_cons.mpr ⟨mm_112, List.forall_mem_cons.mpr ⟨mm_114, List.forall_mem_cons.mpr ⟨mm_116, List.forall_mem_cons.mpr ⟨mm_118, fun _ h => absurd h List.not_mem_nil⟩⟩⟩⟩⟩
theorem in_Lc : ∀ w ∈ u_ws R_Lc T_Lc 5, w ∈ tb := List.forall_mem_cons.mpr ⟨mm_126, List.forall_mem_cons.mpr ⟨mm_128, List.forall_mem_cons.mpr ⟨mm_130, List.forall_mem_cons.mpr ⟨mm_132, List.forall_mem_cons.mpr ⟨mm_134, fun _ h => absurd h List.not_mem_nil⟩⟩⟩⟩⟩
theorem in_Md : ∀ w ∈ u_ws R_Md T_Md 18, w ∈ tb := List.forall_mem_cons.mpr ⟨mm_698, List.forall_mem_cons.mpr ⟨mm_700, List.forall_mem_cons.mpr ⟨mm_702, List.forall_mem_cons.mpr ⟨mm_704, List.forall_mem_cons.mpr ⟨mm_706, List.forall_mem_cons.mpr ⟨mm_708, List.forall_mem_cons.mpr ⟨mm_710, List.forall_mem_cons.mpr ⟨mm_712, List.forall_mem_cons.mpr ⟨mm_714, List.forall_mem_cons.mpr ⟨mm_716, List.forall_mem_cons.mpr ⟨mm_718, List.forall_mem_cons.mpr ⟨mm_720, List.forall_mem_cons.mpr ⟨mm_722, List.forall_mem_cons.mpr ⟨mm_724, List.forall_mem_cons.mpr ⟨mm_726, List.forall_mem_cons.mpr ⟨mm_728, List.forall_mem_cons.mpr ⟨mm_730, List.forall_mem_cons.mpr ⟨mm_732, fun _ h => absurd h List.not_mem_nil⟩⟩⟩⟩⟩⟩⟩⟩⟩⟩⟩⟩⟩⟩⟩⟩⟩⟩
end
section
/-! Methods that throw. A contract of a throw speaks of the calls that throw, and of those alone: nothing old is written, the thrown object is new. The returning calls have contracts of their own (Met). -/
/-- what holds from here on, whatever is called -/
def yc (P : State → Prop) (A : Nat → Prop) (U : State) (H : Heap) : Prop := ∀ U' : State, U.WarmedH U'.vm → (∀ a : Nat, a < H.size → ¬ A a → U'.heap[a]? = H[a]?) → P U'
theorem yc_zk (P : State → Prop) : zk (yc P) := by
  refine ⟨fun A u U H hv h U' hW hq => h U' (State.WarmedH.trans hv hW) hq, fun A U H H1 h hq U' hW hq' => h U' hW (fun a ha hA => ?_), fun A B U H h hAB U' hW hq => h U' hW (fun a ha hA => hq a ha (fun z => hA (hAB a z)))⟩
  have e := hq a ha hA
  exact (hq' a (Array.getElem?_eq_some_iff.mp (e.trans (Array.getElem?_eq_getElem ha))).1 hA).trans e
theorem yc_now {P : State → Prop} {A : Nat → Prop} {s : State} (h : yc P A s s.heap) : P s := h s (State.WarmedH.refl s) (fun _ _ _ => rfl)
/-- the object q is thrown, of the class E; the old cells are as they were -/
def xT (E : String) (st : State) (q : Addr) (t : State) : Prop := (∃ ce : Cell, t.heap[q]? = some ce ∧ ce.vm = .none ∧ st.vm.findClass E = some ce.cls) ∧ ∀ a : Nat, a < st.heap.size → t.heap[a]? = st.heap[a]?
def xMet (l : Launch) (y : MethodName) (ws : List Cond) (rm : Room) (Pc : Array Value → State → Prop) (xp : String → Prop) (mc ms : Nat) : Prop :=
  MetFree l y (headSpec ws rm) Pc (fun _ _ _ _ _ => True) (fun _ st o t => FrameEndT st o t [] mc ms ∧ ∃ (E : String) (q : Addr), o = .threw q ∧ xp E ∧ xT E st q t)
/-- what a body that throws owes -/
def XQ (below : List Frame) (xp : String → Prop) (s : State) (mc ms : Nat) : State → Prop := fun t => ∃ (E : String) (q : Addr), t.status = .running ∧ Ended t below (.threw q) ∧ xp E ∧ xT E s q t ∧ FrameEndT s (.threw q) t [] mc ms
theorem x_old {s U : State} {k n : Nat} (h : s.sameButNew ({ U with vm := s.vm } : State) [] k n) : ∀ a : Nat, a < s.heap.size → U.heap[a]? = s.heap[a]? := fun a ha => by
  have := h.old_cell (Array.getElem?_eq_getElem ha)
  exact this.trans (Array.getElem?_eq_getElem ha).symm
section XBODY
variable {l : Launch} {y : MethodName} {ws ws' : List Cond} {rm : Room} {Pc : Array Value → State → Prop} {xp : String → Prop} {mc ms : Nat} {cc : ByteArray} {maxL : Nat} {ret : Option FieldType}
theorem xMet.ofW (hy : plainName y.cls = true) (hw : ws = Cond.code y cc maxL ret :: ws')
    (body : ∀ p e s m args below meth c s₁, BodyLoose p l y (headSpec ws rm) cc maxL ret e s m args below meth c s₁ → c.maxLocals = maxL → (∀ x ∈ c.exceptionTable.toList, False) → Pc args s →
      W p l e (headSpec ws rm).room s m args below meth c s.heap [] 0 0 (XQ below xp s mc ms) (entryFrame m args maxL)) : xMet l y ws rm Pc xp mc ms := by
  refine MetFree.of_bodyS (code := cc) (maxLocals := maxL) (ret := ret) hy ?_ ?_
  · intro args s m h hn
    obtain ⟨meth, c, h1, h2, h3, h4, h5, h6, -, -⟩ := Cond.code_spec hn (atoms_spec (ws := ws) h _ (by rw [hw]; exact List.mem_cons_self))
    exact ⟨meth, c, h1, h2, h3, h4, h5, h6⟩
  · intro p e s m args below meth c s₁ B hml hP _
    have hno : ∀ x ∈ c.exceptionTable.toList, False := by
      obtain ⟨m9, c9, h1, h2, -, -, -, -, h7, -⟩ := Cond.code_spec B.named (atoms_spec (ws := ws) B.pre _ (by rw [hw]; exact List.mem_cons_self))
      have e1 : m9 = meth := Option.some.inj (h1.symm.trans B.method)
      subst e1
      have e2 : c9 = c := Option.some.inj (h2.symm.trans (Stand.of_body B).code)
      subst e2
      intro x hx
      rw [Array.isEmpty_iff.mp h7] at hx
      cases hx
    obtain ⟨t, a1, E, q, b1, b2, b3, b4, b5⟩ := body p e s m args below meth c s₁ B hml hno hP s₁ (by rw [B.state]; rfl) (Stand.of_body B)
    exact ⟨t, .threw q, a1, b1, b2, b5, E, q, rfl, b3, b4⟩
end XBODY
section XROWS
variable {p : Program} {l : Launch} {e : Env} {R : Room} {s : State} {m : MethodId} {args : Array Value} {below : List Frame} {meth : Method} {c : Code} {H : Heap} {locs : List Loc} {cells slots : Nat} {Q : State → Prop}
variable {Ts ws : List Cond} {cc bytes : ByteArray} {nL maxL index n mc ms pc : Nat} {own C : String} {y : MethodName} {ret : Option FieldType} {rm : Room} {Pc : Array Value → State → Prop} {xp : String → Prop} {ls : Array Slot} {st0 As rest : List Value} {b : Nat}
/-- 'throw new E(text)', uncaught in its method -/
theorem x_throw (hexec : p.tables.exec = Jvm.exec) (hb : c.code = cc) (hst : l.stackTraces = false) {cls text : String} {names : List String} {ik is ic sa : Nat}
    (hown : s.vm.findClass own = some m.cls) (hcls : Bundle.fit cls = true) (hnames : ∀ n ∈ names, Bundle.fit n = true) (hk : (Cond.classLink own ik cls).before args s = true) (hini : (Cond.initialized cls).before args s = true)
    (hstr : vk_R own is text sa s) (hat : ∀ w ∈ Bundle.ownAtoms own ic cls names, w.before args s = true) (hsize : ls.size = c.maxLocals)
    (d0 : decode cc pc = .ok (.new ik, 3)) (d3 : decode cc (pc + 3) = .ok (.dup, 1)) (d4 : decode cc (pc + 4) = .ok (.ldc is, 2)) (d6 : decode cc (pc + 6) = .ok (.invokespecial ic, 3)) (d9 : decode cc (pc + 9) = .ok (.athrow, 1))
    (hno : ∀ x ∈ c.exceptionTable.toList, False) (hRf : names.length + 3 < R.frames) (hRl : (rest.map fun v => v.category).sum + (13 * (names.length + 1) + 43) ≤ R.locals) (hRc : 1 ≤ R.cells) (hRs : 6 ≤ R.slots) (hlocks : meth.locks = false) (hxp : xp cls) :
    W p l e R s m args below meth c s.heap [] 0 0 (XQ below xp s 1 6) (F0 m pc ls rest) := by
  intro T hT X
  have htr : e.platform.stackTraces = false := (show e.platform.stackTraces = l.stackTraces by rw [X.admits.platform]).trans hst
  have hins : (Cond.instantiable cls 6).before args s = true := hat _ (by simp [Bundle.ownAtoms])
  obtain ⟨vm₁, cX, kX, hfX, hkX, -, -, X₁, st1⟩ := X.newCold hexec (own := own) (C := cls) (index := ik) (n := 6) hown hk hins hini (g := F0 m pc ls rest) rfl (by rw [hb]; exact d0) (by omega) (by omega)
  have main : W p l e R s m args below meth c ((T.setVm vm₁).pushCell { cls := cX, slots := kX.instanceTypes.map defaultValue, vm := .none }).heap [] (0 + 1) (0 + 6) (XQ below xp s 1 6) (F0 m (pc + 3) ls (.ref T.heap.size :: rest)) := by
    refine lv_dup hexec hb d3 rfl ?_
    refine va_ldcS hexec hb hown hstr d4 ?_
    intro T2 hT2 X2
    have hcell : T2.heap[T.heap.size]? = some (freshCell cX kX) := by rw [hT2]; exact State.heap_pushCell_size _ _
    obtain ⟨U, hsteps, hrun, hend, hW, hsame, ce, hce, hO⟩ := X2.ctorThrowS hexec htr (own := own) (cls := cls) (names := names) (ic := ic) hown hcls hnames hat (fun x hx => nomatch hx) hfX hkX hcell (by rw [hT]; exact Nat.le_refl _) (msg := .ref sa) rfl
      (g := F0 m (pc + 3 + 1 + 2) ls (.ref sa :: .ref T.heap.size :: .ref T.heap.size :: rest)) rfl hsize rfl rfl (rest := rest) rfl (by rw [hb]; exact d6) (by rw [hb]; exact d9) (fun x hx => (hno x hx).elim) hRf (by
        have hcat : (Value.ref T.heap.size).category = 1 := rfl
        have hmr : (F0 m (pc + 3 + 1 + 2) ls (.ref sa :: .ref T.heap.size :: .ref T.heap.size :: rest)).monitorRoom = 0 := rfl
        rw [hmr]
        simp only [List.map_cons, List.sum_cons, hcat]
        omega) hlocks
    exact ⟨U, hsteps, cls, T.heap.size, hrun, hend, hxp, ⟨⟨ce, hce, hO.vm, hO.cls⟩, x_old hsame⟩, ⟨_, rfl⟩, hW, hsame⟩
  obtain ⟨t, a1, b1⟩ := main _ rfl X₁
  exact ⟨t, st1 _ a1, b1⟩
/-- the premise on a callee that throws, out of its contract -/
theorem x_back {len W9 : Nat} (hM : xMet l y ws rm Pc xp mc ms) (hblind : FrameBlind Pc) (hrc : rm.cells = mc) (hrs : rm.slots = ms) (hframes : rm.frames + 1 ≤ R.frames) (hlocals : W9 + (maxL + 11) + rm.locals ≤ R.locals)
    (hws : ∀ w ∈ ws, ∀ (a' : Array Value) (U : State), s.WarmedH U.vm → w.before a' U = true) (hcode : Cond.code y bytes maxL ret ∈ ws) (hinit : ∀ (a' : Array Value) (U : State), s.WarmedH U.vm → (Cond.initialized y.cls).before a' U = true) :
    BackT l R p e below s args y len W9 (PreOf R mc ms Pc) (fun A a q B => ∃ (g : JFrame) (mk : MethodId) (t : State) (E : String), B.U.heap = t.heap ∧ xp E ∧ xT E (A.U.calling g mk a) q t ∧ B.locs = A.locs ++ [] ∧ B.cells = A.cells + mc ∧ B.slots = A.slots + ms) := by
  refine BackT.of_free (S := headSpec ws rm) (P := Pc) (K := fun _ _ _ _ _ => True) (Q := fun _ st o t => FrameEndT st o t [] mc ms ∧ ∃ (E : String) (q : Addr), o = .threw q ∧ xp E ∧ xT E st q t) (bytes := bytes) (maxL := maxL) (ret := ret)
    (E := fun _ _ _ _ L k n => L = [] ∧ k = mc ∧ n = ms) hM hframes hlocals ?_ ?_ (fun _ _ _ _ _ _ _ _ _ => trivial) ?_ ?_
  · intro m meth c A a X hp
    exact ⟨atoms_intro fun w hw => hws w hw _ _ X.warmed, hws _ hcode _ _ X.warmed, hinit _ _ X.warmed, by rw [show (headSpec ws rm).room.cells = mc from hrc]; exact hp.1, by rw [show (headSpec ws rm).room.slots = ms from hrs]; exact hp.2.1⟩
  · intro m meth c A a g mk X hp
    exact hblind _ _ _ _ hp.2.2
  · intro a st o t hq
    exact ⟨[], mc, ms, hq.1, rfl, rfl, rfl⟩
  · intro m meth c A a g mk v t L k n X hp hq hF hE
    obtain ⟨rfl, rfl, rfl⟩ := hE
    obtain ⟨-, E, q, e1, h1, h2⟩ := hq
    cases e1
    exact ⟨g, mk, t, E, rfl, h1, h2, rfl, rfl, rfl⟩
/-- a frame with q thrown over it -/
def xW (p : Program) (l : Launch) (e : Env) (R : Room) (s : State) (m : MethodId) (args : Array Value) (below : List Frame) (meth : Method) (c : Code) (H : Heap) (locs : List Loc) (cells slots : Nat) (Q : State → Prop) (g : JFrame) (q : Addr) : Prop :=
  ∀ T : State, T.heap = H → Stand p l e R s m args below meth c T locs cells slots → ∃ t, Steps p.tables e below ((T.setTop g).pushFrame (.throwing q)) t ∧ Q t
/-- a static call that throws -/
theorem x_callS (S : CallFix p m c cc nL s args Ts own) (hM : xMet l y ws rm Pc xp mc ms) (cw : CallB R s args own index y bytes maxL ret ws rm mc ms n ∧ (Cond.static y).before args s = true) (hp : PreS s H Pc As)
    (hn : As.length = n) (hsize : ls.size = nL) (hst : st0 = As.reverse ++ rest) (hW : (rest.map fun v => v.category).sum ≤ 8) (hdg : decode cc pc = .ok (.invokestatic index, 3)) (hf : cells + mc ≤ R.cells ∧ slots + ms ≤ R.slots)
    (kk : ∀ (E : String) (q : Addr) (H1 : Heap) (ce : Cell), xp E → (∀ a : Nat, a < H.size → H1[a]? = H[a]?) → H1[q]? = some ce → ce.vm = .none → s.vm.findClass E = some ce.cls → xW p l e R s m args below meth c H1 locs (cells + mc) (slots + ms) Q (F0 m pc ls rest) q) : W p l e R s m args below meth c H locs cells slots Q (F0 m pc ls st0) := by
  obtain ⟨⟨hrc, hrs, hfr, hlo, hws, hcw, hcode, hini, hy, hlen, hl⟩, hstt⟩ := cw
  obtain ⟨hx, hb, hml, ho, -⟩ := S
  have hK := x_back (p := p) (e := e) (R := R) (s := s) (args := args) (below := below) (len := 3) (W9 := 8) (bytes := bytes) (maxL := maxL) (ret := ret) hM hp.1 hrc hrs hfr hlo hws hcw (fun a' U hW => word_at hW (Or.inl (by first | rfl | simp [Cond.onTables, Cond.keeps, Cond.steady])) hini)
  intro T hT X
  obtain ⟨mk, hnamed⟩ := Cond.code_named hcode
  obtain ⟨methM, cM, hmethM, -, -, -, -, -, -, hsigM⟩ := Cond.code_spec hnamed hcode
  obtain ⟨v, vm₁, ⟨U', l2, c2, s2⟩, hW₁, X', ⟨g', mk', t, E, e1, h1, h2, e2, e3, e4⟩, st⟩ := X.staticThrows hx ho hl hstt hini hnamed hmethM hsigM hy hK (g := F0 m pc ls st0) rfl (hsize.trans hml.symm) (Steps.refl _) (argsL := As) (rest := rest) (fun sig h => hn.trans (hlen sig h)) hst (lv_room (m := m) (pc := pc) (ls := ls) (rest := rest) hW) (by rw [hb]; exact hdg)
    (fun vm₁ hW₁ => ⟨hf.1, hf.2, hp.2 (T.setVm vm₁) hT hW₁⟩)
  dsimp only [Pt.U, Pt.locs, Pt.cells, Pt.slots] at X' e1 e2 e3 e4 st
  rw [List.append_nil] at e2
  subst e2; subst e3; subst e4
  obtain ⟨⟨ce, c1, c2, c3⟩, hold⟩ := h2
  have hcl : s.vm.findClass E = some ce.cls := by rw [← hW₁.alike.findClass]; exact c3
  obtain ⟨t2, a2, b2⟩ := kk E v U'.heap ce h1 (fun a ha => by rw [e1]; exact (hold a (by show a < T.heap.size; rw [hT]; exact ha)).trans (by show T.heap[a]? = _; rw [hT])) (by rw [e1]; exact c1) c2 hcl U' rfl X'
  exact ⟨t2, st.trans a2, b2⟩
/-- a call of an object's method that throws -/
theorem x_callV (S : CallFix p m c cc nL s args Ts own) (hM : xMet l y ws rm Pc xp mc ms) (cw : CallW R s args own C index y bytes maxL ret ws rm mc ms n) (hp : PreV s H C b Pc As)
    (hn : As.length = n) (hsize : ls.size = nL) (hst : st0 = As.reverse ++ .ref b :: rest) (hW : (rest.map fun v => v.category).sum ≤ 8) (hdg : decode cc pc = .ok (.invokevirtual index, 3)) (hf : cells + mc ≤ R.cells ∧ slots + ms ≤ R.slots)
    (kk : ∀ (E : String) (q : Addr) (H1 : Heap) (ce : Cell), xp E → (∀ a : Nat, a < H.size → H1[a]? = H[a]?) → H1[q]? = some ce → ce.vm = .none → s.vm.findClass E = some ce.cls → xW p l e R s m args below meth c H1 locs (cells + mc) (slots + ms) Q (F0 m pc ls rest) q) : W p l e R s m args below meth c H locs cells slots Q (F0 m pc ls st0) := by
  obtain ⟨⟨hrc, hrs, hfr, hlo, hws, hcw, hcode, hini, hy, hlen, hl⟩, hinst, hsel⟩ := cw
  obtain ⟨hx, hb, hml, ho, -⟩ := S
  obtain ⟨hbl, ⟨cellB, hcB, hoB, hclB⟩, hPc⟩ := hp
  have hK := x_back (p := p) (e := e) (R := R) (s := s) (args := args) (below := below) (len := 3) (W9 := 8) (bytes := bytes) (maxL := maxL) (ret := ret) hM hbl hrc hrs hfr hlo hws hcw (fun a' U hW => word_at hW (Or.inl (by first | rfl | simp [Cond.onTables, Cond.keeps, Cond.steady])) hini)
  intro T hT X
  obtain ⟨mk, methM, hnamed, hmethM, hstM, habM⟩ := Cond.instanceMethod_spec hinst
  obtain ⟨methM', cM, hmethM', -, -, -, -, -, -, hsigM⟩ := Cond.code_spec hnamed hcode
  have em : methM = methM' := Option.some.inj (hmethM.symm.trans hmethM')
  subst em
  obtain ⟨c2, r2, m2, q1, q2, q3, q4, kP, hkP, hkPi⟩ := Cond.selects_spec hsel
  cases hclB.symm.trans q1
  cases (State.methodFound?_of_named hnamed hy).symm.trans q2
  cases hnamed.symm.trans q3
  have hselP : selectMethod e.platform s.vm cellB.cls mk = .method mk := by rw [Launch.admits_selectMethod X.admits]; exact q4
  obtain ⟨vm₁, X₁, hstep₁⟩ := X.invokevirtual hx ho hl hnamed hmethM hstM hkP hkPi hy (a := b) (cell := cellB) (by rw [hT]; exact hcB) (fun z h => by rw [h] at hoB; cases hoB) hselP hmethM habM hkP hkPi (g := F0 m pc ls st0) rfl (argsL := As) (rest := rest) (hn.trans (hlen _ hsigM)) hst (by rw [hb]; exact hdg)
  obtain ⟨v, ⟨U', l2, c2', s2⟩, X', ⟨g', mk', t, E, e1, h1, h2, e2, e3, e4⟩, st⟩ := hK m meth c ⟨T.setVm vm₁, locs, cells, slots⟩ (F0 m pc ls rest) (.invokevirtual index) mk (Value.ref b :: As).toArray X₁ rfl (hsize.trans hml.symm) (by rw [hb]; exact hdg) (lv_room (m := m) (pc := pc) (ls := ls) (rest := rest) hW) (X₁.named hnamed) ⟨hf.1, hf.2, hPc (T.setVm vm₁) hT X₁.warmed⟩
  dsimp only [Pt.U, Pt.locs, Pt.cells, Pt.slots] at X' e1 e2 e3 e4 st
  rw [List.append_nil] at e2
  subst e2; subst e3; subst e4
  obtain ⟨⟨ce, c1, c2, c3⟩, hold⟩ := h2
  have hcl : s.vm.findClass E = some ce.cls := by rw [← X₁.warmed.alike.findClass]; exact c3
  obtain ⟨t2, a2, b2⟩ := kk E v U'.heap ce h1 (fun a ha => by rw [e1]; exact (hold a (by show a < T.heap.size; rw [hT]; exact ha)).trans (by show T.heap[a]? = _; rw [hT])) (by rw [e1]; exact c1) c2 hcl U' rfl X'
  exact ⟨t2, hstep₁ _ (fun acts => by rw [doInvoke_state]; exact st.trans a2), b2⟩
/-- not caught: it goes on to the caller -/
theorem x_out {E : String} {q : Addr} {ce : Cell} (hno : ∀ x ∈ c.exceptionTable.toList, False) (hlocks : meth.locks = false) (hxp : xp E) (hold : ∀ a : Nat, a < s.heap.size → H[a]? = s.heap[a]?) (hce : H[q]? = some ce) (hv : ce.vm = .none) (hcl : s.vm.findClass E = some ce.cls) :
    xW p l e R s m args below meth c H [] cells slots (XQ below xp s cells slots) (F0 m pc ls rest) q := by
  intro T hT X
  obtain ⟨st, hrun, hend, hW, hsame⟩ := X.leaveThrown q (g := F0 m pc ls rest) rfl rfl rfl (fun x hx => (hno x hx).elim) hlocks
  exact ⟨_, st, E, q, hrun, hend, hxp, ⟨⟨ce, by show T.heap[q]? = _; rw [hT]; exact hce, hv, hcl⟩, fun a ha => by show T.heap[a]? = _; rw [hT]; exact hold a ha⟩, ⟨_, rfl⟩, hW, hsame⟩
/-- caught by the row x of the method's own table, past rows that name other classes -/
theorem x_catch {E name : String} {q : Addr} {ce : Cell} (hown : s.vm.findClass own = some m.cls) (pre : List ExceptionTableEntry) (x : ExceptionTableEntry) (suf : List ExceptionTableEntry) (hsplit : c.exceptionTable.toList = pre ++ x :: suf)
    (hpass : ∀ z ∈ pre, z.catchType ≠ 0 ∧ ∃ nm : String, (Cond.classLink own z.catchType nm).before args s = true ∧ (Cond.not (.castable E nm)).before args s = true) (hx : covers x pc = true) (h0 : x.catchType ≠ 0)
    (hlink : (Cond.classLink own x.catchType name).before args s = true) (hcast : (Cond.castable E name).before args s = true) (hce : H[q]? = some ce) (hv : ce.vm = .none) (hcl : s.vm.findClass E = some ce.cls)
    (kk : W p l e R s m args below meth c H locs cells slots Q (F0 m x.handlerPc ls [.ref q])) : xW p l e R s m args below meth c H locs cells slots Q (F0 m pc ls rest) q := by
  intro T hT X
  have hpl : e.platform.magicAccessors = ({} : Platform).magicAccessors := by rw [X.admits.platform]
  obtain ⟨c3, c4, hc3, hc4, hasg⟩ := Cond.castable_spec hcast
  cases Option.some.inj (hc3.symm.trans hcl)
  obtain ⟨hend, hk0⟩ := X.catches_of_link hown h0 hlink hc4 hasg
  obtain ⟨vm', X', st⟩ := X.thenCaughtThrough q (g := F0 m pc ls rest) rfl (Steps.refl _) (by rw [hT]; exact hce) (by rw [hv]; rfl) hk0 pre x suf hsplit
    (fun z hz => by
      obtain ⟨z0, nm, hl1, hn1⟩ := hpass z hz
      exact RowPassed.of_words hpl hown z0 hl1 hcl hn1) hx hend
  obtain ⟨t, a1, b1⟩ := kk (T.setVm vm') hT X'
  exact ⟨t, st.trans a1, b1⟩
end XROWS
/-- the table of a body with handlers -/
theorem x_table {l : Launch} {p : Program} {y : MethodName} {S : Spec} {cc bytes : ByteArray} {maxL maxL' : Nat} {ret ret' : Option FieldType} {e : Env} {s s₁ : State} {m : MethodId} {args : Array Value} {below : List Frame} {meth : Method} {c : Code} {hh : List (Nat × Nat × Nat × Nat)}
    (B : BodyLoose p l y S cc maxL ret e s m args below meth c s₁) (h : (Cond.codeWith y bytes maxL' ret' hh).before args s = true) : c.exceptionTable.toList = tableOf hh := by
  obtain ⟨m9, meth9, c9, hn9, h1, h2, -, -, h6, -⟩ := Cond.codeWith_spec h
  have e0 : m9 = m := Option.some.inj (hn9.symm.trans B.named)
  subst e0
  have e1 : meth9 = meth := Option.some.inj (h1.symm.trans B.method)
  subst e1
  have e2 : c9 = c := Option.some.inj (h2.symm.trans (Stand.of_body B).code)
  subst e2
  rw [← h6, table_eq]
end
