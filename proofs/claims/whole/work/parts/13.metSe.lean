-- LineCodes$Sets.isFigure(I)Z
def w_Se_isFigure (post : Int32 → Prop) (x0 : Int32) : Prop := (x0 < 48 → post 0) ∧ (¬ x0 < 48 → (57 < x0 → post 0) ∧ (¬ 57 < x0 → post 1))
abbrev rm_Se_isFigure : Room := { frames := 0, cells := 0, slots := 0, locals := 0 }
set_option maxHeartbeats 4000000 in
set_option maxRecDepth 100000 in
theorem met_Se_isFigure (l : Launch) (D : va_G) (Z : (Nat → Prop) → State → Heap → Prop) (hz : zk Z) (ad : Nat → Nat) (hk : zs Z ad) (x0 : Int32) {post : Int32 → Prop} (hw : w_Se_isFigure post x0) : Met l y_Se_isFigure ws_Se_isFigure rm_Se_isFigure (va_Pc [.int x0] (ro_ D vwCl [] [] (Z))) (vp_Si post) 0 0 (fun _ => False) := by
  refine Met.ofW (cc := c_Se_isFigure) (maxL := 1) (ret := (some .boolean)) (by decide) rfl ?_
  intro p e s m args below meth c s₁ B hml hv
  obtain ⟨rfl, hP, hK, hZ⟩ := hv
  have hx := B.exec
  have hb := B.bytes
  have hr := B.returns
  have hts0 := atoms_spec (ws := ws_Se_isFigure) B.pre
  have hts := fun (w : Cond) (h : w ∈ tb) => hts0 w (List.mem_cons_of_mem _ h)
  have hown : s.vm.findClass R_Se = some m.cls := findClass_of_methodNamed B.named
  have hlocks := B.notSynchronized
  have hS : va_S (fun _ => False) s.heap s.heap [] := va_S.rf
  have hl := lv_entry ([.int x0]) (n := 1) (Nat.le_of_ble_eq_true rfl)
  rw [lg_entry_eq]
  generalize (lg_sl ([.int x0]) ++ List.replicate (1 - (lg_sl ([.int x0])).length) Slot.unset).toArray = ls at hl ⊢
  have hl : lv_has ls 1 [(0, .int x0)] := hl
  unfold w_Se_isFigure at hw
  refine lv_iload_n hx hb d_Se_isFigure_0 rfl (lv_at hl 0 rfl) ?_
  refine lv_bipush (v := 48) hx hb d_Se_isFigure_1 (by decide) ?_
  refine lv_icmp_lt (tgt := 16) hx hb d_Se_isFigure_3 (by decide) (fun c1 => ?_) (fun c1 => ?_)
  · have hw := hw.1 c1
    refine lv_iconst (v := 0) hx hb d_Se_isFigure_16 (by decide) ?_
    exact W.zret (v := 0) (ty := .boolean) hx hb hr rfl (fun t ht hW => ⟨0, rfl, hw, ht⟩) hS.2.2 d_Se_isFigure_17
  · have hw := hw.2 c1
    refine lv_iload_n hx hb d_Se_isFigure_6 rfl (lv_at hl 0 rfl) ?_
    refine lv_bipush (v := 57) hx hb d_Se_isFigure_7 (by decide) ?_
    refine lv_icmp_gt (tgt := 16) hx hb d_Se_isFigure_9 (by decide) (fun c2 => ?_) (fun c2 => ?_)
    · have hw := hw.1 c2
      refine lv_iconst (v := 0) hx hb d_Se_isFigure_16 (by decide) ?_
      exact W.zret (v := 0) (ty := .boolean) hx hb hr rfl (fun t ht hW => ⟨0, rfl, hw, ht⟩) hS.2.2 d_Se_isFigure_17
    · have hw := hw.2 c2
      refine lv_iconst (v := 1) hx hb d_Se_isFigure_12 (by decide) ?_
      refine lv_goto (tgt := 17) hx hb d_Se_isFigure_13 (by decide) ?_
      exact W.zret (v := 1) (ty := .boolean) hx hb hr rfl (fun t ht hW => ⟨1, rfl, hw, ht⟩) hS.2.2 d_Se_isFigure_17
-- LineCodes$Sets.pairOf(II)I
def w_Se_pairOf (post : Int32 → Prop) (x0 : Int32) (x1 : Int32) : Prop := w_Se_isFigure (fun r1 => (r1 = 0 → post (-1)) ∧ (¬ r1 = 0 → w_Se_isFigure (fun r3 => (r3 = 0 → post (-1)) ∧ (¬ r3 = 0 → post (((10 * (x0 - 48)) + x1) - 48))) x1)) x0
abbrev rm_Se_pairOf : Room := { frames := 1, cells := 0, slots := 0, locals := 20 }
set_option maxHeartbeats 4000000 in
set_option maxRecDepth 100000 in
theorem met_Se_pairOf (l : Launch) (D : va_G) (Z : (Nat → Prop) → State → Heap → Prop) (hz : zk Z) (ad : Nat → Nat) (hk : zs Z ad) (x0 : Int32) (x1 : Int32) {post : Int32 → Prop} (hw : w_Se_pairOf post x0 x1) : Met l y_Se_pairOf ws_Se_pairOf rm_Se_pairOf (va_Pc [.int x0, .int x1] (ro_ D vwCl [] [] (Z))) (vp_Si post) 0 0 (fun _ => False) := by
  refine Met.ofW (cc := c_Se_pairOf) (maxL := 2) (ret := (some .int)) (by decide) rfl ?_
  intro p e s m args below meth c s₁ B hml hv
  obtain ⟨rfl, hP, hK, hZ⟩ := hv
  have hx := B.exec
  have hb := B.bytes
  have hr := B.returns
  have hts0 := atoms_spec (ws := ws_Se_pairOf) B.pre
  have hts := fun (w : Cond) (h : w ∈ tb) => hts0 w (List.mem_cons_of_mem _ h)
  have hown : s.vm.findClass R_Se = some m.cls := findClass_of_methodNamed B.named
  have hlocks := B.notSynchronized
  have hS : va_S (fun _ => False) s.heap s.heap [] := va_S.rf
  have hl := lv_entry ([.int x0, .int x1]) (n := 2) (Nat.le_of_ble_eq_true rfl)
  rw [lg_entry_eq]
  generalize (lg_sl ([.int x0, .int x1]) ++ List.replicate (2 - (lg_sl ([.int x0, .int x1])).length) Slot.unset).toArray = ls at hl ⊢
  have hl : lv_has ls 2 [(0, .int x0), (1, .int x1)] := hl
  unfold w_Se_pairOf at hw
  refine lv_iload_n hx hb d_Se_pairOf_0 rfl (lv_at hl 0 rfl) ?_
  refine k_roSi (As := [.int x0]) (rest := []) hz [] [] ⟨hx, hb, hml, hown, hts⟩ (met_Se_isFigure l D Z hz ad hk x0 hw) (va_cwS 1 hts (g_S mm_177 mm_178 mm_51 mm_179) rfl rfl rfl hd_Se_isFigure.2 ⟨Nat.le_of_ble_eq_true rfl, Nat.le_of_ble_eq_true rfl⟩) hP hK hZ hS rfl rfl rfl hl.1 rfl (Nat.le_of_ble_eq_true rfl) d_Se_pairOf_1 ⟨Nat.le_of_ble_eq_true rfl, Nat.le_of_ble_eq_true rfl⟩ (fun r1 hw => ?_)
  refine lv_if_eq (tgt := 29) hx hb d_Se_pairOf_4 (by decide) (fun c2 => ?_) (fun c2 => ?_)
  · have hw := hw.1 c2
    refine lv_iconst (v := (-1)) hx hb d_Se_pairOf_29 (by decide) ?_
    exact W.iret (v := (-1)) hx hb hr (fun t ht hW => ⟨(-1), rfl, hw, ht⟩) hS.2.2 d_Se_pairOf_30
  · have hw := hw.2 c2
    refine lv_iload_n hx hb d_Se_pairOf_7 rfl (lv_at hl 1 rfl) ?_
    refine k_roSi (As := [.int x1]) (rest := []) hz [] [] ⟨hx, hb, hml, hown, hts⟩ (met_Se_isFigure l D Z hz ad hk x1 hw) (va_cwS 1 hts (g_S mm_177 mm_178 mm_51 mm_179) rfl rfl rfl hd_Se_isFigure.2 ⟨Nat.le_of_ble_eq_true rfl, Nat.le_of_ble_eq_true rfl⟩) hP hK hZ hS rfl rfl rfl hl.1 rfl (Nat.le_of_ble_eq_true rfl) d_Se_pairOf_8 ⟨Nat.le_of_ble_eq_true rfl, Nat.le_of_ble_eq_true rfl⟩ (fun r3 hw => ?_)
    refine lv_if_eq (tgt := 29) hx hb d_Se_pairOf_11 (by decide) (fun c4 => ?_) (fun c4 => ?_)
    · have hw := hw.1 c4
      refine lv_iconst (v := (-1)) hx hb d_Se_pairOf_29 (by decide) ?_
      exact W.iret (v := (-1)) hx hb hr (fun t ht hW => ⟨(-1), rfl, hw, ht⟩) hS.2.2 d_Se_pairOf_30
    · have hw := hw.2 c4
      refine lv_bipush (v := 10) hx hb d_Se_pairOf_14 (by decide) ?_
      refine lv_iload_n hx hb d_Se_pairOf_16 rfl (lv_at hl 0 rfl) ?_
      refine lv_bipush (v := 48) hx hb d_Se_pairOf_17 (by decide) ?_
      refine lv_isub hx hb d_Se_pairOf_19 ?_
      refine lv_imul hx hb d_Se_pairOf_20 ?_
      refine lv_iload_n hx hb d_Se_pairOf_21 rfl (lv_at hl 1 rfl) ?_
      refine lv_iadd hx hb d_Se_pairOf_22 ?_
      refine lv_bipush (v := 48) hx hb d_Se_pairOf_23 (by decide) ?_
      refine lv_isub hx hb d_Se_pairOf_25 ?_
      refine lv_goto (tgt := 30) hx hb d_Se_pairOf_26 (by decide) ?_
      exact W.iret (v := (((10 * (x0 - 48)) + x1) - 48)) hx hb hr (fun t ht hW => ⟨(((10 * (x0 - 48)) + x1) - 48), rfl, hw, ht⟩) hS.2.2 d_Se_pairOf_30
-- LineCodes$Sets.symbolOf(II)I
def w_Se_symbolOf (post : Int32 → Prop) (x0 : Int32) (x1 : Int32) : Prop := (x1 < 0 → post (-1)) ∧ (¬ x1 < 0 → (x1 < 128 → (x1 < 32 → (¬ x0 = 0 → post (-1)) ∧ (x0 = 0 → post (x1 + 64))) ∧ (¬ x1 < 32 → (x0 = 1 → post (x1 - 32)) ∧ (¬ x0 = 1 → (95 < x1 → post (-1)) ∧ (¬ 95 < x1 → post (x1 - 32))))) ∧ (¬ x1 < 128 → post (-1)))
abbrev rm_Se_symbolOf : Room := { frames := 0, cells := 0, slots := 0, locals := 0 }
set_option maxHeartbeats 4000000 in
set_option maxRecDepth 100000 in
theorem met_Se_symbolOf (l : Launch) (D : va_G) (Z : (Nat → Prop) → State → Heap → Prop) (hz : zk Z) (ad : Nat → Nat) (hk : zs Z ad) (x0 : Int32) (x1 : Int32) {post : Int32 → Prop} (hw : w_Se_symbolOf post x0 x1) : Met l y_Se_symbolOf ws_Se_symbolOf rm_Se_symbolOf (va_Pc [.int x0, .int x1] (ro_ D vwCl [] [] (Z))) (vp_Si post) 0 0 (fun _ => False) := by
  refine Met.ofW (cc := c_Se_symbolOf) (maxL := 2) (ret := (some .int)) (by decide) rfl ?_
  intro p e s m args below meth c s₁ B hml hv
  obtain ⟨rfl, hP, hK, hZ⟩ := hv
  have hx := B.exec
  have hb := B.bytes
  have hr := B.returns
  have hts0 := atoms_spec (ws := ws_Se_symbolOf) B.pre
  have hts := fun (w : Cond) (h : w ∈ tb) => hts0 w (List.mem_cons_of_mem _ h)
  have hown : s.vm.findClass R_Se = some m.cls := findClass_of_methodNamed B.named
  have hlocks := B.notSynchronized
  have hS : va_S (fun _ => False) s.heap s.heap [] := va_S.rf
  have hl := lv_entry ([.int x0, .int x1]) (n := 2) (Nat.le_of_ble_eq_true rfl)
  rw [lg_entry_eq]
  generalize (lg_sl ([.int x0, .int x1]) ++ List.replicate (2 - (lg_sl ([.int x0, .int x1])).length) Slot.unset).toArray = ls at hl ⊢
  have hl : lv_has ls 2 [(0, .int x0), (1, .int x1)] := hl
  unfold w_Se_symbolOf at hw
  refine lv_iload_n hx hb d_Se_symbolOf_0 rfl (lv_at hl 1 rfl) ?_
  refine lv_if_lt (tgt := 11) hx hb d_Se_symbolOf_1 (by decide) (fun c1 => ?_) (fun c1 => ?_)
  · have hw := hw.1 c1
    refine lv_iconst (v := (-1)) hx hb d_Se_symbolOf_11 (by decide) ?_
    exact W.iret (v := (-1)) hx hb hr (fun t ht hW => ⟨(-1), rfl, hw, ht⟩) hS.2.2 d_Se_symbolOf_12
  · have hw := hw.2 c1
    refine lv_iload_n hx hb d_Se_symbolOf_4 rfl (lv_at hl 1 rfl) ?_
    refine lv_sipush (v := 128) hx hb d_Se_symbolOf_5 (by decide) ?_
    refine lv_icmp_lt (tgt := 13) hx hb d_Se_symbolOf_8 (by decide) (fun c2 => ?_) (fun c2 => ?_)
    · have hw := hw.1 c2
      refine lv_iload_n hx hb d_Se_symbolOf_13 rfl (lv_at hl 1 rfl) ?_
      refine lv_bipush (v := 32) hx hb d_Se_symbolOf_14 (by decide) ?_
      refine lv_icmp_lt (tgt := 39) hx hb d_Se_symbolOf_16 (by decide) (fun c3 => ?_) (fun c3 => ?_)
      · have hw := hw.1 c3
        refine lv_iload_n hx hb d_Se_symbolOf_39 rfl (lv_at hl 0 rfl) ?_
        refine lv_if_ne (tgt := 50) hx hb d_Se_symbolOf_40 (by decide) (fun c4 => ?_) (fun c4 => ?_)
        · have hw := hw.1 c4
          refine lv_iconst (v := (-1)) hx hb d_Se_symbolOf_50 (by decide) ?_
          exact W.iret (v := (-1)) hx hb hr (fun t ht hW => ⟨(-1), rfl, hw, ht⟩) hS.2.2 d_Se_symbolOf_51
        · have hw := hw.2 c4
          refine lv_iload_n hx hb d_Se_symbolOf_43 rfl (lv_at hl 1 rfl) ?_
          refine lv_bipush (v := 64) hx hb d_Se_symbolOf_44 (by decide) ?_
          refine lv_iadd hx hb d_Se_symbolOf_46 ?_
          refine lv_goto (tgt := 51) hx hb d_Se_symbolOf_47 (by decide) ?_
          exact W.iret (v := (x1 + 64)) hx hb hr (fun t ht hW => ⟨(x1 + 64), rfl, hw, ht⟩) hS.2.2 d_Se_symbolOf_51
      · have hw := hw.2 c3
        refine lv_iload_n hx hb d_Se_symbolOf_19 rfl (lv_at hl 0 rfl) ?_
        refine lv_iconst (v := 1) hx hb d_Se_symbolOf_20 (by decide) ?_
        refine lv_icmp_eq (tgt := 30) hx hb d_Se_symbolOf_21 (by decide) (fun c5 => ?_) (fun c5 => ?_)
        · have hw := hw.1 c5
          refine lv_iload_n hx hb d_Se_symbolOf_30 rfl (lv_at hl 1 rfl) ?_
          refine lv_bipush (v := 32) hx hb d_Se_symbolOf_31 (by decide) ?_
          refine lv_isub hx hb d_Se_symbolOf_33 ?_
          refine lv_goto (tgt := 38) hx hb d_Se_symbolOf_34 (by decide) ?_
          exact W.iret (v := (x1 - 32)) hx hb hr (fun t ht hW => ⟨(x1 - 32), rfl, hw, ht⟩) hS.2.2 d_Se_symbolOf_38
        · have hw := hw.2 c5
          refine lv_iload_n hx hb d_Se_symbolOf_24 rfl (lv_at hl 1 rfl) ?_
          refine lv_bipush (v := 95) hx hb d_Se_symbolOf_25 (by decide) ?_
          refine lv_icmp_gt (tgt := 37) hx hb d_Se_symbolOf_27 (by decide) (fun c6 => ?_) (fun c6 => ?_)
          · have hw := hw.1 c6
            refine lv_iconst (v := (-1)) hx hb d_Se_symbolOf_37 (by decide) ?_
            exact W.iret (v := (-1)) hx hb hr (fun t ht hW => ⟨(-1), rfl, hw, ht⟩) hS.2.2 d_Se_symbolOf_38
          · have hw := hw.2 c6
            refine lv_iload_n hx hb d_Se_symbolOf_30 rfl (lv_at hl 1 rfl) ?_
            refine lv_bipush (v := 32) hx hb d_Se_symbolOf_31 (by decide) ?_
            refine lv_isub hx hb d_Se_symbolOf_33 ?_
            refine lv_goto (tgt := 38) hx hb d_Se_symbolOf_34 (by decide) ?_
            exact W.iret (v := (x1 - 32)) hx hb hr (fun t ht hW => ⟨(x1 - 32), rfl, hw, ht⟩) hS.2.2 d_Se_symbolOf_38
    · have hw := hw.2 c2
      refine lv_iconst (v := (-1)) hx hb d_Se_symbolOf_11 (by decide) ?_
      exact W.iret (v := (-1)) hx hb hr (fun t ht hW => ⟨(-1), rfl, hw, ht⟩) hS.2.2 d_Se_symbolOf_12
-- LineCodes$Sets.firstOf(I)I
def w_Se_firstOf (post : Int32 → Prop) (x0 : Int32) : Prop := post (103 + x0)
abbrev rm_Se_firstOf : Room := { frames := 0, cells := 0, slots := 0, locals := 0 }
set_option maxHeartbeats 4000000 in
set_option maxRecDepth 100000 in
theorem met_Se_firstOf (l : Launch) (D : va_G) (Z : (Nat → Prop) → State → Heap → Prop) (hz : zk Z) (ad : Nat → Nat) (hk : zs Z ad) (x0 : Int32) {post : Int32 → Prop} (hw : w_Se_firstOf post x0) : Met l y_Se_firstOf ws_Se_firstOf rm_Se_firstOf (va_Pc [.int x0] (ro_ D vwCl [] [] (Z))) (vp_Si post) 0 0 (fun _ => False) := by
  refine Met.ofW (cc := c_Se_firstOf) (maxL := 1) (ret := (some .int)) (by decide) rfl ?_
  intro p e s m args below meth c s₁ B hml hv
  obtain ⟨rfl, hP, hK, hZ⟩ := hv
  have hx := B.exec
  have hb := B.bytes
  have hr := B.returns
  have hts0 := atoms_spec (ws := ws_Se_firstOf) B.pre
  have hts := fun (w : Cond) (h : w ∈ tb) => hts0 w (List.mem_cons_of_mem _ h)
  have hown : s.vm.findClass R_Se = some m.cls := findClass_of_methodNamed B.named
  have hlocks := B.notSynchronized
  have hS : va_S (fun _ => False) s.heap s.heap [] := va_S.rf
  have hl := lv_entry ([.int x0]) (n := 1) (Nat.le_of_ble_eq_true rfl)
  rw [lg_entry_eq]
  generalize (lg_sl ([.int x0]) ++ List.replicate (1 - (lg_sl ([.int x0])).length) Slot.unset).toArray = ls at hl ⊢
  have hl : lv_has ls 1 [(0, .int x0)] := hl
  unfold w_Se_firstOf at hw
  refine lv_bipush (v := 103) hx hb d_Se_firstOf_0 (by decide) ?_
  refine lv_iload_n hx hb d_Se_firstOf_2 rfl (lv_at hl 0 rfl) ?_
  refine lv_iadd hx hb d_Se_firstOf_3 ?_
  exact W.iret (v := (103 + x0)) hx hb hr (fun t ht hW => ⟨(103 + x0), rfl, hw, ht⟩) hS.2.2 d_Se_firstOf_4
-- LineCodes$Sets.otherOfAB(I)I
def w_Se_otherOfAB (post : Int32 → Prop) (x0 : Int32) : Prop := (¬ x0 = 0 → post 0) ∧ (x0 = 0 → post 1)
abbrev rm_Se_otherOfAB : Room := { frames := 0, cells := 0, slots := 0, locals := 0 }
set_option maxHeartbeats 4000000 in
set_option maxRecDepth 100000 in
theorem met_Se_otherOfAB (l : Launch) (D : va_G) (Z : (Nat → Prop) → State → Heap → Prop) (hz : zk Z) (ad : Nat → Nat) (hk : zs Z ad) (x0 : Int32) {post : Int32 → Prop} (hw : w_Se_otherOfAB post x0) : Met l y_Se_otherOfAB ws_Se_otherOfAB rm_Se_otherOfAB (va_Pc [.int x0] (ro_ D vwCl [] [] (Z))) (vp_Si post) 0 0 (fun _ => False) := by
  refine Met.ofW (cc := c_Se_otherOfAB) (maxL := 1) (ret := (some .int)) (by decide) rfl ?_
  intro p e s m args below meth c s₁ B hml hv
  obtain ⟨rfl, hP, hK, hZ⟩ := hv
  have hx := B.exec
  have hb := B.bytes
  have hr := B.returns
  have hts0 := atoms_spec (ws := ws_Se_otherOfAB) B.pre
  have hts := fun (w : Cond) (h : w ∈ tb) => hts0 w (List.mem_cons_of_mem _ h)
  have hown : s.vm.findClass R_Se = some m.cls := findClass_of_methodNamed B.named
  have hlocks := B.notSynchronized
  have hS : va_S (fun _ => False) s.heap s.heap [] := va_S.rf
  have hl := lv_entry ([.int x0]) (n := 1) (Nat.le_of_ble_eq_true rfl)
  rw [lg_entry_eq]
  generalize (lg_sl ([.int x0]) ++ List.replicate (1 - (lg_sl ([.int x0])).length) Slot.unset).toArray = ls at hl ⊢
  have hl : lv_has ls 1 [(0, .int x0)] := hl
  unfold w_Se_otherOfAB at hw
  refine lv_iload_n hx hb d_Se_otherOfAB_0 rfl (lv_at hl 0 rfl) ?_
  refine lv_if_ne (tgt := 8) hx hb d_Se_otherOfAB_1 (by decide) (fun c1 => ?_) (fun c1 => ?_)
  · have hw := hw.1 c1
    refine lv_iconst (v := 0) hx hb d_Se_otherOfAB_8 (by decide) ?_
    exact W.iret (v := 0) hx hb hr (fun t ht hW => ⟨0, rfl, hw, ht⟩) hS.2.2 d_Se_otherOfAB_9
  · have hw := hw.2 c1
    refine lv_iconst (v := 1) hx hb d_Se_otherOfAB_4 (by decide) ?_
    refine lv_goto (tgt := 9) hx hb d_Se_otherOfAB_5 (by decide) ?_
    exact W.iret (v := 1) hx hb hr (fun t ht hW => ⟨1, rfl, hw, ht⟩) hS.2.2 d_Se_otherOfAB_9
-- LineCodes$Sets.switchTo(I)I
def w_Se_switchTo (post : Int32 → Prop) (x0 : Int32) : Prop := post (101 - x0)
abbrev rm_Se_switchTo : Room := { frames := 0, cells := 0, slots := 0, locals := 0 }
set_option maxHeartbeats 4000000 in
set_option maxRecDepth 100000 in
theorem met_Se_switchTo (l : Launch) (D : va_G) (Z : (Nat → Prop) → State → Heap → Prop) (hz : zk Z) (ad : Nat → Nat) (hk : zs Z ad) (x0 : Int32) {post : Int32 → Prop} (hw : w_Se_switchTo post x0) : Met l y_Se_switchTo ws_Se_switchTo rm_Se_switchTo (va_Pc [.int x0] (ro_ D vwCl [] [] (Z))) (vp_Si post) 0 0 (fun _ => False) := by
  refine Met.ofW (cc := c_Se_switchTo) (maxL := 1) (ret := (some .int)) (by decide) rfl ?_
  intro p e s m args below meth c s₁ B hml hv
  obtain ⟨rfl, hP, hK, hZ⟩ := hv
  have hx := B.exec
  have hb := B.bytes
  have hr := B.returns
  have hts0 := atoms_spec (ws := ws_Se_switchTo) B.pre
  have hts := fun (w : Cond) (h : w ∈ tb) => hts0 w (List.mem_cons_of_mem _ h)
  have hown : s.vm.findClass R_Se = some m.cls := findClass_of_methodNamed B.named
  have hlocks := B.notSynchronized
  have hS : va_S (fun _ => False) s.heap s.heap [] := va_S.rf
  have hl := lv_entry ([.int x0]) (n := 1) (Nat.le_of_ble_eq_true rfl)
  rw [lg_entry_eq]
  generalize (lg_sl ([.int x0]) ++ List.replicate (1 - (lg_sl ([.int x0])).length) Slot.unset).toArray = ls at hl ⊢
  have hl : lv_has ls 1 [(0, .int x0)] := hl
  unfold w_Se_switchTo at hw
  refine lv_bipush (v := 101) hx hb d_Se_switchTo_0 (by decide) ?_
  refine lv_iload_n hx hb d_Se_switchTo_2 rfl (lv_at hl 0 rfl) ?_
  refine lv_isub hx hb d_Se_switchTo_3 ?_
  exact W.iret (v := (101 - x0)) hx hb hr (fun t ht hW => ⟨(101 - x0), rfl, hw, ht⟩) hS.2.2 d_Se_switchTo_4
-- LineCodes$Sets.isFirst(I)Z
def w_Se_isFirst (post : Int32 → Prop) (x0 : Int32) : Prop := (x0 < 103 → post 0) ∧ (¬ x0 < 103 → (106 ≤ x0 → post 0) ∧ (¬ 106 ≤ x0 → post 1))
abbrev rm_Se_isFirst : Room := { frames := 0, cells := 0, slots := 0, locals := 0 }
set_option maxHeartbeats 4000000 in
set_option maxRecDepth 100000 in
theorem met_Se_isFirst (l : Launch) (D : va_G) (Z : (Nat → Prop) → State → Heap → Prop) (hz : zk Z) (ad : Nat → Nat) (hk : zs Z ad) (x0 : Int32) {post : Int32 → Prop} (hw : w_Se_isFirst post x0) : Met l y_Se_isFirst ws_Se_isFirst rm_Se_isFirst (va_Pc [.int x0] (ro_ D vwCl [] [] (Z))) (vp_Si post) 0 0 (fun _ => False) := by
  refine Met.ofW (cc := c_Se_isFirst) (maxL := 1) (ret := (some .boolean)) (by decide) rfl ?_
  intro p e s m args below meth c s₁ B hml hv
  obtain ⟨rfl, hP, hK, hZ⟩ := hv
  have hx := B.exec
  have hb := B.bytes
  have hr := B.returns
  have hts0 := atoms_spec (ws := ws_Se_isFirst) B.pre
  have hts := fun (w : Cond) (h : w ∈ tb) => hts0 w (List.mem_cons_of_mem _ h)
  have hown : s.vm.findClass R_Se = some m.cls := findClass_of_methodNamed B.named
  have hlocks := B.notSynchronized
  have hS : va_S (fun _ => False) s.heap s.heap [] := va_S.rf
  have hl := lv_entry ([.int x0]) (n := 1) (Nat.le_of_ble_eq_true rfl)
  rw [lg_entry_eq]
  generalize (lg_sl ([.int x0]) ++ List.replicate (1 - (lg_sl ([.int x0])).length) Slot.unset).toArray = ls at hl ⊢
  have hl : lv_has ls 1 [(0, .int x0)] := hl
  unfold w_Se_isFirst at hw
  refine lv_iload_n hx hb d_Se_isFirst_0 rfl (lv_at hl 0 rfl) ?_
  refine lv_bipush (v := 103) hx hb d_Se_isFirst_1 (by decide) ?_
  refine lv_icmp_lt (tgt := 16) hx hb d_Se_isFirst_3 (by decide) (fun c1 => ?_) (fun c1 => ?_)
  · have hw := hw.1 c1
    refine lv_iconst (v := 0) hx hb d_Se_isFirst_16 (by decide) ?_
    exact W.zret (v := 0) (ty := .boolean) hx hb hr rfl (fun t ht hW => ⟨0, rfl, hw, ht⟩) hS.2.2 d_Se_isFirst_17
  · have hw := hw.2 c1
    refine lv_iload_n hx hb d_Se_isFirst_6 rfl (lv_at hl 0 rfl) ?_
    refine lv_bipush (v := 106) hx hb d_Se_isFirst_7 (by decide) ?_
    refine lv_icmp_ge (tgt := 16) hx hb d_Se_isFirst_9 (by decide) (fun c2 => ?_) (fun c2 => ?_)
    · have hw := hw.1 c2
      refine lv_iconst (v := 0) hx hb d_Se_isFirst_16 (by decide) ?_
      exact W.zret (v := 0) (ty := .boolean) hx hb hr rfl (fun t ht hW => ⟨0, rfl, hw, ht⟩) hS.2.2 d_Se_isFirst_17
    · have hw := hw.2 c2
      refine lv_iconst (v := 1) hx hb d_Se_isFirst_12 (by decide) ?_
      refine lv_goto (tgt := 17) hx hb d_Se_isFirst_13 (by decide) ?_
      exact W.zret (v := 1) (ty := .boolean) hx hb hr rfl (fun t ht hW => ⟨1, rfl, hw, ht⟩) hS.2.2 d_Se_isFirst_17
-- LineCodes$Sets.signOf(II)I
def w_Se_signOf (post : Int32 → Prop) (x0 : Int32) (x1 : Int32) : Prop := (¬ x0 = 0 → post (x1 + 32)) ∧ (x0 = 0 → (x1 ≤ 63 → post (x1 + 32)) ∧ (¬ x1 ≤ 63 → post (x1 - 64)))
abbrev rm_Se_signOf : Room := { frames := 0, cells := 0, slots := 0, locals := 0 }
set_option maxHeartbeats 4000000 in
set_option maxRecDepth 100000 in
theorem met_Se_signOf (l : Launch) (D : va_G) (Z : (Nat → Prop) → State → Heap → Prop) (hz : zk Z) (ad : Nat → Nat) (hk : zs Z ad) (x0 : Int32) (x1 : Int32) {post : Int32 → Prop} (hw : w_Se_signOf post x0 x1) : Met l y_Se_signOf ws_Se_signOf rm_Se_signOf (va_Pc [.int x0, .int x1] (ro_ D vwCl [] [] (Z))) (vp_Si post) 0 0 (fun _ => False) := by
  refine Met.ofW (cc := c_Se_signOf) (maxL := 2) (ret := (some .int)) (by decide) rfl ?_
  intro p e s m args below meth c s₁ B hml hv
  obtain ⟨rfl, hP, hK, hZ⟩ := hv
  have hx := B.exec
  have hb := B.bytes
  have hr := B.returns
  have hts0 := atoms_spec (ws := ws_Se_signOf) B.pre
  have hts := fun (w : Cond) (h : w ∈ tb) => hts0 w (List.mem_cons_of_mem _ h)
  have hown : s.vm.findClass R_Se = some m.cls := findClass_of_methodNamed B.named
  have hlocks := B.notSynchronized
  have hS : va_S (fun _ => False) s.heap s.heap [] := va_S.rf
  have hl := lv_entry ([.int x0, .int x1]) (n := 2) (Nat.le_of_ble_eq_true rfl)
  rw [lg_entry_eq]
  generalize (lg_sl ([.int x0, .int x1]) ++ List.replicate (2 - (lg_sl ([.int x0, .int x1])).length) Slot.unset).toArray = ls at hl ⊢
  have hl : lv_has ls 2 [(0, .int x0), (1, .int x1)] := hl
  unfold w_Se_signOf at hw
  refine lv_iload_n hx hb d_Se_signOf_0 rfl (lv_at hl 0 rfl) ?_
  refine lv_if_ne (tgt := 17) hx hb d_Se_signOf_1 (by decide) (fun c1 => ?_) (fun c1 => ?_)
  · have hw := hw.1 c1
    refine lv_iload_n hx hb d_Se_signOf_17 rfl (lv_at hl 1 rfl) ?_
    refine lv_bipush (v := 32) hx hb d_Se_signOf_18 (by decide) ?_
    refine lv_iadd hx hb d_Se_signOf_20 ?_
    exact W.iret (v := (x1 + 32)) hx hb hr (fun t ht hW => ⟨(x1 + 32), rfl, hw, ht⟩) hS.2.2 d_Se_signOf_21
  · have hw := hw.2 c1
    refine lv_iload_n hx hb d_Se_signOf_4 rfl (lv_at hl 1 rfl) ?_
    refine lv_bipush (v := 63) hx hb d_Se_signOf_5 (by decide) ?_
    refine lv_icmp_le (tgt := 17) hx hb d_Se_signOf_7 (by decide) (fun c2 => ?_) (fun c2 => ?_)
    · have hw := hw.1 c2
      refine lv_iload_n hx hb d_Se_signOf_17 rfl (lv_at hl 1 rfl) ?_
      refine lv_bipush (v := 32) hx hb d_Se_signOf_18 (by decide) ?_
      refine lv_iadd hx hb d_Se_signOf_20 ?_
      exact W.iret (v := (x1 + 32)) hx hb hr (fun t ht hW => ⟨(x1 + 32), rfl, hw, ht⟩) hS.2.2 d_Se_signOf_21
    · have hw := hw.2 c2
      refine lv_iload_n hx hb d_Se_signOf_10 rfl (lv_at hl 1 rfl) ?_
      refine lv_bipush (v := 64) hx hb d_Se_signOf_11 (by decide) ?_
      refine lv_isub hx hb d_Se_signOf_13 ?_
      refine lv_goto (tgt := 21) hx hb d_Se_signOf_14 (by decide) ?_
      exact W.iret (v := (x1 - 64)) hx hb hr (fun t ht hW => ⟨(x1 - 64), rfl, hw, ht⟩) hS.2.2 d_Se_signOf_21
-- LineCodes$Sets.setAfter(II)I
def w_Se_setAfter (post : Int32 → Prop) (x0 : Int32) (x1 : Int32) : Prop := ((101 - x1) < 0 → post (-1)) ∧ (¬ (101 - x1) < 0 → (3 ≤ (101 - x1) → post (-1)) ∧ (¬ 3 ≤ (101 - x1) → ((101 - x1) = x0 → post (-1)) ∧ (¬ (101 - x1) = x0 → post (101 - x1))))
abbrev rm_Se_setAfter : Room := { frames := 0, cells := 0, slots := 0, locals := 0 }
set_option maxHeartbeats 4000000 in
set_option maxRecDepth 100000 in
theorem met_Se_setAfter (l : Launch) (D : va_G) (Z : (Nat → Prop) → State → Heap → Prop) (hz : zk Z) (ad : Nat → Nat) (hk : zs Z ad) (x0 : Int32) (x1 : Int32) {post : Int32 → Prop} (hw : w_Se_setAfter post x0 x1) : Met l y_Se_setAfter ws_Se_setAfter rm_Se_setAfter (va_Pc [.int x0, .int x1] (ro_ D vwCl [] [] (Z))) (vp_Si post) 0 0 (fun _ => False) := by
  refine Met.ofW (cc := c_Se_setAfter) (maxL := 3) (ret := (some .int)) (by decide) rfl ?_
  intro p e s m args below meth c s₁ B hml hv
  obtain ⟨rfl, hP, hK, hZ⟩ := hv
  have hx := B.exec
  have hb := B.bytes
  have hr := B.returns
  have hts0 := atoms_spec (ws := ws_Se_setAfter) B.pre
  have hts := fun (w : Cond) (h : w ∈ tb) => hts0 w (List.mem_cons_of_mem _ h)
  have hown : s.vm.findClass R_Se = some m.cls := findClass_of_methodNamed B.named
  have hlocks := B.notSynchronized
  have hS : va_S (fun _ => False) s.heap s.heap [] := va_S.rf
  have hl := lv_entry ([.int x0, .int x1]) (n := 3) (Nat.le_of_ble_eq_true rfl)
  rw [lg_entry_eq]
  generalize (lg_sl ([.int x0, .int x1]) ++ List.replicate (3 - (lg_sl ([.int x0, .int x1])).length) Slot.unset).toArray = ls at hl ⊢
  have hl : lv_has ls 3 [(0, .int x0), (1, .int x1)] := hl
  unfold w_Se_setAfter at hw
  refine lv_bipush (v := 101) hx hb d_Se_setAfter_0 (by decide) ?_
  refine lv_iload_n hx hb d_Se_setAfter_2 rfl (lv_at hl 1 rfl) ?_
  refine lv_isub hx hb d_Se_setAfter_3 ?_
  refine lv_istore_n (lv' := [(2, .int (101 - x1)), (0, .int x0), (1, .int x1)]) hx hb d_Se_setAfter_4 rfl hl (by decide) rfl (fun ls hl => ?_)
  refine lv_iload_n hx hb d_Se_setAfter_5 rfl (lv_at hl 0 rfl) ?_
  refine lv_if_lt (tgt := 23) hx hb d_Se_setAfter_6 (by decide) (fun c1 => ?_) (fun c1 => ?_)
  · have hw := hw.1 c1
    refine lv_iconst (v := (-1)) hx hb d_Se_setAfter_23 (by decide) ?_
    exact W.iret (v := (-1)) hx hb hr (fun t ht hW => ⟨(-1), rfl, hw, ht⟩) hS.2.2 d_Se_setAfter_24
  · have hw := hw.2 c1
    refine lv_iload_n hx hb d_Se_setAfter_9 rfl (lv_at hl 0 rfl) ?_
    refine lv_iconst (v := 3) hx hb d_Se_setAfter_10 (by decide) ?_
    refine lv_icmp_ge (tgt := 23) hx hb d_Se_setAfter_11 (by decide) (fun c2 => ?_) (fun c2 => ?_)
    · have hw := hw.1 c2
      refine lv_iconst (v := (-1)) hx hb d_Se_setAfter_23 (by decide) ?_
      exact W.iret (v := (-1)) hx hb hr (fun t ht hW => ⟨(-1), rfl, hw, ht⟩) hS.2.2 d_Se_setAfter_24
    · have hw := hw.2 c2
      refine lv_iload_n hx hb d_Se_setAfter_14 rfl (lv_at hl 0 rfl) ?_
      refine lv_iload_n hx hb d_Se_setAfter_15 rfl (lv_at hl 1 rfl) ?_
      refine lv_icmp_eq (tgt := 23) hx hb d_Se_setAfter_16 (by decide) (fun c3 => ?_) (fun c3 => ?_)
      · have hw := hw.1 c3
        refine lv_iconst (v := (-1)) hx hb d_Se_setAfter_23 (by decide) ?_
        exact W.iret (v := (-1)) hx hb hr (fun t ht hW => ⟨(-1), rfl, hw, ht⟩) hS.2.2 d_Se_setAfter_24
      · have hw := hw.2 c3
        refine lv_iload_n hx hb d_Se_setAfter_19 rfl (lv_at hl 0 rfl) ?_
        refine lv_goto (tgt := 24) hx hb d_Se_setAfter_20 (by decide) ?_
        exact W.iret (v := (101 - x1)) hx hb hr (fun t ht hW => ⟨(101 - x1), rfl, hw, ht⟩) hS.2.2 d_Se_setAfter_24
