-- LineCodes$Widths.entry([II)I
def w_Wi_entry (post : Int32 → Prop) (n_p0 : Nat) (t_p0 : Nat → Int32) (x1 : Int32) : Prop := (x1 < 0 → post 0) ∧ (¬ x1 < 0 → ((nI n_p0) ≤ x1 → post 0) ∧ (¬ (nI n_p0) ≤ x1 → vp_in x1 n_p0 ∧ post (t_p0 x1.toNatClampNeg)))
abbrev rm_Wi_entry : Room := { frames := 0, cells := 0, slots := 0, locals := 0 }
set_option maxHeartbeats 4000000 in
set_option maxRecDepth 100000 in
theorem met_Wi_entry (l : Launch) (D : va_G) (Z : (Nat → Prop) → State → Heap → Prop) (hz : zk Z) (ad : Nat → Nat) (hk : zs Z ad) (a_p0 : Nat) (n_p0 : Nat) (t_p0 : Nat → Int32) (x1 : Int32) {post : Int32 → Prop} (hw : w_Wi_entry post n_p0 t_p0 x1) : Met l y_Wi_entry ws_Wi_entry rm_Wi_entry (va_Pc [.ref a_p0, .int x1] (ro_ D vwCl [] [] (zt Z a_p0 n_p0 t_p0))) (vp_Si post) 0 0 (fun _ => False) := by
  refine Met.ofW (cc := c_Wi_entry) (maxL := 2) (ret := (some .int)) (by decide) rfl ?_
  intro p e s m args below meth c s₁ B hml hv
  obtain ⟨rfl, hP, hK, hZ⟩ := hv
  have hx := B.exec
  have hb := B.bytes
  have hr := B.returns
  have hts0 := atoms_spec (ws := ws_Wi_entry) B.pre
  have hts := fun (w : Cond) (h : w ∈ tb) => hts0 w (List.mem_cons_of_mem _ h)
  have hown : s.vm.findClass R_Wi = some m.cls := findClass_of_methodNamed B.named
  have hlocks := B.notSynchronized
  have hS : va_S (fun _ => False) s.heap s.heap [] := va_S.rf
  have hl := lv_entry ([.ref a_p0, .int x1]) (n := 2) (Nat.le_of_ble_eq_true rfl)
  rw [lg_entry_eq]
  generalize (lg_sl ([.ref a_p0, .int x1]) ++ List.replicate (2 - (lg_sl ([.ref a_p0, .int x1])).length) Slot.unset).toArray = ls at hl ⊢
  have hl : lv_has ls 2 [(0, .ref a_p0), (1, .int x1)] := hl
  unfold w_Wi_entry at hw
  refine lv_iload_n hx hb d_Wi_entry_0 rfl (lv_at hl 1 rfl) ?_
  refine lv_if_lt (tgt := 16) hx hb d_Wi_entry_1 (by decide) (fun c1 => ?_) (fun c1 => ?_)
  · have hw := hw.1 c1
    refine lv_iconst (v := 0) hx hb d_Wi_entry_16 (by decide) ?_
    exact W.iret (v := 0) hx hb hr (fun t ht hW => ⟨0, rfl, hw, ht⟩) hS.2.2 d_Wi_entry_17
  · have hw := hw.2 c1
    refine lv_iload_n hx hb d_Wi_entry_4 rfl (lv_at hl 1 rfl) ?_
    refine lv_aload_n hx hb d_Wi_entry_5 rfl (lv_at hl 0 rfl) ?_
    refine va_tlen (v := (nI n_p0)) hx hb hZ.2 hS rfl d_Wi_entry_6 ?_
    refine lv_icmp_ge (tgt := 16) hx hb d_Wi_entry_7 (by decide) (fun c2 => ?_) (fun c2 => ?_)
    · have hw := hw.1 c2
      refine lv_iconst (v := 0) hx hb d_Wi_entry_16 (by decide) ?_
      exact W.iret (v := 0) hx hb hr (fun t ht hW => ⟨0, rfl, hw, ht⟩) hS.2.2 d_Wi_entry_17
    · have hw := hw.2 c2
      refine lv_aload_n hx hb d_Wi_entry_10 rfl (lv_at hl 0 rfl) ?_
      refine lv_iload_n hx hb d_Wi_entry_11 rfl (lv_at hl 1 rfl) ?_
      have hi12 := hw.1
      have hw := hw.2
      refine va_ti (v := .int (t_p0 x1.toNatClampNeg)) hx hb hZ.2 hS hi12 rfl d_Wi_entry_12 ?_
      refine lv_goto (tgt := 17) hx hb d_Wi_entry_13 (by decide) ?_
      exact W.iret (v := (t_p0 x1.toNatClampNeg)) hx hb hr (fun t ht hW => ⟨(t_p0 x1.toNatClampNeg), rfl, hw, ht⟩) hS.2.2 d_Wi_entry_17
-- LineCodes$Widths.ofSymbol(I)I
def w_Wi_ofSymbol (post : Int32 → Prop) (x0 : Int32) : Prop := (¬ x0 = 106 → w_Wi_entry (fun r2 => post r2) 106 tabS x0) ∧ (x0 = 106 → post 2331112)
abbrev rm_Wi_ofSymbol : Room := { frames := 1, cells := 0, slots := 0, locals := 21 }
set_option maxHeartbeats 4000000 in
set_option maxRecDepth 100000 in
theorem met_Wi_ofSymbol (l : Launch) (D : va_G) (Z : (Nat → Prop) → State → Heap → Prop) (hz : zk Z) (ad : Nat → Nat) (hk : zs Z ad) (x0 : Int32) {post : Int32 → Prop} (hw : w_Wi_ofSymbol post x0) : Met l y_Wi_ofSymbol ws_Wi_ofSymbol rm_Wi_ofSymbol (va_Pc [.int x0] (ro_ D vwCl [] [] (Z))) (vp_Si post) 0 0 (fun _ => False) := by
  refine Met.ofW (cc := c_Wi_ofSymbol) (maxL := 1) (ret := (some .int)) (by decide) rfl ?_
  intro p e s m args below meth c s₁ B hml hv
  obtain ⟨rfl, hP, hK, hZ⟩ := hv
  have hx := B.exec
  have hb := B.bytes
  have hr := B.returns
  have hts0 := atoms_spec (ws := ws_Wi_ofSymbol) B.pre
  have hts := fun (w : Cond) (h : w ∈ tb) => hts0 w (List.mem_cons_of_mem _ h)
  have hown : s.vm.findClass R_Wi = some m.cls := findClass_of_methodNamed B.named
  have hlocks := B.notSynchronized
  have hS : va_S (fun _ => False) s.heap s.heap [] := va_S.rf
  have hl := lv_entry ([.int x0]) (n := 1) (Nat.le_of_ble_eq_true rfl)
  rw [lg_entry_eq]
  generalize (lg_sl ([.int x0]) ++ List.replicate (1 - (lg_sl ([.int x0])).length) Slot.unset).toArray = ls at hl ⊢
  have hl : lv_has ls 1 [(0, .int x0)] := hl
  unfold w_Wi_ofSymbol at hw
  refine lv_iload_n hx hb d_Wi_ofSymbol_0 rfl (lv_at hl 0 rfl) ?_
  refine lv_bipush (v := 106) hx hb d_Wi_ofSymbol_1 (by decide) ?_
  refine lv_icmp_ne (tgt := 11) hx hb d_Wi_ofSymbol_3 (by decide) (fun c1 => ?_) (fun c1 => ?_)
  · have hw := hw.1 c1
    refine va_gets hx hb (hk _ _ _ hZ).1 hS hown (hts _ mm_327) (fun _ h9 => h9) d_Wi_ofSymbol_11 ?_
    refine lv_iload_n hx hb d_Wi_ofSymbol_14 rfl (lv_at hl 0 rfl) ?_
    refine k_roSi (As := [.ref (ad 0), .int x0]) (rest := []) (zt_zk hz) [] [] ⟨hx, hb, hml, hown, hts⟩ (met_Wi_entry l D Z hz ad hk (ad 0) 106 tabS x0 hw) (va_cwS 2 hts (g_S mm_491 mm_492 mm_53 mm_493) rfl rfl rfl hd_Wi_entry.2 ⟨Nat.le_of_ble_eq_true rfl, Nat.le_of_ble_eq_true rfl⟩) hP hK ⟨hZ, (hk _ _ _ hZ).2.1⟩ hS rfl rfl rfl hl.1 rfl (Nat.le_of_ble_eq_true rfl) d_Wi_ofSymbol_15 ⟨Nat.le_of_ble_eq_true rfl, Nat.le_of_ble_eq_true rfl⟩ (fun r2 hw => ?_)
    exact W.iret (v := r2) hx hb hr (fun t ht hW => ⟨r2, rfl, hw, ht⟩) hS.2.2 d_Wi_ofSymbol_18
  · have hw := hw.2 c1
    refine lv_ldc (v := 2331112) hx hb hown (hts _ mm_490) d_Wi_ofSymbol_6 ?_
    refine lv_goto (tgt := 18) hx hb d_Wi_ofSymbol_8 (by decide) ?_
    exact W.iret (v := 2331112) hx hb hr (fun t ht hW => ⟨2331112, rfl, hw, ht⟩) hS.2.2 d_Wi_ofSymbol_18
-- LineCodes$Widths.turnsOf(I)I
def w_Wi_turnsOf (post : Int32 → Prop) (x0 : Int32) : Prop := w_Wi_entry (fun r1 => post r1) 10 tabT x0
abbrev rm_Wi_turnsOf : Room := { frames := 1, cells := 0, slots := 0, locals := 21 }
set_option maxHeartbeats 4000000 in
set_option maxRecDepth 100000 in
theorem met_Wi_turnsOf (l : Launch) (D : va_G) (Z : (Nat → Prop) → State → Heap → Prop) (hz : zk Z) (ad : Nat → Nat) (hk : zs Z ad) (x0 : Int32) {post : Int32 → Prop} (hw : w_Wi_turnsOf post x0) : Met l y_Wi_turnsOf ws_Wi_turnsOf rm_Wi_turnsOf (va_Pc [.int x0] (ro_ D vwCl [] [] (Z))) (vp_Si post) 0 0 (fun _ => False) := by
  refine Met.ofW (cc := c_Wi_turnsOf) (maxL := 1) (ret := (some .int)) (by decide) rfl ?_
  intro p e s m args below meth c s₁ B hml hv
  obtain ⟨rfl, hP, hK, hZ⟩ := hv
  have hx := B.exec
  have hb := B.bytes
  have hr := B.returns
  have hts0 := atoms_spec (ws := ws_Wi_turnsOf) B.pre
  have hts := fun (w : Cond) (h : w ∈ tb) => hts0 w (List.mem_cons_of_mem _ h)
  have hown : s.vm.findClass R_Wi = some m.cls := findClass_of_methodNamed B.named
  have hlocks := B.notSynchronized
  have hS : va_S (fun _ => False) s.heap s.heap [] := va_S.rf
  have hl := lv_entry ([.int x0]) (n := 1) (Nat.le_of_ble_eq_true rfl)
  rw [lg_entry_eq]
  generalize (lg_sl ([.int x0]) ++ List.replicate (1 - (lg_sl ([.int x0])).length) Slot.unset).toArray = ls at hl ⊢
  have hl : lv_has ls 1 [(0, .int x0)] := hl
  unfold w_Wi_turnsOf at hw
  refine va_gets hx hb (hk _ _ _ hZ).2.2.2.2.1 hS hown (hts _ mm_301) (fun _ h9 => h9) d_Wi_turnsOf_0 ?_
  refine lv_iload_n hx hb d_Wi_turnsOf_3 rfl (lv_at hl 0 rfl) ?_
  refine k_roSi (As := [.ref (ad 2), .int x0]) (rest := []) (zt_zk hz) [] [] ⟨hx, hb, hml, hown, hts⟩ (met_Wi_entry l D Z hz ad hk (ad 2) 10 tabT x0 hw) (va_cwS 2 hts (g_S mm_491 mm_492 mm_53 mm_493) rfl rfl rfl hd_Wi_entry.2 ⟨Nat.le_of_ble_eq_true rfl, Nat.le_of_ble_eq_true rfl⟩) hP hK ⟨hZ, (hk _ _ _ hZ).2.2.2.2.2⟩ hS rfl rfl rfl hl.1 rfl (Nat.le_of_ble_eq_true rfl) d_Wi_turnsOf_4 ⟨Nat.le_of_ble_eq_true rfl, Nat.le_of_ble_eq_true rfl⟩ (fun r1 hw => ?_)
  exact W.iret (v := r1) hx hb hr (fun t ht hW => ⟨r1, rfl, hw, ht⟩) hS.2.2 d_Wi_turnsOf_7
-- LineCodes$Widths.ofFigure(I)I
def w_Wi_ofFigure (post : Int32 → Prop) (x0 : Int32) : Prop := w_Wi_entry (fun r1 => post r1) 10 tabF x0
abbrev rm_Wi_ofFigure : Room := { frames := 1, cells := 0, slots := 0, locals := 21 }
set_option maxHeartbeats 4000000 in
set_option maxRecDepth 100000 in
theorem met_Wi_ofFigure (l : Launch) (D : va_G) (Z : (Nat → Prop) → State → Heap → Prop) (hz : zk Z) (ad : Nat → Nat) (hk : zs Z ad) (x0 : Int32) {post : Int32 → Prop} (hw : w_Wi_ofFigure post x0) : Met l y_Wi_ofFigure ws_Wi_ofFigure rm_Wi_ofFigure (va_Pc [.int x0] (ro_ D vwCl [] [] (Z))) (vp_Si post) 0 0 (fun _ => False) := by
  refine Met.ofW (cc := c_Wi_ofFigure) (maxL := 1) (ret := (some .int)) (by decide) rfl ?_
  intro p e s m args below meth c s₁ B hml hv
  obtain ⟨rfl, hP, hK, hZ⟩ := hv
  have hx := B.exec
  have hb := B.bytes
  have hr := B.returns
  have hts0 := atoms_spec (ws := ws_Wi_ofFigure) B.pre
  have hts := fun (w : Cond) (h : w ∈ tb) => hts0 w (List.mem_cons_of_mem _ h)
  have hown : s.vm.findClass R_Wi = some m.cls := findClass_of_methodNamed B.named
  have hlocks := B.notSynchronized
  have hS : va_S (fun _ => False) s.heap s.heap [] := va_S.rf
  have hl := lv_entry ([.int x0]) (n := 1) (Nat.le_of_ble_eq_true rfl)
  rw [lg_entry_eq]
  generalize (lg_sl ([.int x0]) ++ List.replicate (1 - (lg_sl ([.int x0])).length) Slot.unset).toArray = ls at hl ⊢
  have hl : lv_has ls 1 [(0, .int x0)] := hl
  unfold w_Wi_ofFigure at hw
  refine va_gets hx hb (hk _ _ _ hZ).2.2.1 hS hown (hts _ mm_290) (fun _ h9 => h9) d_Wi_ofFigure_0 ?_
  refine lv_iload_n hx hb d_Wi_ofFigure_3 rfl (lv_at hl 0 rfl) ?_
  refine k_roSi (As := [.ref (ad 1), .int x0]) (rest := []) (zt_zk hz) [] [] ⟨hx, hb, hml, hown, hts⟩ (met_Wi_entry l D Z hz ad hk (ad 1) 10 tabF x0 hw) (va_cwS 2 hts (g_S mm_491 mm_492 mm_53 mm_493) rfl rfl rfl hd_Wi_entry.2 ⟨Nat.le_of_ble_eq_true rfl, Nat.le_of_ble_eq_true rfl⟩) hP hK ⟨hZ, (hk _ _ _ hZ).2.2.2.1⟩ hS rfl rfl rfl hl.1 rfl (Nat.le_of_ble_eq_true rfl) d_Wi_ofFigure_4 ⟨Nat.le_of_ble_eq_true rfl, Nat.le_of_ble_eq_true rfl⟩ (fun r1 hw => ?_)
  exact W.iret (v := r1) hx hb hr (fun t ht hW => ⟨r1, rfl, hw, ht⟩) hS.2.2 d_Wi_ofFigure_7
-- LineCodes$Widths.turned(I)I
def w_Wi_turned (post : Int32 → Prop) (x0 : Int32) : Prop := post (((((x0 - x0 / 10 * 10) * 1000) + (((x0 / 10) - (x0 / 10) / 10 * 10) * 100)) + (((x0 / 100) - (x0 / 100) / 10 * 10) * 10)) + ((x0 / 1000) - (x0 / 1000) / 10 * 10))
abbrev rm_Wi_turned : Room := { frames := 0, cells := 0, slots := 0, locals := 0 }
set_option maxHeartbeats 4000000 in
set_option maxRecDepth 100000 in
theorem met_Wi_turned (l : Launch) (D : va_G) (Z : (Nat → Prop) → State → Heap → Prop) (hz : zk Z) (ad : Nat → Nat) (hk : zs Z ad) (x0 : Int32) {post : Int32 → Prop} (hw : w_Wi_turned post x0) : Met l y_Wi_turned ws_Wi_turned rm_Wi_turned (va_Pc [.int x0] (ro_ D vwCl [] [] (Z))) (vp_Si post) 0 0 (fun _ => False) := by
  refine Met.ofW (cc := c_Wi_turned) (maxL := 1) (ret := (some .int)) (by decide) rfl ?_
  intro p e s m args below meth c s₁ B hml hv
  obtain ⟨rfl, hP, hK, hZ⟩ := hv
  have hx := B.exec
  have hb := B.bytes
  have hr := B.returns
  have hts0 := atoms_spec (ws := ws_Wi_turned) B.pre
  have hts := fun (w : Cond) (h : w ∈ tb) => hts0 w (List.mem_cons_of_mem _ h)
  have hown : s.vm.findClass R_Wi = some m.cls := findClass_of_methodNamed B.named
  have hlocks := B.notSynchronized
  have hS : va_S (fun _ => False) s.heap s.heap [] := va_S.rf
  have hl := lv_entry ([.int x0]) (n := 1) (Nat.le_of_ble_eq_true rfl)
  rw [lg_entry_eq]
  generalize (lg_sl ([.int x0]) ++ List.replicate (1 - (lg_sl ([.int x0])).length) Slot.unset).toArray = ls at hl ⊢
  have hl : lv_has ls 1 [(0, .int x0)] := hl
  unfold w_Wi_turned at hw
  refine lv_iload_n hx hb d_Wi_turned_0 rfl (lv_at hl 0 rfl) ?_
  refine lv_bipush (v := 10) hx hb d_Wi_turned_1 (by decide) ?_
  refine lv_irem hx hb d_Wi_turned_3 (by decide) ?_
  refine lv_sipush (v := 1000) hx hb d_Wi_turned_4 (by decide) ?_
  refine lv_imul hx hb d_Wi_turned_7 ?_
  refine lv_iload_n hx hb d_Wi_turned_8 rfl (lv_at hl 0 rfl) ?_
  refine lv_bipush (v := 10) hx hb d_Wi_turned_9 (by decide) ?_
  refine lv_idiv hx hb d_Wi_turned_11 (by decide) ?_
  refine lv_bipush (v := 10) hx hb d_Wi_turned_12 (by decide) ?_
  refine lv_irem hx hb d_Wi_turned_14 (by decide) ?_
  refine lv_bipush (v := 100) hx hb d_Wi_turned_15 (by decide) ?_
  refine lv_imul hx hb d_Wi_turned_17 ?_
  refine lv_iadd hx hb d_Wi_turned_18 ?_
  refine lv_iload_n hx hb d_Wi_turned_19 rfl (lv_at hl 0 rfl) ?_
  refine lv_bipush (v := 100) hx hb d_Wi_turned_20 (by decide) ?_
  refine lv_idiv hx hb d_Wi_turned_22 (by decide) ?_
  refine lv_bipush (v := 10) hx hb d_Wi_turned_23 (by decide) ?_
  refine lv_irem hx hb d_Wi_turned_25 (by decide) ?_
  refine lv_bipush (v := 10) hx hb d_Wi_turned_26 (by decide) ?_
  refine lv_imul hx hb d_Wi_turned_28 ?_
  refine lv_iadd hx hb d_Wi_turned_29 ?_
  refine lv_iload_n hx hb d_Wi_turned_30 rfl (lv_at hl 0 rfl) ?_
  refine lv_sipush (v := 1000) hx hb d_Wi_turned_31 (by decide) ?_
  refine lv_idiv hx hb d_Wi_turned_34 (by decide) ?_
  refine lv_bipush (v := 10) hx hb d_Wi_turned_35 (by decide) ?_
  refine lv_irem hx hb d_Wi_turned_37 (by decide) ?_
  refine lv_iadd hx hb d_Wi_turned_38 ?_
  exact W.iret (v := (((((x0 - x0 / 10 * 10) * 1000) + (((x0 / 10) - (x0 / 10) / 10 * 10) * 100)) + (((x0 / 100) - (x0 / 100) / 10 * 10) * 10)) + ((x0 / 1000) - (x0 / 1000) / 10 * 10))) hx hb hr (fun t ht hW => ⟨(((((x0 - x0 / 10 * 10) * 1000) + (((x0 / 10) - (x0 / 10) / 10 * 10) * 100)) + (((x0 / 100) - (x0 / 100) / 10 * 10) * 10)) + ((x0 / 1000) - (x0 / 1000) / 10 * 10)), rfl, hw, ht⟩) hS.2.2 d_Wi_turned_39
-- LineCodes$Widths.placeOf([II)I
def w_Wi_placeOf_2 (post : Int32 → Prop) (n_p0 : Nat) (t_p0 : Nat → Int32) (x1 : Int32) : Nat → Int32 → Prop
  | 0, _ => False
  | n + 1, y2 => ((nI n_p0) ≤ y2 → post (-1)) ∧ (¬ (nI n_p0) ≤ y2 → vp_in y2 n_p0 ∧ (¬ (t_p0 y2.toNatClampNeg) = x1 → w_Wi_placeOf_2 post n_p0 t_p0 x1 n (y2 + 1)) ∧ ((t_p0 y2.toNatClampNeg) = x1 → post y2))
def w_Wi_placeOf (post : Int32 → Prop) (n_p0 : Nat) (t_p0 : Nat → Int32) (x1 : Int32) : Prop := ∃ k2, w_Wi_placeOf_2 post n_p0 t_p0 x1 k2 0
abbrev rm_Wi_placeOf : Room := { frames := 0, cells := 0, slots := 0, locals := 0 }
set_option maxHeartbeats 4000000 in
set_option maxRecDepth 100000 in
theorem lp_Wi_placeOf_2 (l : Launch) (D : va_G) (Z : (Nat → Prop) → State → Heap → Prop) (hz : zk Z) (ad : Nat → Nat) (hk : zs Z ad) {p : Program} {e : Env} {s : State} {m : MethodId} {args : Array Value} {below : List Frame} {meth : Method} {c : Code} (a_p0 : Nat) (n_p0 : Nat) (t_p0 : Nat → Int32) (x1 : Int32) {post : Int32 → Prop} (hx : p.tables.exec = Jvm.exec) (hb : c.code = c_Wi_placeOf) (hml : c.maxLocals = 3) (hr : meth.sig.returnType = (some .int)) (hts : ∀ w ∈ tb, w.before args s = true) (hown : s.vm.findClass R_Wi = some m.cls) (hlocks : meth.locks = false) (hK : va_K D vwCl [] s) (hZ : zt Z a_p0 n_p0 t_p0 (fun _ => False) s s.heap) (hP : va_P D vwCl [] s.heap) (hS : va_S (fun _ => False) s.heap s.heap []) : ∀ (n : Nat) (y2 : Int32), w_Wi_placeOf_2 post n_p0 t_p0 x1 n y2 → ∀ ls : Array Slot, lv_has ls 3 [(0, .ref a_p0), (1, .int x1), (2, .int y2)] → W p l e (headSpec ws_Wi_placeOf rm_Wi_placeOf).room s m args below meth c s.heap [] 0 0 (MQ below (vp_Si post) args s 0 0 (fun _ => False)) (F0 m 2 ls []) := by
  intro n
  induction n with
  | zero =>
    intro y2 hw
    unfold w_Wi_placeOf_2 at hw
    exact hw.elim
  | succ n ih =>
    intro y2 hw ls hl
    unfold w_Wi_placeOf_2 at hw
    refine lv_iload_n hx hb d_Wi_placeOf_2 rfl (lv_at hl 2 rfl) ?_
    refine lv_aload_n hx hb d_Wi_placeOf_3 rfl (lv_at hl 0 rfl) ?_
    refine va_tlen (v := (nI n_p0)) hx hb hZ.2 hS rfl d_Wi_placeOf_4 ?_
    refine lv_icmp_ge (tgt := 23) hx hb d_Wi_placeOf_5 (by decide) (fun c1 => ?_) (fun c1 => ?_)
    · have hw := hw.1 c1
      refine lv_iconst (v := (-1)) hx hb d_Wi_placeOf_23 (by decide) ?_
      exact W.iret (v := (-1)) hx hb hr (fun t ht hW => ⟨(-1), rfl, hw, ht⟩) hS.2.2 d_Wi_placeOf_24
    · have hw := hw.2 c1
      refine lv_aload_n hx hb d_Wi_placeOf_8 rfl (lv_at hl 0 rfl) ?_
      refine lv_iload_n hx hb d_Wi_placeOf_9 rfl (lv_at hl 2 rfl) ?_
      have hi10 := hw.1
      have hw := hw.2
      refine va_ti (v := .int (t_p0 y2.toNatClampNeg)) hx hb hZ.2 hS hi10 rfl d_Wi_placeOf_10 ?_
      refine lv_iload_n hx hb d_Wi_placeOf_11 rfl (lv_at hl 1 rfl) ?_
      refine lv_icmp_ne (tgt := 17) hx hb d_Wi_placeOf_12 (by decide) (fun c2 => ?_) (fun c2 => ?_)
      · have hw := hw.1 c2
        refine lv_iinc (v := (y2 + 1)) (lv' := [(2, .int (y2 + 1)), (0, .ref a_p0), (1, .int x1)]) hx hb d_Wi_placeOf_17 hl (k := 2) rfl rfl (by decide) rfl (fun ls hl => ?_)
        refine lv_goto (tgt := 2) hx hb d_Wi_placeOf_20 (by decide) ?_
        exact ih (y2 + 1) hw ls (lv_sub hl [1, 2, 0] rfl)
      · have hw := hw.2 c2
        refine lv_iload_n hx hb d_Wi_placeOf_15 rfl (lv_at hl 2 rfl) ?_
        exact W.iret (v := y2) hx hb hr (fun t ht hW => ⟨y2, rfl, hw, ht⟩) hS.2.2 d_Wi_placeOf_16
set_option maxHeartbeats 4000000 in
set_option maxRecDepth 100000 in
theorem met_Wi_placeOf (l : Launch) (D : va_G) (Z : (Nat → Prop) → State → Heap → Prop) (hz : zk Z) (ad : Nat → Nat) (hk : zs Z ad) (a_p0 : Nat) (n_p0 : Nat) (t_p0 : Nat → Int32) (x1 : Int32) {post : Int32 → Prop} (hw : w_Wi_placeOf post n_p0 t_p0 x1) : Met l y_Wi_placeOf ws_Wi_placeOf rm_Wi_placeOf (va_Pc [.ref a_p0, .int x1] (ro_ D vwCl [] [] (zt Z a_p0 n_p0 t_p0))) (vp_Si post) 0 0 (fun _ => False) := by
  refine Met.ofW (cc := c_Wi_placeOf) (maxL := 3) (ret := (some .int)) (by decide) rfl ?_
  intro p e s m args below meth c s₁ B hml hv
  obtain ⟨rfl, hP, hK, hZ⟩ := hv
  have hx := B.exec
  have hb := B.bytes
  have hr := B.returns
  have hts0 := atoms_spec (ws := ws_Wi_placeOf) B.pre
  have hts := fun (w : Cond) (h : w ∈ tb) => hts0 w (List.mem_cons_of_mem _ h)
  have hown : s.vm.findClass R_Wi = some m.cls := findClass_of_methodNamed B.named
  have hlocks := B.notSynchronized
  have hS : va_S (fun _ => False) s.heap s.heap [] := va_S.rf
  have hl := lv_entry ([.ref a_p0, .int x1]) (n := 3) (Nat.le_of_ble_eq_true rfl)
  rw [lg_entry_eq]
  generalize (lg_sl ([.ref a_p0, .int x1]) ++ List.replicate (3 - (lg_sl ([.ref a_p0, .int x1])).length) Slot.unset).toArray = ls at hl ⊢
  have hl : lv_has ls 3 [(0, .ref a_p0), (1, .int x1)] := hl
  unfold w_Wi_placeOf at hw
  refine lv_iconst (v := 0) hx hb d_Wi_placeOf_0 (by decide) ?_
  refine lv_istore_n (lv' := [(2, .int 0), (0, .ref a_p0), (1, .int x1)]) hx hb d_Wi_placeOf_1 rfl hl (by decide) rfl (fun ls hl => ?_)
  obtain ⟨n9, hw⟩ := hw
  exact lp_Wi_placeOf_2 l D Z hz ad hk a_p0 n_p0 t_p0 x1 hx hb hml hr hts hown hlocks hK hZ hP hS n9 0 hw ls (lv_sub hl [1, 2, 0] rfl)
-- LineCodes$Widths.figureWith(I)I
def w_Wi_figureWith (post : Int32 → Prop) (x0 : Int32) : Prop := w_Wi_placeOf (fun r1 => post r1) 10 tabF x0
abbrev rm_Wi_figureWith : Room := { frames := 1, cells := 0, slots := 0, locals := 22 }
set_option maxHeartbeats 4000000 in
set_option maxRecDepth 100000 in
theorem met_Wi_figureWith (l : Launch) (D : va_G) (Z : (Nat → Prop) → State → Heap → Prop) (hz : zk Z) (ad : Nat → Nat) (hk : zs Z ad) (x0 : Int32) {post : Int32 → Prop} (hw : w_Wi_figureWith post x0) : Met l y_Wi_figureWith ws_Wi_figureWith rm_Wi_figureWith (va_Pc [.int x0] (ro_ D vwCl [] [] (Z))) (vp_Si post) 0 0 (fun _ => False) := by
  refine Met.ofW (cc := c_Wi_figureWith) (maxL := 1) (ret := (some .int)) (by decide) rfl ?_
  intro p e s m args below meth c s₁ B hml hv
  obtain ⟨rfl, hP, hK, hZ⟩ := hv
  have hx := B.exec
  have hb := B.bytes
  have hr := B.returns
  have hts0 := atoms_spec (ws := ws_Wi_figureWith) B.pre
  have hts := fun (w : Cond) (h : w ∈ tb) => hts0 w (List.mem_cons_of_mem _ h)
  have hown : s.vm.findClass R_Wi = some m.cls := findClass_of_methodNamed B.named
  have hlocks := B.notSynchronized
  have hS : va_S (fun _ => False) s.heap s.heap [] := va_S.rf
  have hl := lv_entry ([.int x0]) (n := 1) (Nat.le_of_ble_eq_true rfl)
  rw [lg_entry_eq]
  generalize (lg_sl ([.int x0]) ++ List.replicate (1 - (lg_sl ([.int x0])).length) Slot.unset).toArray = ls at hl ⊢
  have hl : lv_has ls 1 [(0, .int x0)] := hl
  unfold w_Wi_figureWith at hw
  refine va_gets hx hb (hk _ _ _ hZ).2.2.1 hS hown (hts _ mm_290) (fun _ h9 => h9) d_Wi_figureWith_0 ?_
  refine lv_iload_n hx hb d_Wi_figureWith_3 rfl (lv_at hl 0 rfl) ?_
  refine k_roSi (As := [.ref (ad 1), .int x0]) (rest := []) (zt_zk hz) [] [] ⟨hx, hb, hml, hown, hts⟩ (met_Wi_placeOf l D Z hz ad hk (ad 1) 10 tabF x0 hw) (va_cwS 2 hts (g_S mm_292 mm_293 mm_53 mm_294) rfl rfl rfl hd_Wi_placeOf.2 ⟨Nat.le_of_ble_eq_true rfl, Nat.le_of_ble_eq_true rfl⟩) hP hK ⟨hZ, (hk _ _ _ hZ).2.2.2.1⟩ hS rfl rfl rfl hl.1 rfl (Nat.le_of_ble_eq_true rfl) d_Wi_figureWith_4 ⟨Nat.le_of_ble_eq_true rfl, Nat.le_of_ble_eq_true rfl⟩ (fun r1 hw => ?_)
  exact W.iret (v := r1) hx hb hr (fun t ht hW => ⟨r1, rfl, hw, ht⟩) hS.2.2 d_Wi_figureWith_7
-- LineCodes$Widths.firstFigureWith(I)I
def w_Wi_firstFigureWith (post : Int32 → Prop) (x0 : Int32) : Prop := w_Wi_placeOf (fun r1 => post r1) 10 tabT x0
abbrev rm_Wi_firstFigureWith : Room := { frames := 1, cells := 0, slots := 0, locals := 22 }
set_option maxHeartbeats 4000000 in
set_option maxRecDepth 100000 in
theorem met_Wi_firstFigureWith (l : Launch) (D : va_G) (Z : (Nat → Prop) → State → Heap → Prop) (hz : zk Z) (ad : Nat → Nat) (hk : zs Z ad) (x0 : Int32) {post : Int32 → Prop} (hw : w_Wi_firstFigureWith post x0) : Met l y_Wi_firstFigureWith ws_Wi_firstFigureWith rm_Wi_firstFigureWith (va_Pc [.int x0] (ro_ D vwCl [] [] (Z))) (vp_Si post) 0 0 (fun _ => False) := by
  refine Met.ofW (cc := c_Wi_firstFigureWith) (maxL := 1) (ret := (some .int)) (by decide) rfl ?_
  intro p e s m args below meth c s₁ B hml hv
  obtain ⟨rfl, hP, hK, hZ⟩ := hv
  have hx := B.exec
  have hb := B.bytes
  have hr := B.returns
  have hts0 := atoms_spec (ws := ws_Wi_firstFigureWith) B.pre
  have hts := fun (w : Cond) (h : w ∈ tb) => hts0 w (List.mem_cons_of_mem _ h)
  have hown : s.vm.findClass R_Wi = some m.cls := findClass_of_methodNamed B.named
  have hlocks := B.notSynchronized
  have hS : va_S (fun _ => False) s.heap s.heap [] := va_S.rf
  have hl := lv_entry ([.int x0]) (n := 1) (Nat.le_of_ble_eq_true rfl)
  rw [lg_entry_eq]
  generalize (lg_sl ([.int x0]) ++ List.replicate (1 - (lg_sl ([.int x0])).length) Slot.unset).toArray = ls at hl ⊢
  have hl : lv_has ls 1 [(0, .int x0)] := hl
  unfold w_Wi_firstFigureWith at hw
  refine va_gets hx hb (hk _ _ _ hZ).2.2.2.2.1 hS hown (hts _ mm_301) (fun _ h9 => h9) d_Wi_firstFigureWith_0 ?_
  refine lv_iload_n hx hb d_Wi_firstFigureWith_3 rfl (lv_at hl 0 rfl) ?_
  refine k_roSi (As := [.ref (ad 2), .int x0]) (rest := []) (zt_zk hz) [] [] ⟨hx, hb, hml, hown, hts⟩ (met_Wi_placeOf l D Z hz ad hk (ad 2) 10 tabT x0 hw) (va_cwS 2 hts (g_S mm_292 mm_293 mm_53 mm_294) rfl rfl rfl hd_Wi_placeOf.2 ⟨Nat.le_of_ble_eq_true rfl, Nat.le_of_ble_eq_true rfl⟩) hP hK ⟨hZ, (hk _ _ _ hZ).2.2.2.2.2⟩ hS rfl rfl rfl hl.1 rfl (Nat.le_of_ble_eq_true rfl) d_Wi_firstFigureWith_4 ⟨Nat.le_of_ble_eq_true rfl, Nat.le_of_ble_eq_true rfl⟩ (fun r1 hw => ?_)
  exact W.iret (v := r1) hx hb hr (fun t ht hW => ⟨r1, rfl, hw, ht⟩) hS.2.2 d_Wi_firstFigureWith_7
-- LineCodes$Widths.symbolWith(I)I
def w_Wi_symbolWith (post : Int32 → Prop) (x0 : Int32) : Prop := w_Wi_placeOf (fun r1 => post r1) 106 tabS x0
abbrev rm_Wi_symbolWith : Room := { frames := 1, cells := 0, slots := 0, locals := 22 }
set_option maxHeartbeats 4000000 in
set_option maxRecDepth 100000 in
theorem met_Wi_symbolWith (l : Launch) (D : va_G) (Z : (Nat → Prop) → State → Heap → Prop) (hz : zk Z) (ad : Nat → Nat) (hk : zs Z ad) (x0 : Int32) {post : Int32 → Prop} (hw : w_Wi_symbolWith post x0) : Met l y_Wi_symbolWith ws_Wi_symbolWith rm_Wi_symbolWith (va_Pc [.int x0] (ro_ D vwCl [] [] (Z))) (vp_Si post) 0 0 (fun _ => False) := by
  refine Met.ofW (cc := c_Wi_symbolWith) (maxL := 1) (ret := (some .int)) (by decide) rfl ?_
  intro p e s m args below meth c s₁ B hml hv
  obtain ⟨rfl, hP, hK, hZ⟩ := hv
  have hx := B.exec
  have hb := B.bytes
  have hr := B.returns
  have hts0 := atoms_spec (ws := ws_Wi_symbolWith) B.pre
  have hts := fun (w : Cond) (h : w ∈ tb) => hts0 w (List.mem_cons_of_mem _ h)
  have hown : s.vm.findClass R_Wi = some m.cls := findClass_of_methodNamed B.named
  have hlocks := B.notSynchronized
  have hS : va_S (fun _ => False) s.heap s.heap [] := va_S.rf
  have hl := lv_entry ([.int x0]) (n := 1) (Nat.le_of_ble_eq_true rfl)
  rw [lg_entry_eq]
  generalize (lg_sl ([.int x0]) ++ List.replicate (1 - (lg_sl ([.int x0])).length) Slot.unset).toArray = ls at hl ⊢
  have hl : lv_has ls 1 [(0, .int x0)] := hl
  unfold w_Wi_symbolWith at hw
  refine va_gets hx hb (hk _ _ _ hZ).1 hS hown (hts _ mm_327) (fun _ h9 => h9) d_Wi_symbolWith_0 ?_
  refine lv_iload_n hx hb d_Wi_symbolWith_3 rfl (lv_at hl 0 rfl) ?_
  refine k_roSi (As := [.ref (ad 0), .int x0]) (rest := []) (zt_zk hz) [] [] ⟨hx, hb, hml, hown, hts⟩ (met_Wi_placeOf l D Z hz ad hk (ad 0) 106 tabS x0 hw) (va_cwS 2 hts (g_S mm_292 mm_293 mm_53 mm_294) rfl rfl rfl hd_Wi_placeOf.2 ⟨Nat.le_of_ble_eq_true rfl, Nat.le_of_ble_eq_true rfl⟩) hP hK ⟨hZ, (hk _ _ _ hZ).2.1⟩ hS rfl rfl rfl hl.1 rfl (Nat.le_of_ble_eq_true rfl) d_Wi_symbolWith_4 ⟨Nat.le_of_ble_eq_true rfl, Nat.le_of_ble_eq_true rfl⟩ (fun r1 hw => ?_)
  exact W.iret (v := r1) hx hb hr (fun t ht hW => ⟨r1, rfl, hw, ht⟩) hS.2.2 d_Wi_symbolWith_7
