-- LineCodes$Packer.cost(II)I
def w_Pa_cost (post : Int32 → Prop) (f_costs : Nat → Int32) (x1 : Int32) (x2 : Int32) : Prop := (((3 * x1) + x2) < 0 → post 1000000) ∧ (¬ ((3 * x1) + x2) < 0 → (195 ≤ ((3 * x1) + x2) → post 1000000) ∧ (¬ 195 ≤ ((3 * x1) + x2) → vp_in ((3 * x1) + x2) 195 ∧ post (f_costs ((3 * x1) + x2).toNatClampNeg)))
abbrev rm_Pa_cost : Room := { frames := 0, cells := 0, slots := 0, locals := 0 }
set_option maxHeartbeats 4000000 in
set_option maxRecDepth 100000 in
theorem met_Pa_cost (l : Launch) (D : va_G) (Z : (Nat → Prop) → State → Heap → Prop) (hz : zk Z) (ad : Nat → Nat) (hk : zs Z ad) (a_this : Nat) (a_text : Nat) (a_text_items : Nat) (a_row : Nat) (a_row_items : Nat) (a_costs : Nat) (k_text_items : ClassId) (k_row_items : ClassId) (k_costs : ClassId) (v_text_count : Int32) (f_text_items : Nat → Int32) (v_row_count : Int32) (f_row_items : Nat → Int32) (f_costs : Nat → Int32) (x1 : Int32) (x2 : Int32) {post : Int32 → Prop} (hw : w_Pa_cost post f_costs x1 x2) : Met l y_Pa_cost ws_Pa_cost rm_Pa_cost (va_Pc [.ref a_this, .int x1, .int x2] (ro_ D vwCl [(k_text_items, .int), (k_row_items, .int), (k_costs, .int)] [(a_this, .inr (1, [.ref a_text, .ref a_row, .ref a_costs])), (a_text, .inr (0, [.ref a_text_items, .int v_text_count])), (a_text_items, .inl (k_text_items, 64, .inl f_text_items)), (a_row, .inr (0, [.ref a_row_items, .int v_row_count])), (a_row_items, .inl (k_row_items, 99, .inl f_row_items)), (a_costs, .inl (k_costs, 195, .inl f_costs))] (Z))) (vp_Si post) 0 0 (fun _ => False) := by
  refine Met.ofW (cc := c_Pa_cost) (maxL := 4) (ret := (some .int)) (by decide) rfl ?_
  intro p e s m args below meth c s₁ B hml hv
  obtain ⟨rfl, hP, hK, hZ⟩ := hv
  have hx := B.exec
  have hb := B.bytes
  have hr := B.returns
  have hts0 := atoms_spec (ws := ws_Pa_cost) B.pre
  have hts := fun (w : Cond) (h : w ∈ tb) => hts0 w (List.mem_cons_of_mem _ h)
  have hown : s.vm.findClass R_Pa = some m.cls := findClass_of_methodNamed B.named
  have hlocks := B.notSynchronized
  have hS : va_S (fun _ => False) s.heap s.heap [] := va_S.rf
  have hl := lv_entry ([.ref a_this, .int x1, .int x2]) (n := 4) (Nat.le_of_ble_eq_true rfl)
  rw [lg_entry_eq]
  generalize (lg_sl ([.ref a_this, .int x1, .int x2]) ++ List.replicate (4 - (lg_sl ([.ref a_this, .int x1, .int x2])).length) Slot.unset).toArray = ls at hl ⊢
  have hl : lv_has ls 4 [(0, .ref a_this), (1, .int x1), (2, .int x2)] := hl
  unfold w_Pa_cost at hw
  refine lv_iconst (v := 3) hx hb d_Pa_cost_0 (by decide) ?_
  refine lv_iload_n hx hb d_Pa_cost_1 rfl (lv_at hl 1 rfl) ?_
  refine lv_imul hx hb d_Pa_cost_2 ?_
  refine lv_iload_n hx hb d_Pa_cost_3 rfl (lv_at hl 2 rfl) ?_
  refine lv_iadd hx hb d_Pa_cost_4 ?_
  refine lv_istore_n (lv' := [(3, .int ((3 * x1) + x2)), (0, .ref a_this), (1, .int x1), (2, .int x2)]) hx hb d_Pa_cost_5 rfl hl (by decide) rfl (fun ls hl => ?_)
  refine lv_iload_n hx hb d_Pa_cost_6 rfl (lv_at hl 0 rfl) ?_
  refine lv_if_lt (tgt := 28) hx hb d_Pa_cost_7 (by decide) (fun c1 => ?_) (fun c1 => ?_)
  · have hw := hw.1 c1
    refine lv_ldc (v := 1000000) hx hb hown (hts _ mm_161) d_Pa_cost_28 ?_
    exact W.iret (v := 1000000) hx hb hr (fun t ht hW => ⟨1000000, rfl, hw, ht⟩) hS.2.2 d_Pa_cost_30
  · have hw := hw.2 c1
    refine lv_iload_n hx hb d_Pa_cost_10 rfl (lv_at hl 0 rfl) ?_
    refine lv_aload_n hx hb d_Pa_cost_11 rfl (lv_at hl 1 rfl) ?_
    refine va_get (D := D) (ci := 1) (v := .ref a_costs) (C := R_Pa) (T := T_Pa) (N := 3) hx hb hts in_Pa hown hK hP 0 rfl rfl 2 (by decide) (hts _ mm_89) (fun _ h9 => h9) rfl d_Pa_cost_12 ?_
    refine va_alen (v := 195) hx hb hK hP 5 2 rfl rfl rfl d_Pa_cost_15 ?_
    refine lv_icmp_ge (tgt := 28) hx hb d_Pa_cost_16 (by decide) (fun c2 => ?_) (fun c2 => ?_)
    · have hw := hw.1 c2
      refine lv_ldc (v := 1000000) hx hb hown (hts _ mm_161) d_Pa_cost_28 ?_
      exact W.iret (v := 1000000) hx hb hr (fun t ht hW => ⟨1000000, rfl, hw, ht⟩) hS.2.2 d_Pa_cost_30
    · have hw := hw.2 c2
      refine lv_aload_n hx hb d_Pa_cost_19 rfl (lv_at hl 1 rfl) ?_
      refine va_get (D := D) (ci := 1) (v := .ref a_costs) (C := R_Pa) (T := T_Pa) (N := 3) hx hb hts in_Pa hown hK hP 0 rfl rfl 2 (by decide) (hts _ mm_89) (fun _ h9 => h9) rfl d_Pa_cost_20 ?_
      refine lv_iload_n hx hb d_Pa_cost_23 rfl (lv_at hl 0 rfl) ?_
      have hi24 := hw.1
      have hw := hw.2
      refine va_iald hx hb hK hP 5 2 rfl rfl hi24 d_Pa_cost_24 ?_
      refine lv_goto (tgt := 30) hx hb d_Pa_cost_25 (by decide) ?_
      exact W.iret (v := (f_costs ((3 * x1) + x2).toNatClampNeg)) hx hb hr (fun t ht hW => ⟨(f_costs ((3 * x1) + x2).toNatClampNeg), rfl, hw, ht⟩) hS.2.2 d_Pa_cost_30
-- LineCodes$Packer.costOfTelling(II)I
def w_Pa_costOfTelling (post : Int32 → Prop) (v_text_count : Int32) (f_text_items : Nat → Int32) (f_costs : Nat → Int32) (x1 : Int32) (x2 : Int32) : Prop := w_It_at (fun r1 => (¬ r1 = 128 → (¬ x2 = 2 → w_Se_symbolOf (fun r4 => (r4 = (-1) → w_Pa_cost (fun r6 => post (2 + r6)) f_costs (x1 + 1) x2) ∧ (¬ r4 = (-1) → w_Pa_cost (fun r7 => post (1 + r7)) f_costs (x1 + 1) x2)) x2 r1) ∧ (x2 = 2 → w_It_at (fun r8 => w_Se_pairOf (fun r9 => (r9 = (-1) → post 1000000) ∧ (¬ r9 = (-1) → w_Pa_cost (fun r11 => post (1 + r11)) f_costs (x1 + 2) x2)) r1 r8) 64 v_text_count f_text_items (x1 + 1))) ∧ (r1 = 128 → w_Pa_cost (fun r12 => post (1 + r12)) f_costs (x1 + 1) x2)) 64 v_text_count f_text_items x1
abbrev rm_Pa_costOfTelling : Room := { frames := 2, cells := 0, slots := 0, locals := 41 }
set_option maxHeartbeats 4000000 in
set_option maxRecDepth 100000 in
theorem met_Pa_costOfTelling (l : Launch) (D : va_G) (Z : (Nat → Prop) → State → Heap → Prop) (hz : zk Z) (ad : Nat → Nat) (hk : zs Z ad) (a_this : Nat) (a_text : Nat) (a_text_items : Nat) (a_row : Nat) (a_row_items : Nat) (a_costs : Nat) (k_text_items : ClassId) (k_row_items : ClassId) (k_costs : ClassId) (v_text_count : Int32) (f_text_items : Nat → Int32) (v_row_count : Int32) (f_row_items : Nat → Int32) (f_costs : Nat → Int32) (x1 : Int32) (x2 : Int32) {post : Int32 → Prop} (hw : w_Pa_costOfTelling post v_text_count f_text_items f_costs x1 x2) : Met l y_Pa_costOfTelling ws_Pa_costOfTelling rm_Pa_costOfTelling (va_Pc [.ref a_this, .int x1, .int x2] (ro_ D vwCl [(k_text_items, .int), (k_row_items, .int), (k_costs, .int)] [(a_this, .inr (1, [.ref a_text, .ref a_row, .ref a_costs])), (a_text, .inr (0, [.ref a_text_items, .int v_text_count])), (a_text_items, .inl (k_text_items, 64, .inl f_text_items)), (a_row, .inr (0, [.ref a_row_items, .int v_row_count])), (a_row_items, .inl (k_row_items, 99, .inl f_row_items)), (a_costs, .inl (k_costs, 195, .inl f_costs))] (Z))) (vp_Si post) 0 0 (fun _ => False) := by
  refine Met.ofW (cc := c_Pa_costOfTelling) (maxL := 5) (ret := (some .int)) (by decide) rfl ?_
  intro p e s m args below meth c s₁ B hml hv
  obtain ⟨rfl, hP, hK, hZ⟩ := hv
  have hx := B.exec
  have hb := B.bytes
  have hr := B.returns
  have hts0 := atoms_spec (ws := ws_Pa_costOfTelling) B.pre
  have hts := fun (w : Cond) (h : w ∈ tb) => hts0 w (List.mem_cons_of_mem _ h)
  have hown : s.vm.findClass R_Pa = some m.cls := findClass_of_methodNamed B.named
  have hlocks := B.notSynchronized
  have hS : va_S (fun _ => False) s.heap s.heap [] := va_S.rf
  have hl := lv_entry ([.ref a_this, .int x1, .int x2]) (n := 5) (Nat.le_of_ble_eq_true rfl)
  rw [lg_entry_eq]
  generalize (lg_sl ([.ref a_this, .int x1, .int x2]) ++ List.replicate (5 - (lg_sl ([.ref a_this, .int x1, .int x2])).length) Slot.unset).toArray = ls at hl ⊢
  have hl : lv_has ls 5 [(0, .ref a_this), (1, .int x1), (2, .int x2)] := hl
  unfold w_Pa_costOfTelling at hw
  refine lv_aload_n hx hb d_Pa_costOfTelling_0 rfl (lv_at hl 0 rfl) ?_
  refine va_get (D := D) (ci := 1) (v := .ref a_text) (C := R_Pa) (T := T_Pa) (N := 3) hx hb hts in_Pa hown hK hP 0 rfl rfl 0 (by decide) (hts _ mm_87) (fun _ h9 => h9) rfl d_Pa_costOfTelling_1 ?_
  refine lv_iload_n hx hb d_Pa_costOfTelling_4 rfl (lv_at hl 1 rfl) ?_
  refine k_roVi (As := [.int x1]) (rest := []) hz [1, 2] [0] 1 0 ⟨hx, hb, hml, hown, hts⟩ (met_It_at l D Z hz ad hk a_text a_text_items k_text_items 64 v_text_count f_text_items x1 hw) (cwV 1 hts (g_V mm_166 mm_167 mm_168 mm_42 mm_169) rfl rfl rfl hd_It_at ⟨Nat.le_of_ble_eq_true rfl, Nat.le_of_ble_eq_true rfl⟩) hP hK hZ hS rfl rfl rfl rfl rfl hl.1 rfl (Nat.le_of_ble_eq_true rfl) d_Pa_costOfTelling_5 ⟨Nat.le_of_ble_eq_true rfl, Nat.le_of_ble_eq_true rfl⟩ (fun r1 hw => ?_)
  refine lv_istore_n (lv' := [(3, .int r1), (0, .ref a_this), (1, .int x1), (2, .int x2)]) hx hb d_Pa_costOfTelling_8 rfl hl (by decide) rfl (fun ls hl => ?_)
  refine lv_iload_n hx hb d_Pa_costOfTelling_9 rfl (lv_at hl 0 rfl) ?_
  refine lv_sipush (v := 128) hx hb d_Pa_costOfTelling_10 (by decide) ?_
  refine lv_icmp_ne (tgt := 27) hx hb d_Pa_costOfTelling_13 (by decide) (fun c2 => ?_) (fun c2 => ?_)
  · have hw := hw.1 c2
    refine lv_iload_n hx hb d_Pa_costOfTelling_27 rfl (lv_at hl 3 rfl) ?_
    refine lv_iconst (v := 2) hx hb d_Pa_costOfTelling_28 (by decide) ?_
    refine lv_icmp_ne (tgt := 78) hx hb d_Pa_costOfTelling_29 (by decide) (fun c3 => ?_) (fun c3 => ?_)
    · have hw := hw.1 c3
      refine lv_iload_n hx hb d_Pa_costOfTelling_78 rfl (lv_at hl 3 rfl) ?_
      refine lv_iload_n hx hb d_Pa_costOfTelling_79 rfl (lv_at hl 0 rfl) ?_
      refine k_roSi (As := [.int x2, .int r1]) (rest := []) hz [] [] ⟨hx, hb, hml, hown, hts⟩ (met_Se_symbolOf l D Z hz ad hk x2 r1 hw) (va_cwS 2 hts (g_S mm_180 mm_181 mm_51 mm_182) rfl rfl rfl hd_Se_symbolOf.2 ⟨Nat.le_of_ble_eq_true rfl, Nat.le_of_ble_eq_true rfl⟩) hP hK hZ hS rfl rfl rfl hl.1 rfl (Nat.le_of_ble_eq_true rfl) d_Pa_costOfTelling_80 ⟨Nat.le_of_ble_eq_true rfl, Nat.le_of_ble_eq_true rfl⟩ (fun r4 hw => ?_)
      refine lv_iconst (v := (-1)) hx hb d_Pa_costOfTelling_83 (by decide) ?_
      refine lv_icmp_eq (tgt := 91) hx hb d_Pa_costOfTelling_84 (by decide) (fun c5 => ?_) (fun c5 => ?_)
      · have hw := hw.1 c5
        refine lv_iconst (v := 0) hx hb d_Pa_costOfTelling_91 (by decide) ?_
        refine lv_istore (lv' := [(4, .int 0), (3, .int r1), (0, .ref a_this), (1, .int x1), (2, .int x2)]) hx hb d_Pa_costOfTelling_92 hl (by decide) rfl (fun ls hl => ?_)
        refine lv_iload hx hb d_Pa_costOfTelling_94 (lv_at hl 0 rfl) ?_
        refine lv_if_eq (tgt := 103) hx hb d_Pa_costOfTelling_96 (by decide) (fun _ => ?_) (fun c9 => absurd c9 (by decide))
        refine lv_iconst (v := 2) hx hb d_Pa_costOfTelling_103 (by decide) ?_
        refine lv_aload_n hx hb d_Pa_costOfTelling_104 rfl (lv_at hl 2 rfl) ?_
        refine lv_iload_n hx hb d_Pa_costOfTelling_105 rfl (lv_at hl 3 rfl) ?_
        refine lv_iconst (v := 1) hx hb d_Pa_costOfTelling_106 (by decide) ?_
        refine lv_iadd hx hb d_Pa_costOfTelling_107 ?_
        refine lv_iload_n hx hb d_Pa_costOfTelling_108 rfl (lv_at hl 4 rfl) ?_
        refine k_roVi (As := [.int (x1 + 1), .int x2]) (rest := [.int 2]) hz [0, 1, 2, 3, 4, 5] [0, 1, 2] 0 1 ⟨hx, hb, hml, hown, hts⟩ (met_Pa_cost l D Z hz ad hk a_this a_text a_text_items a_row a_row_items a_costs k_text_items k_row_items k_costs v_text_count f_text_items v_row_count f_row_items f_costs (x1 + 1) x2 hw) (cwV 2 hts (g_V mm_170 mm_172 mm_2 mm_44 mm_173) rfl rfl rfl hd_Pa_cost ⟨Nat.le_of_ble_eq_true rfl, Nat.le_of_ble_eq_true rfl⟩) hP hK hZ hS rfl rfl rfl rfl rfl hl.1 rfl (Nat.le_of_ble_eq_true rfl) d_Pa_costOfTelling_109 ⟨Nat.le_of_ble_eq_true rfl, Nat.le_of_ble_eq_true rfl⟩ (fun r6 hw => ?_)
        refine lv_iadd hx hb d_Pa_costOfTelling_112 ?_
        exact W.iret (v := (2 + r6)) hx hb hr (fun t ht hW => ⟨(2 + r6), rfl, hw, ht⟩) hS.2.2 d_Pa_costOfTelling_113
      · have hw := hw.2 c5
        refine lv_iconst (v := 1) hx hb d_Pa_costOfTelling_87 (by decide) ?_
        refine lv_goto (tgt := 92) hx hb d_Pa_costOfTelling_88 (by decide) ?_
        refine lv_istore (lv' := [(4, .int 1), (3, .int r1), (0, .ref a_this), (1, .int x1), (2, .int x2)]) hx hb d_Pa_costOfTelling_92 hl (by decide) rfl (fun ls hl => ?_)
        refine lv_iload hx hb d_Pa_costOfTelling_94 (lv_at hl 0 rfl) ?_
        refine lv_if_eq (tgt := 103) hx hb d_Pa_costOfTelling_96 (by decide) (fun c9 => absurd c9 (by decide)) (fun _ => ?_)
        refine lv_iconst (v := 1) hx hb d_Pa_costOfTelling_99 (by decide) ?_
        refine lv_goto (tgt := 104) hx hb d_Pa_costOfTelling_100 (by decide) ?_
        refine lv_aload_n hx hb d_Pa_costOfTelling_104 rfl (lv_at hl 2 rfl) ?_
        refine lv_iload_n hx hb d_Pa_costOfTelling_105 rfl (lv_at hl 3 rfl) ?_
        refine lv_iconst (v := 1) hx hb d_Pa_costOfTelling_106 (by decide) ?_
        refine lv_iadd hx hb d_Pa_costOfTelling_107 ?_
        refine lv_iload_n hx hb d_Pa_costOfTelling_108 rfl (lv_at hl 4 rfl) ?_
        refine k_roVi (As := [.int (x1 + 1), .int x2]) (rest := [.int 1]) hz [0, 1, 2, 3, 4, 5] [0, 1, 2] 0 1 ⟨hx, hb, hml, hown, hts⟩ (met_Pa_cost l D Z hz ad hk a_this a_text a_text_items a_row a_row_items a_costs k_text_items k_row_items k_costs v_text_count f_text_items v_row_count f_row_items f_costs (x1 + 1) x2 hw) (cwV 2 hts (g_V mm_170 mm_172 mm_2 mm_44 mm_173) rfl rfl rfl hd_Pa_cost ⟨Nat.le_of_ble_eq_true rfl, Nat.le_of_ble_eq_true rfl⟩) hP hK hZ hS rfl rfl rfl rfl rfl hl.1 rfl (Nat.le_of_ble_eq_true rfl) d_Pa_costOfTelling_109 ⟨Nat.le_of_ble_eq_true rfl, Nat.le_of_ble_eq_true rfl⟩ (fun r7 hw => ?_)
        refine lv_iadd hx hb d_Pa_costOfTelling_112 ?_
        exact W.iret (v := (1 + r7)) hx hb hr (fun t ht hW => ⟨(1 + r7), rfl, hw, ht⟩) hS.2.2 d_Pa_costOfTelling_113
    · have hw := hw.2 c3
      refine lv_iload_n hx hb d_Pa_costOfTelling_32 rfl (lv_at hl 0 rfl) ?_
      refine lv_aload_n hx hb d_Pa_costOfTelling_33 rfl (lv_at hl 1 rfl) ?_
      refine va_get (D := D) (ci := 1) (v := .ref a_text) (C := R_Pa) (T := T_Pa) (N := 3) hx hb hts in_Pa hown hK hP 0 rfl rfl 0 (by decide) (hts _ mm_87) (fun _ h9 => h9) rfl d_Pa_costOfTelling_34 ?_
      refine lv_iload_n hx hb d_Pa_costOfTelling_37 rfl (lv_at hl 2 rfl) ?_
      refine lv_iconst (v := 1) hx hb d_Pa_costOfTelling_38 (by decide) ?_
      refine lv_iadd hx hb d_Pa_costOfTelling_39 ?_
      refine k_roVi (As := [.int (x1 + 1)]) (rest := [.int r1]) hz [1, 2] [0] 1 0 ⟨hx, hb, hml, hown, hts⟩ (met_It_at l D Z hz ad hk a_text a_text_items k_text_items 64 v_text_count f_text_items (x1 + 1) hw) (cwV 1 hts (g_V mm_166 mm_167 mm_168 mm_42 mm_169) rfl rfl rfl hd_It_at ⟨Nat.le_of_ble_eq_true rfl, Nat.le_of_ble_eq_true rfl⟩) hP hK hZ hS rfl rfl rfl rfl rfl hl.1 rfl (Nat.le_of_ble_eq_true rfl) d_Pa_costOfTelling_40 ⟨Nat.le_of_ble_eq_true rfl, Nat.le_of_ble_eq_true rfl⟩ (fun r8 hw => ?_)
      refine k_roSi (As := [.int r1, .int r8]) (rest := []) hz [] [] ⟨hx, hb, hml, hown, hts⟩ (met_Se_pairOf l D Z hz ad hk r1 r8 hw) (va_cwS 2 hts (g_S mm_174 mm_175 mm_51 mm_176) rfl rfl rfl hd_Se_pairOf.2 ⟨Nat.le_of_ble_eq_true rfl, Nat.le_of_ble_eq_true rfl⟩) hP hK hZ hS rfl rfl rfl hl.1 rfl (Nat.le_of_ble_eq_true rfl) d_Pa_costOfTelling_43 ⟨Nat.le_of_ble_eq_true rfl, Nat.le_of_ble_eq_true rfl⟩ (fun r9 hw => ?_)
      refine lv_iconst (v := (-1)) hx hb d_Pa_costOfTelling_46 (by decide) ?_
      refine lv_icmp_eq (tgt := 54) hx hb d_Pa_costOfTelling_47 (by decide) (fun c10 => ?_) (fun c10 => ?_)
      · have hw := hw.1 c10
        refine lv_iconst (v := 0) hx hb d_Pa_costOfTelling_54 (by decide) ?_
        refine lv_istore (lv' := [(4, .int 0), (3, .int r1), (0, .ref a_this), (1, .int x1), (2, .int x2)]) hx hb d_Pa_costOfTelling_55 hl (by decide) rfl (fun ls hl => ?_)
        refine lv_iload hx hb d_Pa_costOfTelling_57 (lv_at hl 0 rfl) ?_
        refine lv_if_eq (tgt := 75) hx hb d_Pa_costOfTelling_59 (by decide) (fun _ => ?_) (fun c9 => absurd c9 (by decide))
        refine lv_ldc (v := 1000000) hx hb hown (hts _ mm_161) d_Pa_costOfTelling_75 ?_
        exact W.iret (v := 1000000) hx hb hr (fun t ht hW => ⟨1000000, rfl, hw, ht⟩) hS.2.2 d_Pa_costOfTelling_77
      · have hw := hw.2 c10
        refine lv_iconst (v := 1) hx hb d_Pa_costOfTelling_50 (by decide) ?_
        refine lv_goto (tgt := 55) hx hb d_Pa_costOfTelling_51 (by decide) ?_
        refine lv_istore (lv' := [(4, .int 1), (3, .int r1), (0, .ref a_this), (1, .int x1), (2, .int x2)]) hx hb d_Pa_costOfTelling_55 hl (by decide) rfl (fun ls hl => ?_)
        refine lv_iload hx hb d_Pa_costOfTelling_57 (lv_at hl 0 rfl) ?_
        refine lv_if_eq (tgt := 75) hx hb d_Pa_costOfTelling_59 (by decide) (fun c9 => absurd c9 (by decide)) (fun _ => ?_)
        refine lv_iconst (v := 1) hx hb d_Pa_costOfTelling_62 (by decide) ?_
        refine lv_aload_n hx hb d_Pa_costOfTelling_63 rfl (lv_at hl 2 rfl) ?_
        refine lv_iload_n hx hb d_Pa_costOfTelling_64 rfl (lv_at hl 3 rfl) ?_
        refine lv_iconst (v := 2) hx hb d_Pa_costOfTelling_65 (by decide) ?_
        refine lv_iadd hx hb d_Pa_costOfTelling_66 ?_
        refine lv_iload_n hx hb d_Pa_costOfTelling_67 rfl (lv_at hl 4 rfl) ?_
        refine k_roVi (As := [.int (x1 + 2), .int x2]) (rest := [.int 1]) hz [0, 1, 2, 3, 4, 5] [0, 1, 2] 0 1 ⟨hx, hb, hml, hown, hts⟩ (met_Pa_cost l D Z hz ad hk a_this a_text a_text_items a_row a_row_items a_costs k_text_items k_row_items k_costs v_text_count f_text_items v_row_count f_row_items f_costs (x1 + 2) x2 hw) (cwV 2 hts (g_V mm_170 mm_172 mm_2 mm_44 mm_173) rfl rfl rfl hd_Pa_cost ⟨Nat.le_of_ble_eq_true rfl, Nat.le_of_ble_eq_true rfl⟩) hP hK hZ hS rfl rfl rfl rfl rfl hl.1 rfl (Nat.le_of_ble_eq_true rfl) d_Pa_costOfTelling_68 ⟨Nat.le_of_ble_eq_true rfl, Nat.le_of_ble_eq_true rfl⟩ (fun r11 hw => ?_)
        refine lv_iadd hx hb d_Pa_costOfTelling_71 ?_
        refine lv_goto (tgt := 77) hx hb d_Pa_costOfTelling_72 (by decide) ?_
        exact W.iret (v := (1 + r11)) hx hb hr (fun t ht hW => ⟨(1 + r11), rfl, hw, ht⟩) hS.2.2 d_Pa_costOfTelling_77
  · have hw := hw.2 c2
    refine lv_iconst (v := 1) hx hb d_Pa_costOfTelling_16 (by decide) ?_
    refine lv_aload_n hx hb d_Pa_costOfTelling_17 rfl (lv_at hl 1 rfl) ?_
    refine lv_iload_n hx hb d_Pa_costOfTelling_18 rfl (lv_at hl 2 rfl) ?_
    refine lv_iconst (v := 1) hx hb d_Pa_costOfTelling_19 (by decide) ?_
    refine lv_iadd hx hb d_Pa_costOfTelling_20 ?_
    refine lv_iload_n hx hb d_Pa_costOfTelling_21 rfl (lv_at hl 3 rfl) ?_
    refine k_roVi (As := [.int (x1 + 1), .int x2]) (rest := [.int 1]) hz [0, 1, 2, 3, 4, 5] [0, 1, 2] 0 1 ⟨hx, hb, hml, hown, hts⟩ (met_Pa_cost l D Z hz ad hk a_this a_text a_text_items a_row a_row_items a_costs k_text_items k_row_items k_costs v_text_count f_text_items v_row_count f_row_items f_costs (x1 + 1) x2 hw) (cwV 2 hts (g_V mm_170 mm_172 mm_2 mm_44 mm_173) rfl rfl rfl hd_Pa_cost ⟨Nat.le_of_ble_eq_true rfl, Nat.le_of_ble_eq_true rfl⟩) hP hK hZ hS rfl rfl rfl rfl rfl hl.1 rfl (Nat.le_of_ble_eq_true rfl) d_Pa_costOfTelling_22 ⟨Nat.le_of_ble_eq_true rfl, Nat.le_of_ble_eq_true rfl⟩ (fun r12 hw => ?_)
    refine lv_iadd hx hb d_Pa_costOfTelling_25 ?_
    exact W.iret (v := (1 + r12)) hx hb hr (fun t ht hW => ⟨(1 + r12), rfl, hw, ht⟩) hS.2.2 d_Pa_costOfTelling_26
-- LineCodes$Packer.setCost(III)V
def w_Pa_setCost (post : (Nat → Int32) → Prop) (f_costs : Nat → Int32) (x1 : Int32) (x2 : Int32) (x3 : Int32) : Prop := (((3 * x1) + x2) < 0 → post f_costs) ∧ (¬ ((3 * x1) + x2) < 0 → (195 ≤ ((3 * x1) + x2) → post f_costs) ∧ (¬ 195 ≤ ((3 * x1) + x2) → vp_in ((3 * x1) + x2) 195 ∧ post (upd f_costs ((3 * x1) + x2).toNatClampNeg x3)))
abbrev rm_Pa_setCost : Room := { frames := 0, cells := 0, slots := 0, locals := 0 }
set_option maxHeartbeats 4000000 in
set_option maxRecDepth 100000 in
theorem met_Pa_setCost (l : Launch) (D : va_G) (Z : (Nat → Prop) → State → Heap → Prop) (hz : zk Z) (ad : Nat → Nat) (hk : zs Z ad) (a_this : Nat) (a_text : Nat) (a_text_items : Nat) (a_row : Nat) (a_row_items : Nat) (a_costs : Nat) (k_text_items : ClassId) (k_row_items : ClassId) (k_costs : ClassId) (v_text_count : Int32) (f_text_items : Nat → Int32) (v_row_count : Int32) (f_row_items : Nat → Int32) (f_costs : Nat → Int32) (x1 : Int32) (x2 : Int32) (x3 : Int32) (sz : Nat) {post : (Nat → Int32) → Prop} (hw : w_Pa_setCost post f_costs x1 x2 x3) : Met l y_Pa_setCost ws_Pa_setCost rm_Pa_setCost (va_Pc [.ref a_this, .int x1, .int x2, .int x3] (rw_ D vwCl [(k_text_items, .int), (k_row_items, .int), (k_costs, .int)] [(a_this, .inr (1, [.ref a_text, .ref a_row, .ref a_costs])), (a_text, .inr (0, [.ref a_text_items, .int v_text_count])), (a_text_items, .inl (k_text_items, 64, .inl f_text_items)), (a_row, .inr (0, [.ref a_row_items, .int v_row_count])), (a_row_items, .inl (k_row_items, 99, .inl f_row_items)), (a_costs, .inl (k_costs, 195, .inl f_costs))] (Z) sz)) (va_Qv (fun u : (Nat → Int32) => post u) (fun u t => at_ D vwCl [(k_text_items, .int), (k_row_items, .int), (k_costs, .int)] (va_A [(a_this, .inr (1, [.ref a_text, .ref a_row, .ref a_costs])), (a_text, .inr (0, [.ref a_text_items, .int v_text_count])), (a_text_items, .inl (k_text_items, 64, .inl f_text_items)), (a_row, .inr (0, [.ref a_row_items, .int v_row_count])), (a_row_items, .inl (k_row_items, 99, .inl f_row_items)), (a_costs, .inl (k_costs, 195, .inl f_costs))] sz) [(a_this, .inr (1, [.ref a_text, .ref a_row, .ref a_costs])), (a_text, .inr (0, [.ref a_text_items, .int v_text_count])), (a_text_items, .inl (k_text_items, 64, .inl f_text_items)), (a_row, .inr (0, [.ref a_row_items, .int v_row_count])), (a_row_items, .inl (k_row_items, 99, .inl f_row_items)), (a_costs, .inl (k_costs, 195, .inl u))] t) (va_A [(a_this, .inr (1, [.ref a_text, .ref a_row, .ref a_costs])), (a_text, .inr (0, [.ref a_text_items, .int v_text_count])), (a_text_items, .inl (k_text_items, 64, .inl f_text_items)), (a_row, .inr (0, [.ref a_row_items, .int v_row_count])), (a_row_items, .inl (k_row_items, 99, .inl f_row_items)), (a_costs, .inl (k_costs, 195, .inl f_costs))] sz)) 0 0 (va_A [(a_this, .inr (1, [.ref a_text, .ref a_row, .ref a_costs])), (a_text, .inr (0, [.ref a_text_items, .int v_text_count])), (a_text_items, .inl (k_text_items, 64, .inl f_text_items)), (a_row, .inr (0, [.ref a_row_items, .int v_row_count])), (a_row_items, .inl (k_row_items, 99, .inl f_row_items)), (a_costs, .inl (k_costs, 195, .inl f_costs))] sz) := by
  refine Met.ofW (cc := c_Pa_setCost) (maxL := 5) (ret := (none)) (by decide) rfl ?_
  intro p e s m args below meth c s₁ B hml hv
  obtain ⟨rfl, hsz, hP, hK, hD0, hZ⟩ := hv
  have hx := B.exec
  have hb := B.bytes
  have hr := B.returns
  have hts0 := atoms_spec (ws := ws_Pa_setCost) B.pre
  have hts := fun (w : Cond) (h : w ∈ tb) => hts0 w (List.mem_cons_of_mem _ h)
  have hown : s.vm.findClass R_Pa = some m.cls := findClass_of_methodNamed B.named
  have hlocks := B.notSynchronized
  subst hsz
  have hD := hD0.self (sz := s.heap.size)
  generalize hAe : va_A [(a_this, .inr (1, [.ref a_text, .ref a_row, .ref a_costs])), (a_text, .inr (0, [.ref a_text_items, .int v_text_count])), (a_text_items, .inl (k_text_items, 64, .inl f_text_items)), (a_row, .inr (0, [.ref a_row_items, .int v_row_count])), (a_row_items, .inl (k_row_items, 99, .inl f_row_items)), (a_costs, .inl (k_costs, 195, .inl f_costs))] s.heap.size = A at hD hZ ⊢
  have hA : ∀ q : Nat, s.heap.size ≤ q → A q := fun q h => by rw [← hAe]; exact Or.inr h
  have hS : va_S A s.heap s.heap [] := va_S.rf
  have hl := lv_entry ([.ref a_this, .int x1, .int x2, .int x3]) (n := 5) (Nat.le_of_ble_eq_true rfl)
  rw [lg_entry_eq]
  generalize (lg_sl ([.ref a_this, .int x1, .int x2, .int x3]) ++ List.replicate (5 - (lg_sl ([.ref a_this, .int x1, .int x2, .int x3])).length) Slot.unset).toArray = ls at hl ⊢
  have hl : lv_has ls 5 [(0, .ref a_this), (1, .int x1), (2, .int x2), (3, .int x3)] := hl
  unfold w_Pa_setCost at hw
  refine lv_iconst (v := 3) hx hb d_Pa_setCost_0 (by decide) ?_
  refine lv_iload_n hx hb d_Pa_setCost_1 rfl (lv_at hl 1 rfl) ?_
  refine lv_imul hx hb d_Pa_setCost_2 ?_
  refine lv_iload_n hx hb d_Pa_setCost_3 rfl (lv_at hl 2 rfl) ?_
  refine lv_iadd hx hb d_Pa_setCost_4 ?_
  refine lv_istore (lv' := [(4, .int ((3 * x1) + x2)), (0, .ref a_this), (1, .int x1), (2, .int x2), (3, .int x3)]) hx hb d_Pa_setCost_5 hl (by decide) rfl (fun ls hl => ?_)
  refine lv_iload hx hb d_Pa_setCost_7 (lv_at hl 0 rfl) ?_
  refine lv_if_lt (tgt := 30) hx hb d_Pa_setCost_9 (by decide) (fun c1 => ?_) (fun c1 => ?_)
  · have hw := hw.1 c1
    have hP9 := hP.sub (ws' := [(a_this, .inr (1, [.ref a_text, .ref a_row, .ref a_costs])), (a_text, .inr (0, [.ref a_text_items, .int v_text_count])), (a_text_items, .inl (k_text_items, 64, .inl f_text_items)), (a_row, .inr (0, [.ref a_row_items, .int v_row_count])), (a_row_items, .inl (k_row_items, 99, .inl f_row_items)), (a_costs, .inl (k_costs, 195, .inl f_costs))]) [0, 1, 2, 3, 4, 5] rfl
    have hD9 := hD.sub (ws' := [(a_this, .inr (1, [.ref a_text, .ref a_row, .ref a_costs])), (a_text, .inr (0, [.ref a_text_items, .int v_text_count])), (a_text_items, .inl (k_text_items, 64, .inl f_text_items)), (a_row, .inr (0, [.ref a_row_items, .int v_row_count])), (a_row_items, .inl (k_row_items, 99, .inl f_row_items)), (a_costs, .inl (k_costs, 195, .inl f_costs))]) [0, 1, 2, 3, 4, 5] (by decide) rfl
    exact W.vret hx hb hr (fun t ht hW => ⟨⟨f_costs, rfl, hw, by rw [ht]; exact hP9, va_K.moved hW.alike hK, hD9⟩, hS.F ht⟩) hS.2.2 d_Pa_setCost_30
  · have hw := hw.2 c1
    refine lv_iload hx hb d_Pa_setCost_12 (lv_at hl 0 rfl) ?_
    refine lv_aload_n hx hb d_Pa_setCost_14 rfl (lv_at hl 1 rfl) ?_
    refine va_get (D := D) (ci := 1) (v := .ref a_costs) (C := R_Pa) (T := T_Pa) (N := 3) hx hb hts in_Pa hown hK hP 0 rfl rfl 2 (by decide) (hts _ mm_89) (fun _ h9 => h9) rfl d_Pa_setCost_15 ?_
    refine va_alen (v := 195) hx hb hK hP 5 2 rfl rfl rfl d_Pa_setCost_18 ?_
    refine lv_icmp_ge (tgt := 30) hx hb d_Pa_setCost_19 (by decide) (fun c2 => ?_) (fun c2 => ?_)
    · have hw := hw.1 c2
      have hP9 := hP.sub (ws' := [(a_this, .inr (1, [.ref a_text, .ref a_row, .ref a_costs])), (a_text, .inr (0, [.ref a_text_items, .int v_text_count])), (a_text_items, .inl (k_text_items, 64, .inl f_text_items)), (a_row, .inr (0, [.ref a_row_items, .int v_row_count])), (a_row_items, .inl (k_row_items, 99, .inl f_row_items)), (a_costs, .inl (k_costs, 195, .inl f_costs))]) [0, 1, 2, 3, 4, 5] rfl
      have hD9 := hD.sub (ws' := [(a_this, .inr (1, [.ref a_text, .ref a_row, .ref a_costs])), (a_text, .inr (0, [.ref a_text_items, .int v_text_count])), (a_text_items, .inl (k_text_items, 64, .inl f_text_items)), (a_row, .inr (0, [.ref a_row_items, .int v_row_count])), (a_row_items, .inl (k_row_items, 99, .inl f_row_items)), (a_costs, .inl (k_costs, 195, .inl f_costs))]) [0, 1, 2, 3, 4, 5] (by decide) rfl
      exact W.vret hx hb hr (fun t ht hW => ⟨⟨f_costs, rfl, hw, by rw [ht]; exact hP9, va_K.moved hW.alike hK, hD9⟩, hS.F ht⟩) hS.2.2 d_Pa_setCost_30
    · have hw := hw.2 c2
      refine lv_aload_n hx hb d_Pa_setCost_22 rfl (lv_at hl 1 rfl) ?_
      refine va_get (D := D) (ci := 1) (v := .ref a_costs) (C := R_Pa) (T := T_Pa) (N := 3) hx hb hts in_Pa hown hK hP 0 rfl rfl 2 (by decide) (hts _ mm_89) (fun _ h9 => h9) rfl d_Pa_setCost_23 ?_
      refine lv_iload hx hb d_Pa_setCost_26 (lv_at hl 0 rfl) ?_
      refine lv_iload_n hx hb d_Pa_setCost_28 rfl (lv_at hl 4 rfl) ?_
      have hi29 := hw.1
      have hw := hw.2
      refine va_iast hx hb hK hP hD hS 5 2 rfl rfl hi29 d_Pa_setCost_29 (fun H locs hP hD hS => ?_)
      have hP : va_P D vwCl [(a_this, .inr (1, [.ref a_text, .ref a_row, .ref a_costs])), (a_text, .inr (0, [.ref a_text_items, .int v_text_count])), (a_text_items, .inl (k_text_items, 64, .inl f_text_items)), (a_row, .inr (0, [.ref a_row_items, .int v_row_count])), (a_row_items, .inl (k_row_items, 99, .inl f_row_items)), (a_costs, .inl (k_costs, 195, .inl (upd f_costs ((3 * x1) + x2).toNatClampNeg x3)))] H := hP
      have hD : va_D A [(a_this, .inr (1, [.ref a_text, .ref a_row, .ref a_costs])), (a_text, .inr (0, [.ref a_text_items, .int v_text_count])), (a_text_items, .inl (k_text_items, 64, .inl f_text_items)), (a_row, .inr (0, [.ref a_row_items, .int v_row_count])), (a_row_items, .inl (k_row_items, 99, .inl f_row_items)), (a_costs, .inl (k_costs, 195, .inl (upd f_costs ((3 * x1) + x2).toNatClampNeg x3)))] := hD
      have hP9 := hP.sub (ws' := [(a_this, .inr (1, [.ref a_text, .ref a_row, .ref a_costs])), (a_text, .inr (0, [.ref a_text_items, .int v_text_count])), (a_text_items, .inl (k_text_items, 64, .inl f_text_items)), (a_row, .inr (0, [.ref a_row_items, .int v_row_count])), (a_row_items, .inl (k_row_items, 99, .inl f_row_items)), (a_costs, .inl (k_costs, 195, .inl (upd f_costs ((3 * x1) + x2).toNatClampNeg x3)))]) [0, 1, 2, 3, 4, 5] rfl
      have hD9 := hD.sub (ws' := [(a_this, .inr (1, [.ref a_text, .ref a_row, .ref a_costs])), (a_text, .inr (0, [.ref a_text_items, .int v_text_count])), (a_text_items, .inl (k_text_items, 64, .inl f_text_items)), (a_row, .inr (0, [.ref a_row_items, .int v_row_count])), (a_row_items, .inl (k_row_items, 99, .inl f_row_items)), (a_costs, .inl (k_costs, 195, .inl (upd f_costs ((3 * x1) + x2).toNatClampNeg x3)))]) [0, 1, 2, 3, 4, 5] (by decide) rfl
      exact W.vret hx hb hr (fun t ht hW => ⟨⟨(upd f_costs ((3 * x1) + x2).toNatClampNeg x3), rfl, hw, by rw [ht]; exact hP9, va_K.moved hW.alike hK, hD9⟩, hS.F ht⟩) hS.2.2 d_Pa_setCost_30
-- LineCodes$Packer.fillCosts(I)V
def w_Pa_fillCosts_56 (post : (Nat → Int32) → Prop) (x1 : Int32) (y2 : Int32) : Nat → (Nat → Int32) → Int32 → Prop
  | 0, _, _ => False
  | n + 1, f_costs, y3 => (3 ≤ y3 → post f_costs) ∧ (¬ 3 ≤ y3 → w_Pa_cost (fun r3 => w_Pa_setCost (fun s4 => w_Pa_fillCosts_56 post x1 y2 n s4 (y3 + 1)) f_costs x1 y3 (if (y2 + 1) < r3 then (y2 + 1) else r3)) f_costs x1 y3)
def w_Pa_fillCosts_5 (post : (Nat → Int32) → Prop) (v_text_count : Int32) (f_text_items : Nat → Int32) (x1 : Int32) : Nat → (Nat → Int32) → Int32 → Int32 → Prop
  | 0, _, _, _ => False
  | n + 1, f_costs, y2, y3 => (3 ≤ y3 → ∃ k56, w_Pa_fillCosts_56 post x1 y2 k56 f_costs 0) ∧ (¬ 3 ≤ y3 → w_It_count (fun r5 => (¬ x1 = r5 → w_Pa_costOfTelling (fun r7 => w_Pa_setCost (fun s8 => w_Pa_fillCosts_5 post v_text_count f_text_items x1 n s8 (if r7 < y2 then r7 else y2) (y3 + 1)) f_costs x1 y3 r7) v_text_count f_text_items f_costs x1 y3) ∧ (x1 = r5 → w_Pa_setCost (fun s9 => w_Pa_fillCosts_5 post v_text_count f_text_items x1 n s9 (if 0 < y2 then 0 else y2) (y3 + 1)) f_costs x1 y3 0)) v_text_count)
def w_Pa_fillCosts (post : (Nat → Int32) → Prop) (v_text_count : Int32) (f_text_items : Nat → Int32) (f_costs : Nat → Int32) (x1 : Int32) : Prop := ∃ k5, w_Pa_fillCosts_5 post v_text_count f_text_items x1 k5 f_costs 1000000 0
abbrev rm_Pa_fillCosts : Room := { frames := 3, cells := 0, slots := 0, locals := 65 }
set_option maxHeartbeats 4000000 in
set_option maxRecDepth 100000 in
theorem lp_Pa_fillCosts_56 (l : Launch) (D : va_G) (Z : (Nat → Prop) → State → Heap → Prop) (hz : zk Z) (ad : Nat → Nat) (hk : zs Z ad) {p : Program} {e : Env} {s : State} {m : MethodId} {args : Array Value} {below : List Frame} {meth : Method} {c : Code} {A : Nat → Prop} (a_this : Nat) (a_text : Nat) (a_text_items : Nat) (a_row : Nat) (a_row_items : Nat) (a_costs : Nat) (k_text_items : ClassId) (k_row_items : ClassId) (k_costs : ClassId) (v_text_count : Int32) (f_text_items : Nat → Int32) (v_row_count : Int32) (f_row_items : Nat → Int32) (x1 : Int32) (y2 : Int32) {post : (Nat → Int32) → Prop} (hx : p.tables.exec = Jvm.exec) (hb : c.code = c_Pa_fillCosts) (hml : c.maxLocals = 5) (hr : meth.sig.returnType = (none)) (hts : ∀ w ∈ tb, w.before args s = true) (hown : s.vm.findClass R_Pa = some m.cls) (hlocks : meth.locks = false) (hK : va_K D vwCl [(k_text_items, .int), (k_row_items, .int), (k_costs, .int)] s) (hZ : Z A s s.heap) (hA : ∀ q, s.heap.size ≤ q → A q) : ∀ (n : Nat) (f_costs : Nat → Int32) (y3 : Int32), w_Pa_fillCosts_56 post x1 y2 n f_costs y3 → ∀ (H : Heap) (locs : List Loc), va_P D vwCl [(a_this, .inr (1, [.ref a_text, .ref a_row, .ref a_costs])), (a_text, .inr (0, [.ref a_text_items, .int v_text_count])), (a_text_items, .inl (k_text_items, 64, .inl f_text_items)), (a_row, .inr (0, [.ref a_row_items, .int v_row_count])), (a_row_items, .inl (k_row_items, 99, .inl f_row_items)), (a_costs, .inl (k_costs, 195, .inl f_costs))] H → va_D A [(a_this, .inr (1, [.ref a_text, .ref a_row, .ref a_costs])), (a_text, .inr (0, [.ref a_text_items, .int v_text_count])), (a_text_items, .inl (k_text_items, 64, .inl f_text_items)), (a_row, .inr (0, [.ref a_row_items, .int v_row_count])), (a_row_items, .inl (k_row_items, 99, .inl f_row_items)), (a_costs, .inl (k_costs, 195, .inl f_costs))] → va_S A s.heap H locs → ∀ ls : Array Slot, lv_has ls 5 [(0, .ref a_this), (1, .int x1), (2, .int y2), (3, .int y3)] → W p l e (headSpec ws_Pa_fillCosts rm_Pa_fillCosts).room s m args below meth c H locs 0 0 (MQ below (va_Qv (fun u : (Nat → Int32) => post u) (fun u t => at_ D vwCl [(k_text_items, .int), (k_row_items, .int), (k_costs, .int)] A [(a_this, .inr (1, [.ref a_text, .ref a_row, .ref a_costs])), (a_text, .inr (0, [.ref a_text_items, .int v_text_count])), (a_text_items, .inl (k_text_items, 64, .inl f_text_items)), (a_row, .inr (0, [.ref a_row_items, .int v_row_count])), (a_row_items, .inl (k_row_items, 99, .inl f_row_items)), (a_costs, .inl (k_costs, 195, .inl u))] t) A) args s 0 0 A) (F0 m 56 ls []) := by
  intro n
  induction n with
  | zero =>
    intro f_costs y3 hw
    unfold w_Pa_fillCosts_56 at hw
    exact hw.elim
  | succ n ih =>
    intro f_costs y3 hw H locs hP hD hS ls hl
    unfold w_Pa_fillCosts_56 at hw
    refine lv_iload_n hx hb d_Pa_fillCosts_56 rfl (lv_at hl 3 rfl) ?_
    refine lv_iconst (v := 3) hx hb d_Pa_fillCosts_57 (by decide) ?_
    refine lv_icmp_ge (tgt := 85) hx hb d_Pa_fillCosts_58 (by decide) (fun c2 => ?_) (fun c2 => ?_)
    · have hw := hw.1 c2
      have hP9 := hP.sub (ws' := [(a_this, .inr (1, [.ref a_text, .ref a_row, .ref a_costs])), (a_text, .inr (0, [.ref a_text_items, .int v_text_count])), (a_text_items, .inl (k_text_items, 64, .inl f_text_items)), (a_row, .inr (0, [.ref a_row_items, .int v_row_count])), (a_row_items, .inl (k_row_items, 99, .inl f_row_items)), (a_costs, .inl (k_costs, 195, .inl f_costs))]) [0, 1, 2, 3, 4, 5] rfl
      have hD9 := hD.sub (ws' := [(a_this, .inr (1, [.ref a_text, .ref a_row, .ref a_costs])), (a_text, .inr (0, [.ref a_text_items, .int v_text_count])), (a_text_items, .inl (k_text_items, 64, .inl f_text_items)), (a_row, .inr (0, [.ref a_row_items, .int v_row_count])), (a_row_items, .inl (k_row_items, 99, .inl f_row_items)), (a_costs, .inl (k_costs, 195, .inl f_costs))]) [0, 1, 2, 3, 4, 5] (by decide) rfl
      exact W.vret hx hb hr (fun t ht hW => ⟨⟨f_costs, rfl, hw, by rw [ht]; exact hP9, va_K.moved hW.alike hK, hD9⟩, hS.F ht⟩) hS.2.2 d_Pa_fillCosts_85
    · have hw := hw.2 c2
      refine lv_aload_n hx hb d_Pa_fillCosts_61 rfl (lv_at hl 0 rfl) ?_
      refine lv_iload_n hx hb d_Pa_fillCosts_62 rfl (lv_at hl 1 rfl) ?_
      refine lv_iload_n hx hb d_Pa_fillCosts_63 rfl (lv_at hl 3 rfl) ?_
      refine lv_aload_n hx hb d_Pa_fillCosts_64 rfl (lv_at hl 0 rfl) ?_
      refine lv_iload_n hx hb d_Pa_fillCosts_65 rfl (lv_at hl 1 rfl) ?_
      refine lv_iload_n hx hb d_Pa_fillCosts_66 rfl (lv_at hl 3 rfl) ?_
      refine k_roVi (As := [.int x1, .int y3]) (rest := [.int y3, .int x1, .ref a_this]) hz [0, 1, 2, 3, 4, 5] [0, 1, 2] 0 1 ⟨hx, hb, hml, hown, hts⟩ (met_Pa_cost l D Z hz ad hk a_this a_text a_text_items a_row a_row_items a_costs k_text_items k_row_items k_costs v_text_count f_text_items v_row_count f_row_items f_costs x1 y3 hw) (cwV 2 hts (g_V mm_170 mm_172 mm_2 mm_44 mm_173) rfl rfl rfl hd_Pa_cost ⟨Nat.le_of_ble_eq_true rfl, Nat.le_of_ble_eq_true rfl⟩) hP hK hZ hS rfl rfl rfl rfl rfl hl.1 rfl (Nat.le_of_ble_eq_true rfl) d_Pa_fillCosts_67 ⟨Nat.le_of_ble_eq_true rfl, Nat.le_of_ble_eq_true rfl⟩ (fun r3 hw => ?_)
      refine lv_iload_n hx hb d_Pa_fillCosts_70 rfl (lv_at hl 2 rfl) ?_
      refine lv_iconst (v := 1) hx hb d_Pa_fillCosts_71 (by decide) ?_
      refine lv_iadd hx hb d_Pa_fillCosts_72 ?_
      refine va_mmin hx hb (hml.trans hl.1.symm) hown (hts _ mm_187) (hts _ mm_188) (hts _ mm_43) (hts _ mm_189) (Nat.le_of_ble_eq_true rfl) (Nat.le_of_ble_eq_true rfl) (Nat.le_of_ble_eq_true rfl) (Nat.le_of_ble_eq_true rfl) d_Pa_fillCosts_73 ?_
      refine k_rwVv (As := [.int x1, .int y3, .int (if (y2 + 1) < r3 then (y2 + 1) else r3)]) (rest := []) (wr := []) hz [0, 1, 2, 3, 4, 5] [] [0, 1, 2] 0 1 ⟨hx, hb, hml, hown, hts⟩ (met_Pa_setCost l D Z hz ad hk a_this a_text a_text_items a_row a_row_items a_costs k_text_items k_row_items k_costs v_text_count f_text_items v_row_count f_row_items f_costs x1 y3 (if (y2 + 1) < r3 then (y2 + 1) else r3) _ hw) (cwV 3 hts (g_V mm_183 mm_185 mm_3 mm_44 mm_186) rfl rfl rfl hd_Pa_setCost ⟨Nat.le_of_ble_eq_true rfl, Nat.le_of_ble_eq_true rfl⟩) hP hD hK hZ hS hA rfl rfl rfl rfl rfl (by decide) rfl rfl rfl rfl hl.1 rfl (Nat.le_of_ble_eq_true rfl) d_Pa_fillCosts_76 ⟨Nat.le_of_ble_eq_true rfl, Nat.le_of_ble_eq_true rfl⟩ (fun s4 H locs hw hP hD hS => ?_)
      try dsimp only at hw
      have hP : va_P D vwCl [(a_this, .inr (1, [.ref a_text, .ref a_row, .ref a_costs])), (a_text, .inr (0, [.ref a_text_items, .int v_text_count])), (a_text_items, .inl (k_text_items, 64, .inl f_text_items)), (a_row, .inr (0, [.ref a_row_items, .int v_row_count])), (a_row_items, .inl (k_row_items, 99, .inl f_row_items)), (a_costs, .inl (k_costs, 195, .inl s4))] H := hP
      have hD : va_D A [(a_this, .inr (1, [.ref a_text, .ref a_row, .ref a_costs])), (a_text, .inr (0, [.ref a_text_items, .int v_text_count])), (a_text_items, .inl (k_text_items, 64, .inl f_text_items)), (a_row, .inr (0, [.ref a_row_items, .int v_row_count])), (a_row_items, .inl (k_row_items, 99, .inl f_row_items)), (a_costs, .inl (k_costs, 195, .inl s4))] := hD
      refine lv_iinc (v := (y3 + 1)) (lv' := [(3, .int (y3 + 1)), (0, .ref a_this), (1, .int x1), (2, .int y2)]) hx hb d_Pa_fillCosts_79 hl (k := 3) rfl rfl (by decide) rfl (fun ls hl => ?_)
      refine lv_goto (tgt := 56) hx hb d_Pa_fillCosts_82 (by decide) ?_
      exact ih s4 (y3 + 1) hw _ _ (hP.sub [0, 1, 2, 3, 4, 5] rfl) (hD.sub [0, 1, 2, 3, 4, 5] (by decide) rfl) hS ls (lv_sub hl [1, 2, 3, 0] rfl)
set_option maxHeartbeats 4000000 in
set_option maxRecDepth 100000 in
theorem lp_Pa_fillCosts_5 (l : Launch) (D : va_G) (Z : (Nat → Prop) → State → Heap → Prop) (hz : zk Z) (ad : Nat → Nat) (hk : zs Z ad) {p : Program} {e : Env} {s : State} {m : MethodId} {args : Array Value} {below : List Frame} {meth : Method} {c : Code} {A : Nat → Prop} (a_this : Nat) (a_text : Nat) (a_text_items : Nat) (a_row : Nat) (a_row_items : Nat) (a_costs : Nat) (k_text_items : ClassId) (k_row_items : ClassId) (k_costs : ClassId) (v_text_count : Int32) (f_text_items : Nat → Int32) (v_row_count : Int32) (f_row_items : Nat → Int32) (x1 : Int32) {post : (Nat → Int32) → Prop} (hx : p.tables.exec = Jvm.exec) (hb : c.code = c_Pa_fillCosts) (hml : c.maxLocals = 5) (hr : meth.sig.returnType = (none)) (hts : ∀ w ∈ tb, w.before args s = true) (hown : s.vm.findClass R_Pa = some m.cls) (hlocks : meth.locks = false) (hK : va_K D vwCl [(k_text_items, .int), (k_row_items, .int), (k_costs, .int)] s) (hZ : Z A s s.heap) (hA : ∀ q, s.heap.size ≤ q → A q) : ∀ (n : Nat) (f_costs : Nat → Int32) (y2 : Int32) (y3 : Int32), w_Pa_fillCosts_5 post v_text_count f_text_items x1 n f_costs y2 y3 → ∀ (H : Heap) (locs : List Loc), va_P D vwCl [(a_this, .inr (1, [.ref a_text, .ref a_row, .ref a_costs])), (a_text, .inr (0, [.ref a_text_items, .int v_text_count])), (a_text_items, .inl (k_text_items, 64, .inl f_text_items)), (a_row, .inr (0, [.ref a_row_items, .int v_row_count])), (a_row_items, .inl (k_row_items, 99, .inl f_row_items)), (a_costs, .inl (k_costs, 195, .inl f_costs))] H → va_D A [(a_this, .inr (1, [.ref a_text, .ref a_row, .ref a_costs])), (a_text, .inr (0, [.ref a_text_items, .int v_text_count])), (a_text_items, .inl (k_text_items, 64, .inl f_text_items)), (a_row, .inr (0, [.ref a_row_items, .int v_row_count])), (a_row_items, .inl (k_row_items, 99, .inl f_row_items)), (a_costs, .inl (k_costs, 195, .inl f_costs))] → va_S A s.heap H locs → ∀ ls : Array Slot, lv_has ls 5 [(0, .ref a_this), (1, .int x1), (2, .int y2), (3, .int y3)] → W p l e (headSpec ws_Pa_fillCosts rm_Pa_fillCosts).room s m args below meth c H locs 0 0 (MQ below (va_Qv (fun u : (Nat → Int32) => post u) (fun u t => at_ D vwCl [(k_text_items, .int), (k_row_items, .int), (k_costs, .int)] A [(a_this, .inr (1, [.ref a_text, .ref a_row, .ref a_costs])), (a_text, .inr (0, [.ref a_text_items, .int v_text_count])), (a_text_items, .inl (k_text_items, 64, .inl f_text_items)), (a_row, .inr (0, [.ref a_row_items, .int v_row_count])), (a_row_items, .inl (k_row_items, 99, .inl f_row_items)), (a_costs, .inl (k_costs, 195, .inl u))] t) A) args s 0 0 A) (F0 m 5 ls []) := by
  intro n
  induction n with
  | zero =>
    intro f_costs y2 y3 hw
    unfold w_Pa_fillCosts_5 at hw
    exact hw.elim
  | succ n ih =>
    intro f_costs y2 y3 hw H locs hP hD hS ls hl
    unfold w_Pa_fillCosts_5 at hw
    refine lv_iload_n hx hb d_Pa_fillCosts_5 rfl (lv_at hl 3 rfl) ?_
    refine lv_iconst (v := 3) hx hb d_Pa_fillCosts_6 (by decide) ?_
    refine lv_icmp_ge (tgt := 54) hx hb d_Pa_fillCosts_7 (by decide) (fun c1 => ?_) (fun c1 => ?_)
    · have hw := hw.1 c1
      refine lv_iconst (v := 0) hx hb d_Pa_fillCosts_54 (by decide) ?_
      refine lv_istore_n (lv' := [(3, .int 0), (0, .ref a_this), (1, .int x1), (2, .int y2)]) hx hb d_Pa_fillCosts_55 rfl hl (by decide) rfl (fun ls hl => ?_)
      obtain ⟨n9, hw⟩ := hw
      exact lp_Pa_fillCosts_56 l D Z hz ad hk a_this a_text a_text_items a_row a_row_items a_costs k_text_items k_row_items k_costs v_text_count f_text_items v_row_count f_row_items x1 y2 hx hb hml hr hts hown hlocks hK hZ hA n9 f_costs 0 hw _ _ (hP.sub [0, 1, 2, 3, 4, 5] rfl) (hD.sub [0, 1, 2, 3, 4, 5] (by decide) rfl) hS ls (lv_sub hl [1, 2, 3, 0] rfl)
    · have hw := hw.2 c1
      refine lv_iload_n hx hb d_Pa_fillCosts_10 rfl (lv_at hl 1 rfl) ?_
      refine lv_aload_n hx hb d_Pa_fillCosts_11 rfl (lv_at hl 0 rfl) ?_
      refine va_get (D := D) (ci := 1) (v := .ref a_text) (C := R_Pa) (T := T_Pa) (N := 3) hx hb hts in_Pa hown hK hP 0 rfl rfl 0 (by decide) (hts _ mm_87) (fun _ h9 => h9) rfl d_Pa_fillCosts_12 ?_
      refine k_roVi (As := []) (rest := [.int x1]) hz [1, 2] [0] 1 0 ⟨hx, hb, hml, hown, hts⟩ (met_It_count l D Z hz ad hk a_text a_text_items k_text_items 64 v_text_count f_text_items hw) (cwV 0 hts (g_V mm_153 mm_154 mm_155 mm_42 mm_156) rfl rfl rfl hd_It_count ⟨Nat.le_of_ble_eq_true rfl, Nat.le_of_ble_eq_true rfl⟩) hP hK hZ hS rfl rfl rfl rfl rfl hl.1 rfl (Nat.le_of_ble_eq_true rfl) d_Pa_fillCosts_15 ⟨Nat.le_of_ble_eq_true rfl, Nat.le_of_ble_eq_true rfl⟩ (fun r5 hw => ?_)
      refine lv_icmp_ne (tgt := 25) hx hb d_Pa_fillCosts_18 (by decide) (fun c6 => ?_) (fun c6 => ?_)
      · have hw := hw.1 c6
        refine lv_aload_n hx hb d_Pa_fillCosts_25 rfl (lv_at hl 0 rfl) ?_
        refine lv_iload_n hx hb d_Pa_fillCosts_26 rfl (lv_at hl 1 rfl) ?_
        refine lv_iload_n hx hb d_Pa_fillCosts_27 rfl (lv_at hl 3 rfl) ?_
        refine k_roVi (As := [.int x1, .int y3]) (rest := []) hz [0, 1, 2, 3, 4, 5] [0, 1, 2] 0 1 ⟨hx, hb, hml, hown, hts⟩ (met_Pa_costOfTelling l D Z hz ad hk a_this a_text a_text_items a_row a_row_items a_costs k_text_items k_row_items k_costs v_text_count f_text_items v_row_count f_row_items f_costs x1 y3 hw) (cwV 2 hts (g_V mm_162 mm_164 mm_1 mm_44 mm_165) rfl rfl rfl hd_Pa_costOfTelling ⟨Nat.le_of_ble_eq_true rfl, Nat.le_of_ble_eq_true rfl⟩) hP hK hZ hS rfl rfl rfl rfl rfl hl.1 rfl (Nat.le_of_ble_eq_true rfl) d_Pa_fillCosts_28 ⟨Nat.le_of_ble_eq_true rfl, Nat.le_of_ble_eq_true rfl⟩ (fun r7 hw => ?_)
        refine lv_istore (lv' := [(4, .int r7), (0, .ref a_this), (1, .int x1), (2, .int y2), (3, .int y3)]) hx hb d_Pa_fillCosts_31 hl (by decide) rfl (fun ls hl => ?_)
        refine lv_aload_n hx hb d_Pa_fillCosts_33 rfl (lv_at hl 1 rfl) ?_
        refine lv_iload_n hx hb d_Pa_fillCosts_34 rfl (lv_at hl 2 rfl) ?_
        refine lv_iload_n hx hb d_Pa_fillCosts_35 rfl (lv_at hl 4 rfl) ?_
        refine lv_iload hx hb d_Pa_fillCosts_36 (lv_at hl 0 rfl) ?_
        refine k_rwVv (As := [.int x1, .int y3, .int r7]) (rest := []) (wr := []) hz [0, 1, 2, 3, 4, 5] [] [0, 1, 2] 0 1 ⟨hx, hb, hml, hown, hts⟩ (met_Pa_setCost l D Z hz ad hk a_this a_text a_text_items a_row a_row_items a_costs k_text_items k_row_items k_costs v_text_count f_text_items v_row_count f_row_items f_costs x1 y3 r7 _ hw) (cwV 3 hts (g_V mm_183 mm_185 mm_3 mm_44 mm_186) rfl rfl rfl hd_Pa_setCost ⟨Nat.le_of_ble_eq_true rfl, Nat.le_of_ble_eq_true rfl⟩) hP hD hK hZ hS hA rfl rfl rfl rfl rfl (by decide) rfl rfl rfl rfl hl.1 rfl (Nat.le_of_ble_eq_true rfl) d_Pa_fillCosts_38 ⟨Nat.le_of_ble_eq_true rfl, Nat.le_of_ble_eq_true rfl⟩ (fun s8 H locs hw hP hD hS => ?_)
        try dsimp only at hw
        have hP : va_P D vwCl [(a_this, .inr (1, [.ref a_text, .ref a_row, .ref a_costs])), (a_text, .inr (0, [.ref a_text_items, .int v_text_count])), (a_text_items, .inl (k_text_items, 64, .inl f_text_items)), (a_row, .inr (0, [.ref a_row_items, .int v_row_count])), (a_row_items, .inl (k_row_items, 99, .inl f_row_items)), (a_costs, .inl (k_costs, 195, .inl s8))] H := hP
        have hD : va_D A [(a_this, .inr (1, [.ref a_text, .ref a_row, .ref a_costs])), (a_text, .inr (0, [.ref a_text_items, .int v_text_count])), (a_text_items, .inl (k_text_items, 64, .inl f_text_items)), (a_row, .inr (0, [.ref a_row_items, .int v_row_count])), (a_row_items, .inl (k_row_items, 99, .inl f_row_items)), (a_costs, .inl (k_costs, 195, .inl s8))] := hD
        refine lv_iload_n hx hb d_Pa_fillCosts_41 rfl (lv_at hl 3 rfl) ?_
        refine lv_iload hx hb d_Pa_fillCosts_42 (lv_at hl 0 rfl) ?_
        refine va_mmin hx hb (hml.trans hl.1.symm) hown (hts _ mm_187) (hts _ mm_188) (hts _ mm_43) (hts _ mm_189) (Nat.le_of_ble_eq_true rfl) (Nat.le_of_ble_eq_true rfl) (Nat.le_of_ble_eq_true rfl) (Nat.le_of_ble_eq_true rfl) d_Pa_fillCosts_44 ?_
        refine lv_istore_n (lv' := [(2, .int (if r7 < y2 then r7 else y2)), (4, .int r7), (0, .ref a_this), (1, .int x1), (3, .int y3)]) hx hb d_Pa_fillCosts_47 rfl hl (by decide) rfl (fun ls hl => ?_)
        refine lv_iinc (v := (y3 + 1)) (lv' := [(3, .int (y3 + 1)), (2, .int (if r7 < y2 then r7 else y2)), (4, .int r7), (0, .ref a_this), (1, .int x1)]) hx hb d_Pa_fillCosts_48 hl (k := 4) rfl rfl (by decide) rfl (fun ls hl => ?_)
        refine lv_goto (tgt := 5) hx hb d_Pa_fillCosts_51 (by decide) ?_
        exact ih s8 (if r7 < y2 then r7 else y2) (y3 + 1) hw _ _ (hP.sub [0, 1, 2, 3, 4, 5] rfl) (hD.sub [0, 1, 2, 3, 4, 5] (by decide) rfl) hS ls (lv_sub hl [3, 4, 1, 0] rfl)
      · have hw := hw.2 c6
        refine lv_iconst (v := 0) hx hb d_Pa_fillCosts_21 (by decide) ?_
        refine lv_goto (tgt := 31) hx hb d_Pa_fillCosts_22 (by decide) ?_
        refine lv_istore (lv' := [(4, .int 0), (0, .ref a_this), (1, .int x1), (2, .int y2), (3, .int y3)]) hx hb d_Pa_fillCosts_31 hl (by decide) rfl (fun ls hl => ?_)
        refine lv_aload_n hx hb d_Pa_fillCosts_33 rfl (lv_at hl 1 rfl) ?_
        refine lv_iload_n hx hb d_Pa_fillCosts_34 rfl (lv_at hl 2 rfl) ?_
        refine lv_iload_n hx hb d_Pa_fillCosts_35 rfl (lv_at hl 4 rfl) ?_
        refine lv_iload hx hb d_Pa_fillCosts_36 (lv_at hl 0 rfl) ?_
        refine k_rwVv (As := [.int x1, .int y3, .int 0]) (rest := []) (wr := []) hz [0, 1, 2, 3, 4, 5] [] [0, 1, 2] 0 1 ⟨hx, hb, hml, hown, hts⟩ (met_Pa_setCost l D Z hz ad hk a_this a_text a_text_items a_row a_row_items a_costs k_text_items k_row_items k_costs v_text_count f_text_items v_row_count f_row_items f_costs x1 y3 0 _ hw) (cwV 3 hts (g_V mm_183 mm_185 mm_3 mm_44 mm_186) rfl rfl rfl hd_Pa_setCost ⟨Nat.le_of_ble_eq_true rfl, Nat.le_of_ble_eq_true rfl⟩) hP hD hK hZ hS hA rfl rfl rfl rfl rfl (by decide) rfl rfl rfl rfl hl.1 rfl (Nat.le_of_ble_eq_true rfl) d_Pa_fillCosts_38 ⟨Nat.le_of_ble_eq_true rfl, Nat.le_of_ble_eq_true rfl⟩ (fun s9 H locs hw hP hD hS => ?_)
        try dsimp only at hw
        have hP : va_P D vwCl [(a_this, .inr (1, [.ref a_text, .ref a_row, .ref a_costs])), (a_text, .inr (0, [.ref a_text_items, .int v_text_count])), (a_text_items, .inl (k_text_items, 64, .inl f_text_items)), (a_row, .inr (0, [.ref a_row_items, .int v_row_count])), (a_row_items, .inl (k_row_items, 99, .inl f_row_items)), (a_costs, .inl (k_costs, 195, .inl s9))] H := hP
        have hD : va_D A [(a_this, .inr (1, [.ref a_text, .ref a_row, .ref a_costs])), (a_text, .inr (0, [.ref a_text_items, .int v_text_count])), (a_text_items, .inl (k_text_items, 64, .inl f_text_items)), (a_row, .inr (0, [.ref a_row_items, .int v_row_count])), (a_row_items, .inl (k_row_items, 99, .inl f_row_items)), (a_costs, .inl (k_costs, 195, .inl s9))] := hD
        refine lv_iload_n hx hb d_Pa_fillCosts_41 rfl (lv_at hl 3 rfl) ?_
        refine lv_iload hx hb d_Pa_fillCosts_42 (lv_at hl 0 rfl) ?_
        refine va_mmin hx hb (hml.trans hl.1.symm) hown (hts _ mm_187) (hts _ mm_188) (hts _ mm_43) (hts _ mm_189) (Nat.le_of_ble_eq_true rfl) (Nat.le_of_ble_eq_true rfl) (Nat.le_of_ble_eq_true rfl) (Nat.le_of_ble_eq_true rfl) d_Pa_fillCosts_44 ?_
        refine lv_istore_n (lv' := [(2, .int (if 0 < y2 then 0 else y2)), (4, .int 0), (0, .ref a_this), (1, .int x1), (3, .int y3)]) hx hb d_Pa_fillCosts_47 rfl hl (by decide) rfl (fun ls hl => ?_)
        refine lv_iinc (v := (y3 + 1)) (lv' := [(3, .int (y3 + 1)), (2, .int (if 0 < y2 then 0 else y2)), (4, .int 0), (0, .ref a_this), (1, .int x1)]) hx hb d_Pa_fillCosts_48 hl (k := 4) rfl rfl (by decide) rfl (fun ls hl => ?_)
        refine lv_goto (tgt := 5) hx hb d_Pa_fillCosts_51 (by decide) ?_
        exact ih s9 (if 0 < y2 then 0 else y2) (y3 + 1) hw _ _ (hP.sub [0, 1, 2, 3, 4, 5] rfl) (hD.sub [0, 1, 2, 3, 4, 5] (by decide) rfl) hS ls (lv_sub hl [3, 4, 1, 0] rfl)
set_option maxHeartbeats 4000000 in
set_option maxRecDepth 100000 in
theorem met_Pa_fillCosts (l : Launch) (D : va_G) (Z : (Nat → Prop) → State → Heap → Prop) (hz : zk Z) (ad : Nat → Nat) (hk : zs Z ad) (a_this : Nat) (a_text : Nat) (a_text_items : Nat) (a_row : Nat) (a_row_items : Nat) (a_costs : Nat) (k_text_items : ClassId) (k_row_items : ClassId) (k_costs : ClassId) (v_text_count : Int32) (f_text_items : Nat → Int32) (v_row_count : Int32) (f_row_items : Nat → Int32) (f_costs : Nat → Int32) (x1 : Int32) (sz : Nat) {post : (Nat → Int32) → Prop} (hw : w_Pa_fillCosts post v_text_count f_text_items f_costs x1) : Met l y_Pa_fillCosts ws_Pa_fillCosts rm_Pa_fillCosts (va_Pc [.ref a_this, .int x1] (rw_ D vwCl [(k_text_items, .int), (k_row_items, .int), (k_costs, .int)] [(a_this, .inr (1, [.ref a_text, .ref a_row, .ref a_costs])), (a_text, .inr (0, [.ref a_text_items, .int v_text_count])), (a_text_items, .inl (k_text_items, 64, .inl f_text_items)), (a_row, .inr (0, [.ref a_row_items, .int v_row_count])), (a_row_items, .inl (k_row_items, 99, .inl f_row_items)), (a_costs, .inl (k_costs, 195, .inl f_costs))] (Z) sz)) (va_Qv (fun u : (Nat → Int32) => post u) (fun u t => at_ D vwCl [(k_text_items, .int), (k_row_items, .int), (k_costs, .int)] (va_A [(a_this, .inr (1, [.ref a_text, .ref a_row, .ref a_costs])), (a_text, .inr (0, [.ref a_text_items, .int v_text_count])), (a_text_items, .inl (k_text_items, 64, .inl f_text_items)), (a_row, .inr (0, [.ref a_row_items, .int v_row_count])), (a_row_items, .inl (k_row_items, 99, .inl f_row_items)), (a_costs, .inl (k_costs, 195, .inl f_costs))] sz) [(a_this, .inr (1, [.ref a_text, .ref a_row, .ref a_costs])), (a_text, .inr (0, [.ref a_text_items, .int v_text_count])), (a_text_items, .inl (k_text_items, 64, .inl f_text_items)), (a_row, .inr (0, [.ref a_row_items, .int v_row_count])), (a_row_items, .inl (k_row_items, 99, .inl f_row_items)), (a_costs, .inl (k_costs, 195, .inl u))] t) (va_A [(a_this, .inr (1, [.ref a_text, .ref a_row, .ref a_costs])), (a_text, .inr (0, [.ref a_text_items, .int v_text_count])), (a_text_items, .inl (k_text_items, 64, .inl f_text_items)), (a_row, .inr (0, [.ref a_row_items, .int v_row_count])), (a_row_items, .inl (k_row_items, 99, .inl f_row_items)), (a_costs, .inl (k_costs, 195, .inl f_costs))] sz)) 0 0 (va_A [(a_this, .inr (1, [.ref a_text, .ref a_row, .ref a_costs])), (a_text, .inr (0, [.ref a_text_items, .int v_text_count])), (a_text_items, .inl (k_text_items, 64, .inl f_text_items)), (a_row, .inr (0, [.ref a_row_items, .int v_row_count])), (a_row_items, .inl (k_row_items, 99, .inl f_row_items)), (a_costs, .inl (k_costs, 195, .inl f_costs))] sz) := by
  refine Met.ofW (cc := c_Pa_fillCosts) (maxL := 5) (ret := (none)) (by decide) rfl ?_
  intro p e s m args below meth c s₁ B hml hv
  obtain ⟨rfl, hsz, hP, hK, hD0, hZ⟩ := hv
  have hx := B.exec
  have hb := B.bytes
  have hr := B.returns
  have hts0 := atoms_spec (ws := ws_Pa_fillCosts) B.pre
  have hts := fun (w : Cond) (h : w ∈ tb) => hts0 w (List.mem_cons_of_mem _ h)
  have hown : s.vm.findClass R_Pa = some m.cls := findClass_of_methodNamed B.named
  have hlocks := B.notSynchronized
  subst hsz
  have hD := hD0.self (sz := s.heap.size)
  generalize hAe : va_A [(a_this, .inr (1, [.ref a_text, .ref a_row, .ref a_costs])), (a_text, .inr (0, [.ref a_text_items, .int v_text_count])), (a_text_items, .inl (k_text_items, 64, .inl f_text_items)), (a_row, .inr (0, [.ref a_row_items, .int v_row_count])), (a_row_items, .inl (k_row_items, 99, .inl f_row_items)), (a_costs, .inl (k_costs, 195, .inl f_costs))] s.heap.size = A at hD hZ ⊢
  have hA : ∀ q : Nat, s.heap.size ≤ q → A q := fun q h => by rw [← hAe]; exact Or.inr h
  have hS : va_S A s.heap s.heap [] := va_S.rf
  have hl := lv_entry ([.ref a_this, .int x1]) (n := 5) (Nat.le_of_ble_eq_true rfl)
  rw [lg_entry_eq]
  generalize (lg_sl ([.ref a_this, .int x1]) ++ List.replicate (5 - (lg_sl ([.ref a_this, .int x1])).length) Slot.unset).toArray = ls at hl ⊢
  have hl : lv_has ls 5 [(0, .ref a_this), (1, .int x1)] := hl
  unfold w_Pa_fillCosts at hw
  refine lv_ldc (v := 1000000) hx hb hown (hts _ mm_161) d_Pa_fillCosts_0 ?_
  refine lv_istore_n (lv' := [(2, .int 1000000), (0, .ref a_this), (1, .int x1)]) hx hb d_Pa_fillCosts_2 rfl hl (by decide) rfl (fun ls hl => ?_)
  refine lv_iconst (v := 0) hx hb d_Pa_fillCosts_3 (by decide) ?_
  refine lv_istore_n (lv' := [(3, .int 0), (2, .int 1000000), (0, .ref a_this), (1, .int x1)]) hx hb d_Pa_fillCosts_4 rfl hl (by decide) rfl (fun ls hl => ?_)
  obtain ⟨n9, hw⟩ := hw
  exact lp_Pa_fillCosts_5 l D Z hz ad hk a_this a_text a_text_items a_row a_row_items a_costs k_text_items k_row_items k_costs v_text_count f_text_items v_row_count f_row_items x1 hx hb hml hr hts hown hlocks hK hZ hA n9 f_costs 1000000 0 hw _ _ (hP.sub [0, 1, 2, 3, 4, 5] rfl) (hD.sub [0, 1, 2, 3, 4, 5] (by decide) rfl) hS ls (lv_sub hl [2, 3, 1, 0] rfl)
-- LineCodes$Packer.cheapestFirstSet()I
def w_Pa_cheapestFirstSet_4 (post : Int32 → Prop) (f_costs : Nat → Int32) : Nat → Int32 → Int32 → Prop
  | 0, _, _ => False
  | n + 1, y1, y2 => (3 ≤ y2 → post y1) ∧ (¬ 3 ≤ y2 → w_Pa_cost (fun r2 => w_Pa_cost (fun r3 => (r3 ≤ r2 → w_Pa_cheapestFirstSet_4 post f_costs n y1 (y2 + 1)) ∧ (¬ r3 ≤ r2 → w_Pa_cheapestFirstSet_4 post f_costs n y2 (y2 + 1))) f_costs 0 y1) f_costs 0 y2)
def w_Pa_cheapestFirstSet (post : Int32 → Prop) (f_costs : Nat → Int32) : Prop := ∃ k4, w_Pa_cheapestFirstSet_4 post f_costs k4 0 1
abbrev rm_Pa_cheapestFirstSet : Room := { frames := 1, cells := 0, slots := 0, locals := 23 }
set_option maxHeartbeats 4000000 in
set_option maxRecDepth 100000 in
theorem lp_Pa_cheapestFirstSet_4 (l : Launch) (D : va_G) (Z : (Nat → Prop) → State → Heap → Prop) (hz : zk Z) (ad : Nat → Nat) (hk : zs Z ad) {p : Program} {e : Env} {s : State} {m : MethodId} {args : Array Value} {below : List Frame} {meth : Method} {c : Code} (a_this : Nat) (a_text : Nat) (a_text_items : Nat) (a_row : Nat) (a_row_items : Nat) (a_costs : Nat) (k_text_items : ClassId) (k_row_items : ClassId) (k_costs : ClassId) (v_text_count : Int32) (f_text_items : Nat → Int32) (v_row_count : Int32) (f_row_items : Nat → Int32) (f_costs : Nat → Int32) {post : Int32 → Prop} (hx : p.tables.exec = Jvm.exec) (hb : c.code = c_Pa_cheapestFirstSet) (hml : c.maxLocals = 3) (hr : meth.sig.returnType = (some .int)) (hts : ∀ w ∈ tb, w.before args s = true) (hown : s.vm.findClass R_Pa = some m.cls) (hlocks : meth.locks = false) (hK : va_K D vwCl [(k_text_items, .int), (k_row_items, .int), (k_costs, .int)] s) (hZ : Z (fun _ => False) s s.heap) (hP : va_P D vwCl [(a_this, .inr (1, [.ref a_text, .ref a_row, .ref a_costs])), (a_text, .inr (0, [.ref a_text_items, .int v_text_count])), (a_text_items, .inl (k_text_items, 64, .inl f_text_items)), (a_row, .inr (0, [.ref a_row_items, .int v_row_count])), (a_row_items, .inl (k_row_items, 99, .inl f_row_items)), (a_costs, .inl (k_costs, 195, .inl f_costs))] s.heap) (hS : va_S (fun _ => False) s.heap s.heap []) : ∀ (n : Nat) (y1 : Int32) (y2 : Int32), w_Pa_cheapestFirstSet_4 post f_costs n y1 y2 → ∀ ls : Array Slot, lv_has ls 3 [(0, .ref a_this), (1, .int y1), (2, .int y2)] → W p l e (headSpec ws_Pa_cheapestFirstSet rm_Pa_cheapestFirstSet).room s m args below meth c s.heap [] 0 0 (MQ below (vp_Si post) args s 0 0 (fun _ => False)) (F0 m 4 ls []) := by
  intro n
  induction n with
  | zero =>
    intro y1 y2 hw
    unfold w_Pa_cheapestFirstSet_4 at hw
    exact hw.elim
  | succ n ih =>
    intro y1 y2 hw ls hl
    unfold w_Pa_cheapestFirstSet_4 at hw
    refine lv_iload_n hx hb d_Pa_cheapestFirstSet_4 rfl (lv_at hl 2 rfl) ?_
    refine lv_iconst (v := 3) hx hb d_Pa_cheapestFirstSet_5 (by decide) ?_
    refine lv_icmp_ge (tgt := 32) hx hb d_Pa_cheapestFirstSet_6 (by decide) (fun c1 => ?_) (fun c1 => ?_)
    · have hw := hw.1 c1
      refine lv_iload_n hx hb d_Pa_cheapestFirstSet_32 rfl (lv_at hl 1 rfl) ?_
      exact W.iret (v := y1) hx hb hr (fun t ht hW => ⟨y1, rfl, hw, ht⟩) hS.2.2 d_Pa_cheapestFirstSet_33
    · have hw := hw.2 c1
      refine lv_aload_n hx hb d_Pa_cheapestFirstSet_9 rfl (lv_at hl 0 rfl) ?_
      refine lv_iconst (v := 0) hx hb d_Pa_cheapestFirstSet_10 (by decide) ?_
      refine lv_iload_n hx hb d_Pa_cheapestFirstSet_11 rfl (lv_at hl 2 rfl) ?_
      refine k_roVi (As := [.int 0, .int y2]) (rest := []) hz [0, 1, 2, 3, 4, 5] [0, 1, 2] 0 1 ⟨hx, hb, hml, hown, hts⟩ (met_Pa_cost l D Z hz ad hk a_this a_text a_text_items a_row a_row_items a_costs k_text_items k_row_items k_costs v_text_count f_text_items v_row_count f_row_items f_costs 0 y2 hw) (cwV 2 hts (g_V mm_170 mm_172 mm_2 mm_44 mm_173) rfl rfl rfl hd_Pa_cost ⟨Nat.le_of_ble_eq_true rfl, Nat.le_of_ble_eq_true rfl⟩) hP hK hZ hS rfl rfl rfl rfl rfl hl.1 rfl (Nat.le_of_ble_eq_true rfl) d_Pa_cheapestFirstSet_12 ⟨Nat.le_of_ble_eq_true rfl, Nat.le_of_ble_eq_true rfl⟩ (fun r2 hw => ?_)
      refine lv_aload_n hx hb d_Pa_cheapestFirstSet_15 rfl (lv_at hl 0 rfl) ?_
      refine lv_iconst (v := 0) hx hb d_Pa_cheapestFirstSet_16 (by decide) ?_
      refine lv_iload_n hx hb d_Pa_cheapestFirstSet_17 rfl (lv_at hl 1 rfl) ?_
      refine k_roVi (As := [.int 0, .int y1]) (rest := [.int r2]) hz [0, 1, 2, 3, 4, 5] [0, 1, 2] 0 1 ⟨hx, hb, hml, hown, hts⟩ (met_Pa_cost l D Z hz ad hk a_this a_text a_text_items a_row a_row_items a_costs k_text_items k_row_items k_costs v_text_count f_text_items v_row_count f_row_items f_costs 0 y1 hw) (cwV 2 hts (g_V mm_170 mm_172 mm_2 mm_44 mm_173) rfl rfl rfl hd_Pa_cost ⟨Nat.le_of_ble_eq_true rfl, Nat.le_of_ble_eq_true rfl⟩) hP hK hZ hS rfl rfl rfl rfl rfl hl.1 rfl (Nat.le_of_ble_eq_true rfl) d_Pa_cheapestFirstSet_18 ⟨Nat.le_of_ble_eq_true rfl, Nat.le_of_ble_eq_true rfl⟩ (fun r3 hw => ?_)
      refine lv_icmp_ge (tgt := 26) hx hb d_Pa_cheapestFirstSet_21 (by decide) (fun c4 => ?_) (fun c4 => ?_)
      · have hw := hw.1 c4
        refine lv_iinc (v := (y2 + 1)) (lv' := [(2, .int (y2 + 1)), (0, .ref a_this), (1, .int y1)]) hx hb d_Pa_cheapestFirstSet_26 hl (k := 2) rfl rfl (by decide) rfl (fun ls hl => ?_)
        refine lv_goto (tgt := 4) hx hb d_Pa_cheapestFirstSet_29 (by decide) ?_
        exact ih y1 (y2 + 1) hw ls (lv_sub hl [1, 2, 0] rfl)
      · have hw := hw.2 c4
        refine lv_iload_n hx hb d_Pa_cheapestFirstSet_24 rfl (lv_at hl 2 rfl) ?_
        refine lv_istore_n (lv' := [(1, .int y2), (0, .ref a_this), (2, .int y2)]) hx hb d_Pa_cheapestFirstSet_25 rfl hl (by decide) rfl (fun ls hl => ?_)
        refine lv_iinc (v := (y2 + 1)) (lv' := [(2, .int (y2 + 1)), (1, .int y2), (0, .ref a_this)]) hx hb d_Pa_cheapestFirstSet_26 hl (k := 2) rfl rfl (by decide) rfl (fun ls hl => ?_)
        refine lv_goto (tgt := 4) hx hb d_Pa_cheapestFirstSet_29 (by decide) ?_
        exact ih y2 (y2 + 1) hw ls (lv_sub hl [2, 1, 0] rfl)
set_option maxHeartbeats 4000000 in
set_option maxRecDepth 100000 in
theorem met_Pa_cheapestFirstSet (l : Launch) (D : va_G) (Z : (Nat → Prop) → State → Heap → Prop) (hz : zk Z) (ad : Nat → Nat) (hk : zs Z ad) (a_this : Nat) (a_text : Nat) (a_text_items : Nat) (a_row : Nat) (a_row_items : Nat) (a_costs : Nat) (k_text_items : ClassId) (k_row_items : ClassId) (k_costs : ClassId) (v_text_count : Int32) (f_text_items : Nat → Int32) (v_row_count : Int32) (f_row_items : Nat → Int32) (f_costs : Nat → Int32) {post : Int32 → Prop} (hw : w_Pa_cheapestFirstSet post f_costs) : Met l y_Pa_cheapestFirstSet ws_Pa_cheapestFirstSet rm_Pa_cheapestFirstSet (va_Pc [.ref a_this] (ro_ D vwCl [(k_text_items, .int), (k_row_items, .int), (k_costs, .int)] [(a_this, .inr (1, [.ref a_text, .ref a_row, .ref a_costs])), (a_text, .inr (0, [.ref a_text_items, .int v_text_count])), (a_text_items, .inl (k_text_items, 64, .inl f_text_items)), (a_row, .inr (0, [.ref a_row_items, .int v_row_count])), (a_row_items, .inl (k_row_items, 99, .inl f_row_items)), (a_costs, .inl (k_costs, 195, .inl f_costs))] (Z))) (vp_Si post) 0 0 (fun _ => False) := by
  refine Met.ofW (cc := c_Pa_cheapestFirstSet) (maxL := 3) (ret := (some .int)) (by decide) rfl ?_
  intro p e s m args below meth c s₁ B hml hv
  obtain ⟨rfl, hP, hK, hZ⟩ := hv
  have hx := B.exec
  have hb := B.bytes
  have hr := B.returns
  have hts0 := atoms_spec (ws := ws_Pa_cheapestFirstSet) B.pre
  have hts := fun (w : Cond) (h : w ∈ tb) => hts0 w (List.mem_cons_of_mem _ h)
  have hown : s.vm.findClass R_Pa = some m.cls := findClass_of_methodNamed B.named
  have hlocks := B.notSynchronized
  have hS : va_S (fun _ => False) s.heap s.heap [] := va_S.rf
  have hl := lv_entry ([.ref a_this]) (n := 3) (Nat.le_of_ble_eq_true rfl)
  rw [lg_entry_eq]
  generalize (lg_sl ([.ref a_this]) ++ List.replicate (3 - (lg_sl ([.ref a_this])).length) Slot.unset).toArray = ls at hl ⊢
  have hl : lv_has ls 3 [(0, .ref a_this)] := hl
  unfold w_Pa_cheapestFirstSet at hw
  refine lv_iconst (v := 0) hx hb d_Pa_cheapestFirstSet_0 (by decide) ?_
  refine lv_istore_n (lv' := [(1, .int 0), (0, .ref a_this)]) hx hb d_Pa_cheapestFirstSet_1 rfl hl (by decide) rfl (fun ls hl => ?_)
  refine lv_iconst (v := 1) hx hb d_Pa_cheapestFirstSet_2 (by decide) ?_
  refine lv_istore_n (lv' := [(2, .int 1), (1, .int 0), (0, .ref a_this)]) hx hb d_Pa_cheapestFirstSet_3 rfl hl (by decide) rfl (fun ls hl => ?_)
  obtain ⟨n9, hw⟩ := hw
  exact lp_Pa_cheapestFirstSet_4 l D Z hz ad hk a_this a_text a_text_items a_row a_row_items a_costs k_text_items k_row_items k_costs v_text_count f_text_items v_row_count f_row_items f_costs hx hb hml hr hts hown hlocks hK hZ hP hS n9 0 1 hw ls (lv_sub hl [2, 1, 0] rfl)
-- LineCodes$Packer.nextSet(II)I
def w_Pa_nextSet_44 (post : Int32 → Prop) (f_costs : Nat → Int32) (x1 : Int32) (x2 : Int32) : Nat → Int32 → Prop
  | 0, _ => False
  | n + 1, y4 => (y4 < 0 → post x2) ∧ (¬ y4 < 0 → (y4 = x2 → w_Pa_nextSet_44 post f_costs x1 x2 n (y4 + (-1))) ∧ (¬ y4 = x2 → w_Pa_cost (fun r8 => w_Pa_cost (fun r9 => (¬ (1 + r8) = r9 → w_Pa_nextSet_44 post f_costs x1 x2 n (y4 + (-1))) ∧ ((1 + r8) = r9 → post y4)) f_costs x1 x2) f_costs x1 y4))
def w_Pa_nextSet (post : Int32 → Prop) (v_text_count : Int32) (f_text_items : Nat → Int32) (f_costs : Nat → Int32) (x1 : Int32) (x2 : Int32) : Prop := w_It_at (fun r1 => (¬ r1 = 128 → w_Pa_costOfTelling (fun r3 => w_Pa_cost (fun r4 => (¬ r3 = r4 → ∃ k44, w_Pa_nextSet_44 post f_costs x1 x2 k44 2) ∧ (r3 = r4 → post x2)) f_costs x1 x2) v_text_count f_text_items f_costs x1 x2) ∧ (r1 = 128 → ∃ k44, w_Pa_nextSet_44 post f_costs x1 x2 k44 2)) 64 v_text_count f_text_items x1
abbrev rm_Pa_nextSet : Room := { frames := 3, cells := 0, slots := 0, locals := 65 }
set_option maxHeartbeats 4000000 in
set_option maxRecDepth 100000 in
theorem lp_Pa_nextSet_44 (l : Launch) (D : va_G) (Z : (Nat → Prop) → State → Heap → Prop) (hz : zk Z) (ad : Nat → Nat) (hk : zs Z ad) {p : Program} {e : Env} {s : State} {m : MethodId} {args : Array Value} {below : List Frame} {meth : Method} {c : Code} (a_this : Nat) (a_text : Nat) (a_text_items : Nat) (a_row : Nat) (a_row_items : Nat) (a_costs : Nat) (k_text_items : ClassId) (k_row_items : ClassId) (k_costs : ClassId) (v_text_count : Int32) (f_text_items : Nat → Int32) (v_row_count : Int32) (f_row_items : Nat → Int32) (f_costs : Nat → Int32) (x1 : Int32) (x2 : Int32) {post : Int32 → Prop} (hx : p.tables.exec = Jvm.exec) (hb : c.code = c_Pa_nextSet) (hml : c.maxLocals = 5) (hr : meth.sig.returnType = (some .int)) (hts : ∀ w ∈ tb, w.before args s = true) (hown : s.vm.findClass R_Pa = some m.cls) (hlocks : meth.locks = false) (hK : va_K D vwCl [(k_text_items, .int), (k_row_items, .int), (k_costs, .int)] s) (hZ : Z (fun _ => False) s s.heap) (hP : va_P D vwCl [(a_this, .inr (1, [.ref a_text, .ref a_row, .ref a_costs])), (a_text, .inr (0, [.ref a_text_items, .int v_text_count])), (a_text_items, .inl (k_text_items, 64, .inl f_text_items)), (a_row, .inr (0, [.ref a_row_items, .int v_row_count])), (a_row_items, .inl (k_row_items, 99, .inl f_row_items)), (a_costs, .inl (k_costs, 195, .inl f_costs))] s.heap) (hS : va_S (fun _ => False) s.heap s.heap []) : ∀ (n : Nat) (y4 : Int32), w_Pa_nextSet_44 post f_costs x1 x2 n y4 → ∀ ls : Array Slot, lv_has ls 5 [(0, .ref a_this), (1, .int x1), (2, .int x2), (4, .int y4)] → W p l e (headSpec ws_Pa_nextSet rm_Pa_nextSet).room s m args below meth c s.heap [] 0 0 (MQ below (vp_Si post) args s 0 0 (fun _ => False)) (F0 m 44 ls []) := by
  intro n
  induction n with
  | zero =>
    intro y4 hw
    unfold w_Pa_nextSet_44 at hw
    exact hw.elim
  | succ n ih =>
    intro y4 hw ls hl
    unfold w_Pa_nextSet_44 at hw
    refine lv_iload hx hb d_Pa_nextSet_44 (lv_at hl 3 rfl) ?_
    refine lv_if_lt (tgt := 82) hx hb d_Pa_nextSet_46 (by decide) (fun c6 => ?_) (fun c6 => ?_)
    · have hw := hw.1 c6
      refine lv_iload_n hx hb d_Pa_nextSet_82 rfl (lv_at hl 2 rfl) ?_
      exact W.iret (v := x2) hx hb hr (fun t ht hW => ⟨x2, rfl, hw, ht⟩) hS.2.2 d_Pa_nextSet_83
    · have hw := hw.2 c6
      refine lv_iload hx hb d_Pa_nextSet_49 (lv_at hl 3 rfl) ?_
      refine lv_iload_n hx hb d_Pa_nextSet_51 rfl (lv_at hl 2 rfl) ?_
      refine lv_icmp_eq (tgt := 76) hx hb d_Pa_nextSet_52 (by decide) (fun c7 => ?_) (fun c7 => ?_)
      · have hw := hw.1 c7
        refine lv_iinc (v := (y4 + (-1))) (lv' := [(4, .int (y4 + (-1))), (0, .ref a_this), (1, .int x1), (2, .int x2)]) hx hb d_Pa_nextSet_76 hl (k := 3) rfl rfl (by decide) rfl (fun ls hl => ?_)
        refine lv_goto (tgt := 44) hx hb d_Pa_nextSet_79 (by decide) ?_
        exact ih (y4 + (-1)) hw ls (lv_sub hl [1, 2, 3, 0] rfl)
      · have hw := hw.2 c7
        refine lv_iconst (v := 1) hx hb d_Pa_nextSet_55 (by decide) ?_
        refine lv_aload_n hx hb d_Pa_nextSet_56 rfl (lv_at hl 0 rfl) ?_
        refine lv_iload_n hx hb d_Pa_nextSet_57 rfl (lv_at hl 1 rfl) ?_
        refine lv_iload hx hb d_Pa_nextSet_58 (lv_at hl 3 rfl) ?_
        refine k_roVi (As := [.int x1, .int y4]) (rest := [.int 1]) hz [0, 1, 2, 3, 4, 5] [0, 1, 2] 0 1 ⟨hx, hb, hml, hown, hts⟩ (met_Pa_cost l D Z hz ad hk a_this a_text a_text_items a_row a_row_items a_costs k_text_items k_row_items k_costs v_text_count f_text_items v_row_count f_row_items f_costs x1 y4 hw) (cwV 2 hts (g_V mm_170 mm_172 mm_2 mm_44 mm_173) rfl rfl rfl hd_Pa_cost ⟨Nat.le_of_ble_eq_true rfl, Nat.le_of_ble_eq_true rfl⟩) hP hK hZ hS rfl rfl rfl rfl rfl hl.1 rfl (Nat.le_of_ble_eq_true rfl) d_Pa_nextSet_60 ⟨Nat.le_of_ble_eq_true rfl, Nat.le_of_ble_eq_true rfl⟩ (fun r8 hw => ?_)
        refine lv_iadd hx hb d_Pa_nextSet_63 ?_
        refine lv_aload_n hx hb d_Pa_nextSet_64 rfl (lv_at hl 0 rfl) ?_
        refine lv_iload_n hx hb d_Pa_nextSet_65 rfl (lv_at hl 1 rfl) ?_
        refine lv_iload_n hx hb d_Pa_nextSet_66 rfl (lv_at hl 2 rfl) ?_
        refine k_roVi (As := [.int x1, .int x2]) (rest := [.int (1 + r8)]) hz [0, 1, 2, 3, 4, 5] [0, 1, 2] 0 1 ⟨hx, hb, hml, hown, hts⟩ (met_Pa_cost l D Z hz ad hk a_this a_text a_text_items a_row a_row_items a_costs k_text_items k_row_items k_costs v_text_count f_text_items v_row_count f_row_items f_costs x1 x2 hw) (cwV 2 hts (g_V mm_170 mm_172 mm_2 mm_44 mm_173) rfl rfl rfl hd_Pa_cost ⟨Nat.le_of_ble_eq_true rfl, Nat.le_of_ble_eq_true rfl⟩) hP hK hZ hS rfl rfl rfl rfl rfl hl.1 rfl (Nat.le_of_ble_eq_true rfl) d_Pa_nextSet_67 ⟨Nat.le_of_ble_eq_true rfl, Nat.le_of_ble_eq_true rfl⟩ (fun r9 hw => ?_)
        refine lv_icmp_ne (tgt := 76) hx hb d_Pa_nextSet_70 (by decide) (fun c10 => ?_) (fun c10 => ?_)
        · have hw := hw.1 c10
          refine lv_iinc (v := (y4 + (-1))) (lv' := [(4, .int (y4 + (-1))), (0, .ref a_this), (1, .int x1), (2, .int x2)]) hx hb d_Pa_nextSet_76 hl (k := 3) rfl rfl (by decide) rfl (fun ls hl => ?_)
          refine lv_goto (tgt := 44) hx hb d_Pa_nextSet_79 (by decide) ?_
          exact ih (y4 + (-1)) hw ls (lv_sub hl [1, 2, 3, 0] rfl)
        · have hw := hw.2 c10
          refine lv_iload hx hb d_Pa_nextSet_73 (lv_at hl 3 rfl) ?_
          exact W.iret (v := y4) hx hb hr (fun t ht hW => ⟨y4, rfl, hw, ht⟩) hS.2.2 d_Pa_nextSet_75
set_option maxHeartbeats 4000000 in
set_option maxRecDepth 100000 in
theorem met_Pa_nextSet (l : Launch) (D : va_G) (Z : (Nat → Prop) → State → Heap → Prop) (hz : zk Z) (ad : Nat → Nat) (hk : zs Z ad) (a_this : Nat) (a_text : Nat) (a_text_items : Nat) (a_row : Nat) (a_row_items : Nat) (a_costs : Nat) (k_text_items : ClassId) (k_row_items : ClassId) (k_costs : ClassId) (v_text_count : Int32) (f_text_items : Nat → Int32) (v_row_count : Int32) (f_row_items : Nat → Int32) (f_costs : Nat → Int32) (x1 : Int32) (x2 : Int32) {post : Int32 → Prop} (hw : w_Pa_nextSet post v_text_count f_text_items f_costs x1 x2) : Met l y_Pa_nextSet ws_Pa_nextSet rm_Pa_nextSet (va_Pc [.ref a_this, .int x1, .int x2] (ro_ D vwCl [(k_text_items, .int), (k_row_items, .int), (k_costs, .int)] [(a_this, .inr (1, [.ref a_text, .ref a_row, .ref a_costs])), (a_text, .inr (0, [.ref a_text_items, .int v_text_count])), (a_text_items, .inl (k_text_items, 64, .inl f_text_items)), (a_row, .inr (0, [.ref a_row_items, .int v_row_count])), (a_row_items, .inl (k_row_items, 99, .inl f_row_items)), (a_costs, .inl (k_costs, 195, .inl f_costs))] (Z))) (vp_Si post) 0 0 (fun _ => False) := by
  refine Met.ofW (cc := c_Pa_nextSet) (maxL := 5) (ret := (some .int)) (by decide) rfl ?_
  intro p e s m args below meth c s₁ B hml hv
  obtain ⟨rfl, hP, hK, hZ⟩ := hv
  have hx := B.exec
  have hb := B.bytes
  have hr := B.returns
  have hts0 := atoms_spec (ws := ws_Pa_nextSet) B.pre
  have hts := fun (w : Cond) (h : w ∈ tb) => hts0 w (List.mem_cons_of_mem _ h)
  have hown : s.vm.findClass R_Pa = some m.cls := findClass_of_methodNamed B.named
  have hlocks := B.notSynchronized
  have hS : va_S (fun _ => False) s.heap s.heap [] := va_S.rf
  have hl := lv_entry ([.ref a_this, .int x1, .int x2]) (n := 5) (Nat.le_of_ble_eq_true rfl)
  rw [lg_entry_eq]
  generalize (lg_sl ([.ref a_this, .int x1, .int x2]) ++ List.replicate (5 - (lg_sl ([.ref a_this, .int x1, .int x2])).length) Slot.unset).toArray = ls at hl ⊢
  have hl : lv_has ls 5 [(0, .ref a_this), (1, .int x1), (2, .int x2)] := hl
  unfold w_Pa_nextSet at hw
  refine lv_aload_n hx hb d_Pa_nextSet_0 rfl (lv_at hl 0 rfl) ?_
  refine va_get (D := D) (ci := 1) (v := .ref a_text) (C := R_Pa) (T := T_Pa) (N := 3) hx hb hts in_Pa hown hK hP 0 rfl rfl 0 (by decide) (hts _ mm_87) (fun _ h9 => h9) rfl d_Pa_nextSet_1 ?_
  refine lv_iload_n hx hb d_Pa_nextSet_4 rfl (lv_at hl 1 rfl) ?_
  refine k_roVi (As := [.int x1]) (rest := []) hz [1, 2] [0] 1 0 ⟨hx, hb, hml, hown, hts⟩ (met_It_at l D Z hz ad hk a_text a_text_items k_text_items 64 v_text_count f_text_items x1 hw) (cwV 1 hts (g_V mm_166 mm_167 mm_168 mm_42 mm_169) rfl rfl rfl hd_It_at ⟨Nat.le_of_ble_eq_true rfl, Nat.le_of_ble_eq_true rfl⟩) hP hK hZ hS rfl rfl rfl rfl rfl hl.1 rfl (Nat.le_of_ble_eq_true rfl) d_Pa_nextSet_5 ⟨Nat.le_of_ble_eq_true rfl, Nat.le_of_ble_eq_true rfl⟩ (fun r1 hw => ?_)
  refine lv_sipush (v := 128) hx hb d_Pa_nextSet_8 (by decide) ?_
  refine lv_icmp_ne (tgt := 18) hx hb d_Pa_nextSet_11 (by decide) (fun c2 => ?_) (fun c2 => ?_)
  · have hw := hw.1 c2
    refine lv_iconst (v := 0) hx hb d_Pa_nextSet_18 (by decide) ?_
    refine lv_istore_n (lv' := [(3, .int 0), (0, .ref a_this), (1, .int x1), (2, .int x2)]) hx hb d_Pa_nextSet_19 rfl hl (by decide) rfl (fun ls hl => ?_)
    refine lv_iload_n hx hb d_Pa_nextSet_20 rfl (lv_at hl 0 rfl) ?_
    refine lv_if_ne (tgt := 41) hx hb d_Pa_nextSet_21 (by decide) (fun c9 => absurd c9 (by decide)) (fun _ => ?_)
    refine lv_aload_n hx hb d_Pa_nextSet_24 rfl (lv_at hl 1 rfl) ?_
    refine lv_iload_n hx hb d_Pa_nextSet_25 rfl (lv_at hl 2 rfl) ?_
    refine lv_iload_n hx hb d_Pa_nextSet_26 rfl (lv_at hl 3 rfl) ?_
    refine k_roVi (As := [.int x1, .int x2]) (rest := []) hz [0, 1, 2, 3, 4, 5] [0, 1, 2] 0 1 ⟨hx, hb, hml, hown, hts⟩ (met_Pa_costOfTelling l D Z hz ad hk a_this a_text a_text_items a_row a_row_items a_costs k_text_items k_row_items k_costs v_text_count f_text_items v_row_count f_row_items f_costs x1 x2 hw) (cwV 2 hts (g_V mm_162 mm_164 mm_1 mm_44 mm_165) rfl rfl rfl hd_Pa_costOfTelling ⟨Nat.le_of_ble_eq_true rfl, Nat.le_of_ble_eq_true rfl⟩) hP hK hZ hS rfl rfl rfl rfl rfl hl.1 rfl (Nat.le_of_ble_eq_true rfl) d_Pa_nextSet_27 ⟨Nat.le_of_ble_eq_true rfl, Nat.le_of_ble_eq_true rfl⟩ (fun r3 hw => ?_)
    refine lv_aload_n hx hb d_Pa_nextSet_30 rfl (lv_at hl 1 rfl) ?_
    refine lv_iload_n hx hb d_Pa_nextSet_31 rfl (lv_at hl 2 rfl) ?_
    refine lv_iload_n hx hb d_Pa_nextSet_32 rfl (lv_at hl 3 rfl) ?_
    refine k_roVi (As := [.int x1, .int x2]) (rest := [.int r3]) hz [0, 1, 2, 3, 4, 5] [0, 1, 2] 0 1 ⟨hx, hb, hml, hown, hts⟩ (met_Pa_cost l D Z hz ad hk a_this a_text a_text_items a_row a_row_items a_costs k_text_items k_row_items k_costs v_text_count f_text_items v_row_count f_row_items f_costs x1 x2 hw) (cwV 2 hts (g_V mm_170 mm_172 mm_2 mm_44 mm_173) rfl rfl rfl hd_Pa_cost ⟨Nat.le_of_ble_eq_true rfl, Nat.le_of_ble_eq_true rfl⟩) hP hK hZ hS rfl rfl rfl rfl rfl hl.1 rfl (Nat.le_of_ble_eq_true rfl) d_Pa_nextSet_33 ⟨Nat.le_of_ble_eq_true rfl, Nat.le_of_ble_eq_true rfl⟩ (fun r4 hw => ?_)
    refine lv_icmp_ne (tgt := 41) hx hb d_Pa_nextSet_36 (by decide) (fun c5 => ?_) (fun c5 => ?_)
    · have hw := hw.1 c5
      refine lv_iconst (v := 2) hx hb d_Pa_nextSet_41 (by decide) ?_
      refine lv_istore (lv' := [(4, .int 2), (3, .int 0), (0, .ref a_this), (1, .int x1), (2, .int x2)]) hx hb d_Pa_nextSet_42 hl (by decide) rfl (fun ls hl => ?_)
      obtain ⟨n9, hw⟩ := hw
      exact lp_Pa_nextSet_44 l D Z hz ad hk a_this a_text a_text_items a_row a_row_items a_costs k_text_items k_row_items k_costs v_text_count f_text_items v_row_count f_row_items f_costs x1 x2 hx hb hml hr hts hown hlocks hK hZ hP hS n9 2 hw ls (lv_sub hl [2, 3, 4, 0] rfl)
    · have hw := hw.2 c5
      refine lv_iload_n hx hb d_Pa_nextSet_39 rfl (lv_at hl 3 rfl) ?_
      exact W.iret (v := x2) hx hb hr (fun t ht hW => ⟨x2, rfl, hw, ht⟩) hS.2.2 d_Pa_nextSet_40
  · have hw := hw.2 c2
    refine lv_iconst (v := 1) hx hb d_Pa_nextSet_14 (by decide) ?_
    refine lv_goto (tgt := 19) hx hb d_Pa_nextSet_15 (by decide) ?_
    refine lv_istore_n (lv' := [(3, .int 1), (0, .ref a_this), (1, .int x1), (2, .int x2)]) hx hb d_Pa_nextSet_19 rfl hl (by decide) rfl (fun ls hl => ?_)
    refine lv_iload_n hx hb d_Pa_nextSet_20 rfl (lv_at hl 0 rfl) ?_
    refine lv_if_ne (tgt := 41) hx hb d_Pa_nextSet_21 (by decide) (fun _ => ?_) (fun c9 => absurd c9 (by decide))
    refine lv_iconst (v := 2) hx hb d_Pa_nextSet_41 (by decide) ?_
    refine lv_istore (lv' := [(4, .int 2), (3, .int 1), (0, .ref a_this), (1, .int x1), (2, .int x2)]) hx hb d_Pa_nextSet_42 hl (by decide) rfl (fun ls hl => ?_)
    obtain ⟨n9, hw⟩ := hw
    exact lp_Pa_nextSet_44 l D Z hz ad hk a_this a_text a_text_items a_row a_row_items a_costs k_text_items k_row_items k_costs v_text_count f_text_items v_row_count f_row_items f_costs x1 x2 hx hb hml hr hts hown hlocks hK hZ hP hS n9 2 hw ls (lv_sub hl [2, 3, 4, 0] rfl)
-- LineCodes$Packer.addTold(II)I
def w_Pa_addTold (post : Int32 → Int32 → (Nat → Int32) → Prop) (v_text_count : Int32) (f_text_items : Nat → Int32) (v_row_count : Int32) (f_row_items : Nat → Int32) (x1 : Int32) (x2 : Int32) : Prop := w_It_at (fun r1 => (¬ r1 = 128 → (¬ x2 = 2 → w_Se_symbolOf (fun r4 => (¬ r4 = (-1) → w_It_add (fun r6 s7 s8 => post 1 s7 s8) 99 v_row_count f_row_items r4) ∧ (r4 = (-1) → w_It_add (fun r9 s10 s11 => w_Se_otherOfAB (fun r12 => w_Se_symbolOf (fun r13 => w_It_add (fun r14 s15 s16 => post 1 s15 s16) 99 s10 s11 r13) r12 r1) x2) 99 v_row_count f_row_items 98)) x2 r1) ∧ (x2 = 2 → w_It_at (fun r17 => w_Se_pairOf (fun r18 => w_It_add (fun r19 s20 s21 => post 2 s20 s21) 99 v_row_count f_row_items r18) r1 r17) 64 v_text_count f_text_items (x1 + 1))) ∧ (r1 = 128 → w_It_add (fun r22 s23 s24 => post 1 s23 s24) 99 v_row_count f_row_items 102)) 64 v_text_count f_text_items x1
abbrev rm_Pa_addTold : Room := { frames := 2, cells := 0, slots := 0, locals := 41 }
set_option maxHeartbeats 4000000 in
set_option maxRecDepth 100000 in
theorem met_Pa_addTold (l : Launch) (D : va_G) (Z : (Nat → Prop) → State → Heap → Prop) (hz : zk Z) (ad : Nat → Nat) (hk : zs Z ad) (a_this : Nat) (a_text : Nat) (a_text_items : Nat) (a_row : Nat) (a_row_items : Nat) (a_costs : Nat) (k_text_items : ClassId) (k_row_items : ClassId) (k_costs : ClassId) (v_text_count : Int32) (f_text_items : Nat → Int32) (v_row_count : Int32) (f_row_items : Nat → Int32) (f_costs : Nat → Int32) (x1 : Int32) (x2 : Int32) (sz : Nat) {post : Int32 → Int32 → (Nat → Int32) → Prop} (hw : w_Pa_addTold post v_text_count f_text_items v_row_count f_row_items x1 x2) : Met l y_Pa_addTold ws_Pa_addTold rm_Pa_addTold (va_Pc [.ref a_this, .int x1, .int x2] (rw_ D vwCl [(k_text_items, .int), (k_row_items, .int), (k_costs, .int)] [(a_this, .inr (1, [.ref a_text, .ref a_row, .ref a_costs])), (a_text, .inr (0, [.ref a_text_items, .int v_text_count])), (a_text_items, .inl (k_text_items, 64, .inl f_text_items)), (a_row, .inr (0, [.ref a_row_items, .int v_row_count])), (a_row_items, .inl (k_row_items, 99, .inl f_row_items)), (a_costs, .inl (k_costs, 195, .inl f_costs))] (Z) sz)) (va_Qi (fun (r : Int32) (u : Int32 × (Nat → Int32)) => post r u.1 u.2) (fun u t => at_ D vwCl [(k_text_items, .int), (k_row_items, .int), (k_costs, .int)] (va_A [(a_this, .inr (1, [.ref a_text, .ref a_row, .ref a_costs])), (a_text, .inr (0, [.ref a_text_items, .int v_text_count])), (a_text_items, .inl (k_text_items, 64, .inl f_text_items)), (a_row, .inr (0, [.ref a_row_items, .int v_row_count])), (a_row_items, .inl (k_row_items, 99, .inl f_row_items)), (a_costs, .inl (k_costs, 195, .inl f_costs))] sz) [(a_this, .inr (1, [.ref a_text, .ref a_row, .ref a_costs])), (a_text, .inr (0, [.ref a_text_items, .int v_text_count])), (a_text_items, .inl (k_text_items, 64, .inl f_text_items)), (a_row, .inr (0, [.ref a_row_items, .int u.1])), (a_row_items, .inl (k_row_items, 99, .inl u.2)), (a_costs, .inl (k_costs, 195, .inl f_costs))] t) (va_A [(a_this, .inr (1, [.ref a_text, .ref a_row, .ref a_costs])), (a_text, .inr (0, [.ref a_text_items, .int v_text_count])), (a_text_items, .inl (k_text_items, 64, .inl f_text_items)), (a_row, .inr (0, [.ref a_row_items, .int v_row_count])), (a_row_items, .inl (k_row_items, 99, .inl f_row_items)), (a_costs, .inl (k_costs, 195, .inl f_costs))] sz)) 0 0 (va_A [(a_this, .inr (1, [.ref a_text, .ref a_row, .ref a_costs])), (a_text, .inr (0, [.ref a_text_items, .int v_text_count])), (a_text_items, .inl (k_text_items, 64, .inl f_text_items)), (a_row, .inr (0, [.ref a_row_items, .int v_row_count])), (a_row_items, .inl (k_row_items, 99, .inl f_row_items)), (a_costs, .inl (k_costs, 195, .inl f_costs))] sz) := by
  refine Met.ofW (cc := c_Pa_addTold) (maxL := 5) (ret := (some .int)) (by decide) rfl ?_
  intro p e s m args below meth c s₁ B hml hv
  obtain ⟨rfl, hsz, hP, hK, hD0, hZ⟩ := hv
  have hx := B.exec
  have hb := B.bytes
  have hr := B.returns
  have hts0 := atoms_spec (ws := ws_Pa_addTold) B.pre
  have hts := fun (w : Cond) (h : w ∈ tb) => hts0 w (List.mem_cons_of_mem _ h)
  have hown : s.vm.findClass R_Pa = some m.cls := findClass_of_methodNamed B.named
  have hlocks := B.notSynchronized
  subst hsz
  have hD := hD0.self (sz := s.heap.size)
  generalize hAe : va_A [(a_this, .inr (1, [.ref a_text, .ref a_row, .ref a_costs])), (a_text, .inr (0, [.ref a_text_items, .int v_text_count])), (a_text_items, .inl (k_text_items, 64, .inl f_text_items)), (a_row, .inr (0, [.ref a_row_items, .int v_row_count])), (a_row_items, .inl (k_row_items, 99, .inl f_row_items)), (a_costs, .inl (k_costs, 195, .inl f_costs))] s.heap.size = A at hD hZ ⊢
  have hA : ∀ q : Nat, s.heap.size ≤ q → A q := fun q h => by rw [← hAe]; exact Or.inr h
  have hS : va_S A s.heap s.heap [] := va_S.rf
  have hl := lv_entry ([.ref a_this, .int x1, .int x2]) (n := 5) (Nat.le_of_ble_eq_true rfl)
  rw [lg_entry_eq]
  generalize (lg_sl ([.ref a_this, .int x1, .int x2]) ++ List.replicate (5 - (lg_sl ([.ref a_this, .int x1, .int x2])).length) Slot.unset).toArray = ls at hl ⊢
  have hl : lv_has ls 5 [(0, .ref a_this), (1, .int x1), (2, .int x2)] := hl
  unfold w_Pa_addTold at hw
  refine lv_aload_n hx hb d_Pa_addTold_0 rfl (lv_at hl 0 rfl) ?_
  refine va_get (D := D) (ci := 1) (v := .ref a_text) (C := R_Pa) (T := T_Pa) (N := 3) hx hb hts in_Pa hown hK hP 0 rfl rfl 0 (by decide) (hts _ mm_87) (fun _ h9 => h9) rfl d_Pa_addTold_1 ?_
  refine lv_iload_n hx hb d_Pa_addTold_4 rfl (lv_at hl 1 rfl) ?_
  refine k_roVi (As := [.int x1]) (rest := []) hz [1, 2] [0] 1 0 ⟨hx, hb, hml, hown, hts⟩ (met_It_at l D Z hz ad hk a_text a_text_items k_text_items 64 v_text_count f_text_items x1 hw) (cwV 1 hts (g_V mm_166 mm_167 mm_168 mm_42 mm_169) rfl rfl rfl hd_It_at ⟨Nat.le_of_ble_eq_true rfl, Nat.le_of_ble_eq_true rfl⟩) hP hK hZ hS rfl rfl rfl rfl rfl hl.1 rfl (Nat.le_of_ble_eq_true rfl) d_Pa_addTold_5 ⟨Nat.le_of_ble_eq_true rfl, Nat.le_of_ble_eq_true rfl⟩ (fun r1 hw => ?_)
  refine lv_istore_n (lv' := [(3, .int r1), (0, .ref a_this), (1, .int x1), (2, .int x2)]) hx hb d_Pa_addTold_8 rfl hl (by decide) rfl (fun ls hl => ?_)
  refine lv_iload_n hx hb d_Pa_addTold_9 rfl (lv_at hl 0 rfl) ?_
  refine lv_sipush (v := 128) hx hb d_Pa_addTold_10 (by decide) ?_
  refine lv_icmp_ne (tgt := 28) hx hb d_Pa_addTold_13 (by decide) (fun c2 => ?_) (fun c2 => ?_)
  · have hw := hw.1 c2
    refine lv_iload_n hx hb d_Pa_addTold_28 rfl (lv_at hl 3 rfl) ?_
    refine lv_iconst (v := 2) hx hb d_Pa_addTold_29 (by decide) ?_
    refine lv_icmp_ne (tgt := 57) hx hb d_Pa_addTold_30 (by decide) (fun c3 => ?_) (fun c3 => ?_)
    · have hw := hw.1 c3
      refine lv_iload_n hx hb d_Pa_addTold_57 rfl (lv_at hl 3 rfl) ?_
      refine lv_iload_n hx hb d_Pa_addTold_58 rfl (lv_at hl 0 rfl) ?_
      refine k_roSi (As := [.int x2, .int r1]) (rest := []) hz [] [] ⟨hx, hb, hml, hown, hts⟩ (met_Se_symbolOf l D Z hz ad hk x2 r1 hw) (va_cwS 2 hts (g_S mm_180 mm_181 mm_51 mm_182) rfl rfl rfl hd_Se_symbolOf.2 ⟨Nat.le_of_ble_eq_true rfl, Nat.le_of_ble_eq_true rfl⟩) hP hK hZ hS rfl rfl rfl hl.1 rfl (Nat.le_of_ble_eq_true rfl) d_Pa_addTold_59 ⟨Nat.le_of_ble_eq_true rfl, Nat.le_of_ble_eq_true rfl⟩ (fun r4 hw => ?_)
      refine lv_istore (lv' := [(4, .int r4), (3, .int r1), (0, .ref a_this), (1, .int x1), (2, .int x2)]) hx hb d_Pa_addTold_62 hl (by decide) rfl (fun ls hl => ?_)
      refine lv_iload hx hb d_Pa_addTold_64 (lv_at hl 0 rfl) ?_
      refine lv_iconst (v := (-1)) hx hb d_Pa_addTold_66 (by decide) ?_
      refine lv_icmp_ne (tgt := 90) hx hb d_Pa_addTold_67 (by decide) (fun c5 => ?_) (fun c5 => ?_)
      · have hw := hw.1 c5
        refine lv_aload_n hx hb d_Pa_addTold_90 rfl (lv_at hl 2 rfl) ?_
        refine va_get (D := D) (ci := 1) (v := .ref a_row) (C := R_Pa) (T := T_Pa) (N := 3) hx hb hts in_Pa hown hK hP 0 rfl rfl 1 (by decide) (hts _ mm_88) (fun _ h9 => h9) rfl d_Pa_addTold_91 ?_
        refine lv_iload hx hb d_Pa_addTold_94 (lv_at hl 0 rfl) ?_
        refine k_rwVi (As := [.int r4]) (rest := []) (wr := [(a_this, .inr (1, [.ref a_text, .ref a_row, .ref a_costs])), (a_text, .inr (0, [.ref a_text_items, .int v_text_count])), (a_text_items, .inl (k_text_items, 64, .inl f_text_items)), (a_costs, .inl (k_costs, 195, .inl f_costs))]) hz [3, 4] [0, 1, 2, 5] [1] 3 0 ⟨hx, hb, hml, hown, hts⟩ (met_It_add l D Z hz ad hk a_row a_row_items k_row_items 99 v_row_count f_row_items r4 _ hw) (cwV 1 hts (g_V mm_202 mm_203 mm_204 mm_42 mm_205) rfl rfl rfl hd_It_add ⟨Nat.le_of_ble_eq_true rfl, Nat.le_of_ble_eq_true rfl⟩) hP hD hK hZ hS hA rfl rfl rfl rfl rfl (by decide) rfl rfl rfl rfl hl.1 rfl (Nat.le_of_ble_eq_true rfl) d_Pa_addTold_96 ⟨Nat.le_of_ble_eq_true rfl, Nat.le_of_ble_eq_true rfl⟩ (fun r6 u9 H locs hw hP hD hS => ?_)
        obtain ⟨s7, s8⟩ := u9
        try dsimp only at hw
        have hP : va_P D vwCl [(a_this, .inr (1, [.ref a_text, .ref a_row, .ref a_costs])), (a_text, .inr (0, [.ref a_text_items, .int v_text_count])), (a_text_items, .inl (k_text_items, 64, .inl f_text_items)), (a_costs, .inl (k_costs, 195, .inl f_costs)), (a_row, .inr (0, [.ref a_row_items, .int s7])), (a_row_items, .inl (k_row_items, 99, .inl s8))] H := hP
        have hD : va_D A [(a_this, .inr (1, [.ref a_text, .ref a_row, .ref a_costs])), (a_text, .inr (0, [.ref a_text_items, .int v_text_count])), (a_text_items, .inl (k_text_items, 64, .inl f_text_items)), (a_costs, .inl (k_costs, 195, .inl f_costs)), (a_row, .inr (0, [.ref a_row_items, .int s7])), (a_row_items, .inl (k_row_items, 99, .inl s8))] := hD
        refine lv_pop hx hb d_Pa_addTold_99 rfl ?_
        refine lv_iconst (v := 1) hx hb d_Pa_addTold_100 (by decide) ?_
        have hP9 := hP.sub (ws' := [(a_this, .inr (1, [.ref a_text, .ref a_row, .ref a_costs])), (a_text, .inr (0, [.ref a_text_items, .int v_text_count])), (a_text_items, .inl (k_text_items, 64, .inl f_text_items)), (a_row, .inr (0, [.ref a_row_items, .int s7])), (a_row_items, .inl (k_row_items, 99, .inl s8)), (a_costs, .inl (k_costs, 195, .inl f_costs))]) [0, 1, 2, 4, 5, 3] rfl
        have hD9 := hD.sub (ws' := [(a_this, .inr (1, [.ref a_text, .ref a_row, .ref a_costs])), (a_text, .inr (0, [.ref a_text_items, .int v_text_count])), (a_text_items, .inl (k_text_items, 64, .inl f_text_items)), (a_row, .inr (0, [.ref a_row_items, .int s7])), (a_row_items, .inl (k_row_items, 99, .inl s8)), (a_costs, .inl (k_costs, 195, .inl f_costs))]) [0, 1, 2, 4, 5, 3] (by decide) rfl
        exact W.iret (v := 1) hx hb hr (fun t ht hW => ⟨⟨1, (s7, s8), rfl, hw, by rw [ht]; exact hP9, va_K.moved hW.alike hK, hD9⟩, hS.F ht⟩) hS.2.2 d_Pa_addTold_101
      · have hw := hw.2 c5
        refine lv_aload_n hx hb d_Pa_addTold_70 rfl (lv_at hl 2 rfl) ?_
        refine va_get (D := D) (ci := 1) (v := .ref a_row) (C := R_Pa) (T := T_Pa) (N := 3) hx hb hts in_Pa hown hK hP 0 rfl rfl 1 (by decide) (hts _ mm_88) (fun _ h9 => h9) rfl d_Pa_addTold_71 ?_
        refine lv_bipush (v := 98) hx hb d_Pa_addTold_74 (by decide) ?_
        refine k_rwVi (As := [.int 98]) (rest := []) (wr := [(a_this, .inr (1, [.ref a_text, .ref a_row, .ref a_costs])), (a_text, .inr (0, [.ref a_text_items, .int v_text_count])), (a_text_items, .inl (k_text_items, 64, .inl f_text_items)), (a_costs, .inl (k_costs, 195, .inl f_costs))]) hz [3, 4] [0, 1, 2, 5] [1] 3 0 ⟨hx, hb, hml, hown, hts⟩ (met_It_add l D Z hz ad hk a_row a_row_items k_row_items 99 v_row_count f_row_items 98 _ hw) (cwV 1 hts (g_V mm_202 mm_203 mm_204 mm_42 mm_205) rfl rfl rfl hd_It_add ⟨Nat.le_of_ble_eq_true rfl, Nat.le_of_ble_eq_true rfl⟩) hP hD hK hZ hS hA rfl rfl rfl rfl rfl (by decide) rfl rfl rfl rfl hl.1 rfl (Nat.le_of_ble_eq_true rfl) d_Pa_addTold_76 ⟨Nat.le_of_ble_eq_true rfl, Nat.le_of_ble_eq_true rfl⟩ (fun r9 u9 H locs hw hP hD hS => ?_)
        obtain ⟨s10, s11⟩ := u9
        try dsimp only at hw
        have hP : va_P D vwCl [(a_this, .inr (1, [.ref a_text, .ref a_row, .ref a_costs])), (a_text, .inr (0, [.ref a_text_items, .int v_text_count])), (a_text_items, .inl (k_text_items, 64, .inl f_text_items)), (a_costs, .inl (k_costs, 195, .inl f_costs)), (a_row, .inr (0, [.ref a_row_items, .int s10])), (a_row_items, .inl (k_row_items, 99, .inl s11))] H := hP
        have hD : va_D A [(a_this, .inr (1, [.ref a_text, .ref a_row, .ref a_costs])), (a_text, .inr (0, [.ref a_text_items, .int v_text_count])), (a_text_items, .inl (k_text_items, 64, .inl f_text_items)), (a_costs, .inl (k_costs, 195, .inl f_costs)), (a_row, .inr (0, [.ref a_row_items, .int s10])), (a_row_items, .inl (k_row_items, 99, .inl s11))] := hD
        refine lv_pop hx hb d_Pa_addTold_79 rfl ?_
        refine lv_iload_n hx hb d_Pa_addTold_80 rfl (lv_at hl 4 rfl) ?_
        refine k_roSi (As := [.int x2]) (rest := []) hz [] [] ⟨hx, hb, hml, hown, hts⟩ (met_Se_otherOfAB l D Z hz ad hk x2 hw) (va_cwS 1 hts (g_S mm_214 mm_215 mm_51 mm_216) rfl rfl rfl hd_Se_otherOfAB.2 ⟨Nat.le_of_ble_eq_true rfl, Nat.le_of_ble_eq_true rfl⟩) hP hK hZ hS rfl rfl rfl hl.1 rfl (Nat.le_of_ble_eq_true rfl) d_Pa_addTold_81 ⟨Nat.le_of_ble_eq_true rfl, Nat.le_of_ble_eq_true rfl⟩ (fun r12 hw => ?_)
        refine lv_iload_n hx hb d_Pa_addTold_84 rfl (lv_at hl 1 rfl) ?_
        refine k_roSi (As := [.int r12, .int r1]) (rest := []) hz [] [] ⟨hx, hb, hml, hown, hts⟩ (met_Se_symbolOf l D Z hz ad hk r12 r1 hw) (va_cwS 2 hts (g_S mm_180 mm_181 mm_51 mm_182) rfl rfl rfl hd_Se_symbolOf.2 ⟨Nat.le_of_ble_eq_true rfl, Nat.le_of_ble_eq_true rfl⟩) hP hK hZ hS rfl rfl rfl hl.1 rfl (Nat.le_of_ble_eq_true rfl) d_Pa_addTold_85 ⟨Nat.le_of_ble_eq_true rfl, Nat.le_of_ble_eq_true rfl⟩ (fun r13 hw => ?_)
        refine lv_istore (lv' := [(4, .int r13), (3, .int r1), (0, .ref a_this), (1, .int x1), (2, .int x2)]) hx hb d_Pa_addTold_88 hl (by decide) rfl (fun ls hl => ?_)
        refine lv_aload_n hx hb d_Pa_addTold_90 rfl (lv_at hl 2 rfl) ?_
        refine va_get (D := D) (ci := 1) (v := .ref a_row) (C := R_Pa) (T := T_Pa) (N := 3) hx hb hts in_Pa hown hK hP 0 rfl rfl 1 (by decide) (hts _ mm_88) (fun _ h9 => h9) rfl d_Pa_addTold_91 ?_
        refine lv_iload hx hb d_Pa_addTold_94 (lv_at hl 0 rfl) ?_
        refine k_rwVi (As := [.int r13]) (rest := []) (wr := [(a_this, .inr (1, [.ref a_text, .ref a_row, .ref a_costs])), (a_text, .inr (0, [.ref a_text_items, .int v_text_count])), (a_text_items, .inl (k_text_items, 64, .inl f_text_items)), (a_costs, .inl (k_costs, 195, .inl f_costs))]) hz [4, 5] [0, 1, 2, 3] [1] 4 0 ⟨hx, hb, hml, hown, hts⟩ (met_It_add l D Z hz ad hk a_row a_row_items k_row_items 99 s10 s11 r13 _ hw) (cwV 1 hts (g_V mm_202 mm_203 mm_204 mm_42 mm_205) rfl rfl rfl hd_It_add ⟨Nat.le_of_ble_eq_true rfl, Nat.le_of_ble_eq_true rfl⟩) hP hD hK hZ hS hA rfl rfl rfl rfl rfl (by decide) rfl rfl rfl rfl hl.1 rfl (Nat.le_of_ble_eq_true rfl) d_Pa_addTold_96 ⟨Nat.le_of_ble_eq_true rfl, Nat.le_of_ble_eq_true rfl⟩ (fun r14 u9 H locs hw hP hD hS => ?_)
        obtain ⟨s15, s16⟩ := u9
        try dsimp only at hw
        have hP : va_P D vwCl [(a_this, .inr (1, [.ref a_text, .ref a_row, .ref a_costs])), (a_text, .inr (0, [.ref a_text_items, .int v_text_count])), (a_text_items, .inl (k_text_items, 64, .inl f_text_items)), (a_costs, .inl (k_costs, 195, .inl f_costs)), (a_row, .inr (0, [.ref a_row_items, .int s15])), (a_row_items, .inl (k_row_items, 99, .inl s16))] H := hP
        have hD : va_D A [(a_this, .inr (1, [.ref a_text, .ref a_row, .ref a_costs])), (a_text, .inr (0, [.ref a_text_items, .int v_text_count])), (a_text_items, .inl (k_text_items, 64, .inl f_text_items)), (a_costs, .inl (k_costs, 195, .inl f_costs)), (a_row, .inr (0, [.ref a_row_items, .int s15])), (a_row_items, .inl (k_row_items, 99, .inl s16))] := hD
        refine lv_pop hx hb d_Pa_addTold_99 rfl ?_
        refine lv_iconst (v := 1) hx hb d_Pa_addTold_100 (by decide) ?_
        have hP9 := hP.sub (ws' := [(a_this, .inr (1, [.ref a_text, .ref a_row, .ref a_costs])), (a_text, .inr (0, [.ref a_text_items, .int v_text_count])), (a_text_items, .inl (k_text_items, 64, .inl f_text_items)), (a_row, .inr (0, [.ref a_row_items, .int s15])), (a_row_items, .inl (k_row_items, 99, .inl s16)), (a_costs, .inl (k_costs, 195, .inl f_costs))]) [0, 1, 2, 4, 5, 3] rfl
        have hD9 := hD.sub (ws' := [(a_this, .inr (1, [.ref a_text, .ref a_row, .ref a_costs])), (a_text, .inr (0, [.ref a_text_items, .int v_text_count])), (a_text_items, .inl (k_text_items, 64, .inl f_text_items)), (a_row, .inr (0, [.ref a_row_items, .int s15])), (a_row_items, .inl (k_row_items, 99, .inl s16)), (a_costs, .inl (k_costs, 195, .inl f_costs))]) [0, 1, 2, 4, 5, 3] (by decide) rfl
        exact W.iret (v := 1) hx hb hr (fun t ht hW => ⟨⟨1, (s15, s16), rfl, hw, by rw [ht]; exact hP9, va_K.moved hW.alike hK, hD9⟩, hS.F ht⟩) hS.2.2 d_Pa_addTold_101
    · have hw := hw.2 c3
      refine lv_aload_n hx hb d_Pa_addTold_33 rfl (lv_at hl 1 rfl) ?_
      refine va_get (D := D) (ci := 1) (v := .ref a_row) (C := R_Pa) (T := T_Pa) (N := 3) hx hb hts in_Pa hown hK hP 0 rfl rfl 1 (by decide) (hts _ mm_88) (fun _ h9 => h9) rfl d_Pa_addTold_34 ?_
      refine lv_iload_n hx hb d_Pa_addTold_37 rfl (lv_at hl 0 rfl) ?_
      refine lv_aload_n hx hb d_Pa_addTold_38 rfl (lv_at hl 1 rfl) ?_
      refine va_get (D := D) (ci := 1) (v := .ref a_text) (C := R_Pa) (T := T_Pa) (N := 3) hx hb hts in_Pa hown hK hP 0 rfl rfl 0 (by decide) (hts _ mm_87) (fun _ h9 => h9) rfl d_Pa_addTold_39 ?_
      refine lv_iload_n hx hb d_Pa_addTold_42 rfl (lv_at hl 2 rfl) ?_
      refine lv_iconst (v := 1) hx hb d_Pa_addTold_43 (by decide) ?_
      refine lv_iadd hx hb d_Pa_addTold_44 ?_
      refine k_roVi (As := [.int (x1 + 1)]) (rest := [.int r1, .ref a_row]) hz [1, 2] [0] 1 0 ⟨hx, hb, hml, hown, hts⟩ (met_It_at l D Z hz ad hk a_text a_text_items k_text_items 64 v_text_count f_text_items (x1 + 1) hw) (cwV 1 hts (g_V mm_166 mm_167 mm_168 mm_42 mm_169) rfl rfl rfl hd_It_at ⟨Nat.le_of_ble_eq_true rfl, Nat.le_of_ble_eq_true rfl⟩) hP hK hZ hS rfl rfl rfl rfl rfl hl.1 rfl (Nat.le_of_ble_eq_true rfl) d_Pa_addTold_45 ⟨Nat.le_of_ble_eq_true rfl, Nat.le_of_ble_eq_true rfl⟩ (fun r17 hw => ?_)
      refine k_roSi (As := [.int r1, .int r17]) (rest := [.ref a_row]) hz [] [] ⟨hx, hb, hml, hown, hts⟩ (met_Se_pairOf l D Z hz ad hk r1 r17 hw) (va_cwS 2 hts (g_S mm_174 mm_175 mm_51 mm_176) rfl rfl rfl hd_Se_pairOf.2 ⟨Nat.le_of_ble_eq_true rfl, Nat.le_of_ble_eq_true rfl⟩) hP hK hZ hS rfl rfl rfl hl.1 rfl (Nat.le_of_ble_eq_true rfl) d_Pa_addTold_48 ⟨Nat.le_of_ble_eq_true rfl, Nat.le_of_ble_eq_true rfl⟩ (fun r18 hw => ?_)
      refine k_rwVi (As := [.int r18]) (rest := []) (wr := [(a_this, .inr (1, [.ref a_text, .ref a_row, .ref a_costs])), (a_text, .inr (0, [.ref a_text_items, .int v_text_count])), (a_text_items, .inl (k_text_items, 64, .inl f_text_items)), (a_costs, .inl (k_costs, 195, .inl f_costs))]) hz [3, 4] [0, 1, 2, 5] [1] 3 0 ⟨hx, hb, hml, hown, hts⟩ (met_It_add l D Z hz ad hk a_row a_row_items k_row_items 99 v_row_count f_row_items r18 _ hw) (cwV 1 hts (g_V mm_202 mm_203 mm_204 mm_42 mm_205) rfl rfl rfl hd_It_add ⟨Nat.le_of_ble_eq_true rfl, Nat.le_of_ble_eq_true rfl⟩) hP hD hK hZ hS hA rfl rfl rfl rfl rfl (by decide) rfl rfl rfl rfl hl.1 rfl (Nat.le_of_ble_eq_true rfl) d_Pa_addTold_51 ⟨Nat.le_of_ble_eq_true rfl, Nat.le_of_ble_eq_true rfl⟩ (fun r19 u9 H locs hw hP hD hS => ?_)
      obtain ⟨s20, s21⟩ := u9
      try dsimp only at hw
      have hP : va_P D vwCl [(a_this, .inr (1, [.ref a_text, .ref a_row, .ref a_costs])), (a_text, .inr (0, [.ref a_text_items, .int v_text_count])), (a_text_items, .inl (k_text_items, 64, .inl f_text_items)), (a_costs, .inl (k_costs, 195, .inl f_costs)), (a_row, .inr (0, [.ref a_row_items, .int s20])), (a_row_items, .inl (k_row_items, 99, .inl s21))] H := hP
      have hD : va_D A [(a_this, .inr (1, [.ref a_text, .ref a_row, .ref a_costs])), (a_text, .inr (0, [.ref a_text_items, .int v_text_count])), (a_text_items, .inl (k_text_items, 64, .inl f_text_items)), (a_costs, .inl (k_costs, 195, .inl f_costs)), (a_row, .inr (0, [.ref a_row_items, .int s20])), (a_row_items, .inl (k_row_items, 99, .inl s21))] := hD
      refine lv_pop hx hb d_Pa_addTold_54 rfl ?_
      refine lv_iconst (v := 2) hx hb d_Pa_addTold_55 (by decide) ?_
      have hP9 := hP.sub (ws' := [(a_this, .inr (1, [.ref a_text, .ref a_row, .ref a_costs])), (a_text, .inr (0, [.ref a_text_items, .int v_text_count])), (a_text_items, .inl (k_text_items, 64, .inl f_text_items)), (a_row, .inr (0, [.ref a_row_items, .int s20])), (a_row_items, .inl (k_row_items, 99, .inl s21)), (a_costs, .inl (k_costs, 195, .inl f_costs))]) [0, 1, 2, 4, 5, 3] rfl
      have hD9 := hD.sub (ws' := [(a_this, .inr (1, [.ref a_text, .ref a_row, .ref a_costs])), (a_text, .inr (0, [.ref a_text_items, .int v_text_count])), (a_text_items, .inl (k_text_items, 64, .inl f_text_items)), (a_row, .inr (0, [.ref a_row_items, .int s20])), (a_row_items, .inl (k_row_items, 99, .inl s21)), (a_costs, .inl (k_costs, 195, .inl f_costs))]) [0, 1, 2, 4, 5, 3] (by decide) rfl
      exact W.iret (v := 2) hx hb hr (fun t ht hW => ⟨⟨2, (s20, s21), rfl, hw, by rw [ht]; exact hP9, va_K.moved hW.alike hK, hD9⟩, hS.F ht⟩) hS.2.2 d_Pa_addTold_56
  · have hw := hw.2 c2
    refine lv_aload_n hx hb d_Pa_addTold_16 rfl (lv_at hl 1 rfl) ?_
    refine va_get (D := D) (ci := 1) (v := .ref a_row) (C := R_Pa) (T := T_Pa) (N := 3) hx hb hts in_Pa hown hK hP 0 rfl rfl 1 (by decide) (hts _ mm_88) (fun _ h9 => h9) rfl d_Pa_addTold_17 ?_
    refine lv_bipush (v := 102) hx hb d_Pa_addTold_20 (by decide) ?_
    refine k_rwVi (As := [.int 102]) (rest := []) (wr := [(a_this, .inr (1, [.ref a_text, .ref a_row, .ref a_costs])), (a_text, .inr (0, [.ref a_text_items, .int v_text_count])), (a_text_items, .inl (k_text_items, 64, .inl f_text_items)), (a_costs, .inl (k_costs, 195, .inl f_costs))]) hz [3, 4] [0, 1, 2, 5] [1] 3 0 ⟨hx, hb, hml, hown, hts⟩ (met_It_add l D Z hz ad hk a_row a_row_items k_row_items 99 v_row_count f_row_items 102 _ hw) (cwV 1 hts (g_V mm_202 mm_203 mm_204 mm_42 mm_205) rfl rfl rfl hd_It_add ⟨Nat.le_of_ble_eq_true rfl, Nat.le_of_ble_eq_true rfl⟩) hP hD hK hZ hS hA rfl rfl rfl rfl rfl (by decide) rfl rfl rfl rfl hl.1 rfl (Nat.le_of_ble_eq_true rfl) d_Pa_addTold_22 ⟨Nat.le_of_ble_eq_true rfl, Nat.le_of_ble_eq_true rfl⟩ (fun r22 u9 H locs hw hP hD hS => ?_)
    obtain ⟨s23, s24⟩ := u9
    try dsimp only at hw
    have hP : va_P D vwCl [(a_this, .inr (1, [.ref a_text, .ref a_row, .ref a_costs])), (a_text, .inr (0, [.ref a_text_items, .int v_text_count])), (a_text_items, .inl (k_text_items, 64, .inl f_text_items)), (a_costs, .inl (k_costs, 195, .inl f_costs)), (a_row, .inr (0, [.ref a_row_items, .int s23])), (a_row_items, .inl (k_row_items, 99, .inl s24))] H := hP
    have hD : va_D A [(a_this, .inr (1, [.ref a_text, .ref a_row, .ref a_costs])), (a_text, .inr (0, [.ref a_text_items, .int v_text_count])), (a_text_items, .inl (k_text_items, 64, .inl f_text_items)), (a_costs, .inl (k_costs, 195, .inl f_costs)), (a_row, .inr (0, [.ref a_row_items, .int s23])), (a_row_items, .inl (k_row_items, 99, .inl s24))] := hD
    refine lv_pop hx hb d_Pa_addTold_25 rfl ?_
    refine lv_iconst (v := 1) hx hb d_Pa_addTold_26 (by decide) ?_
    have hP9 := hP.sub (ws' := [(a_this, .inr (1, [.ref a_text, .ref a_row, .ref a_costs])), (a_text, .inr (0, [.ref a_text_items, .int v_text_count])), (a_text_items, .inl (k_text_items, 64, .inl f_text_items)), (a_row, .inr (0, [.ref a_row_items, .int s23])), (a_row_items, .inl (k_row_items, 99, .inl s24)), (a_costs, .inl (k_costs, 195, .inl f_costs))]) [0, 1, 2, 4, 5, 3] rfl
    have hD9 := hD.sub (ws' := [(a_this, .inr (1, [.ref a_text, .ref a_row, .ref a_costs])), (a_text, .inr (0, [.ref a_text_items, .int v_text_count])), (a_text_items, .inl (k_text_items, 64, .inl f_text_items)), (a_row, .inr (0, [.ref a_row_items, .int s23])), (a_row_items, .inl (k_row_items, 99, .inl s24)), (a_costs, .inl (k_costs, 195, .inl f_costs))]) [0, 1, 2, 4, 5, 3] (by decide) rfl
    exact W.iret (v := 1) hx hb hr (fun t ht hW => ⟨⟨1, (s23, s24), rfl, hw, by rw [ht]; exact hP9, va_K.moved hW.alike hK, hD9⟩, hS.F ht⟩) hS.2.2 d_Pa_addTold_27
-- LineCodes$Packer.addSymbols()V
def w_Pa_addSymbols_21 (post : Int32 → (Nat → Int32) → Prop) (v_text_count : Int32) (f_text_items : Nat → Int32) (f_costs : Nat → Int32) : Nat → Int32 → (Nat → Int32) → Int32 → Int32 → Int32 → Prop
  | 0, _, _, _, _, _ => False
  | n + 1, v_row_count, f_row_items, y1, y2, y3 => (99 ≤ y3 → post v_row_count f_row_items) ∧ (¬ 99 ≤ y3 → w_It_count (fun r7 => (r7 ≤ y2 → post v_row_count f_row_items) ∧ (¬ r7 ≤ y2 → w_Pa_nextSet (fun r9 => (¬ r9 = y1 → w_Se_switchTo (fun r11 => w_It_add (fun r12 s13 s14 => w_Pa_addSymbols_21 post v_text_count f_text_items f_costs n s13 s14 r9 y2 (y3 + 1)) 99 v_row_count f_row_items r11) r9) ∧ (r9 = y1 → w_Pa_addTold (fun r15 s16 s17 => w_Pa_addSymbols_21 post v_text_count f_text_items f_costs n s16 s17 y1 (y2 + r15) (y3 + 1)) v_text_count f_text_items v_row_count f_row_items y2 y1)) v_text_count f_text_items f_costs y2 y1)) v_text_count)
def w_Pa_addSymbols (post : Int32 → (Nat → Int32) → Prop) (v_text_count : Int32) (f_text_items : Nat → Int32) (v_row_count : Int32) (f_row_items : Nat → Int32) (f_costs : Nat → Int32) : Prop := w_Pa_cheapestFirstSet (fun r1 => w_Se_firstOf (fun r2 => w_It_add (fun r3 s4 s5 => ∃ k21, w_Pa_addSymbols_21 post v_text_count f_text_items f_costs k21 s4 s5 r1 0 0) 99 v_row_count f_row_items r2) r1) f_costs
abbrev rm_Pa_addSymbols : Room := { frames := 4, cells := 0, slots := 0, locals := 89 }
set_option maxHeartbeats 4000000 in
set_option maxRecDepth 100000 in
theorem lp_Pa_addSymbols_21 (l : Launch) (D : va_G) (Z : (Nat → Prop) → State → Heap → Prop) (hz : zk Z) (ad : Nat → Nat) (hk : zs Z ad) {p : Program} {e : Env} {s : State} {m : MethodId} {args : Array Value} {below : List Frame} {meth : Method} {c : Code} {A : Nat → Prop} (a_this : Nat) (a_text : Nat) (a_text_items : Nat) (a_row : Nat) (a_row_items : Nat) (a_costs : Nat) (k_text_items : ClassId) (k_row_items : ClassId) (k_costs : ClassId) (v_text_count : Int32) (f_text_items : Nat → Int32) (f_costs : Nat → Int32) {post : Int32 → (Nat → Int32) → Prop} (hx : p.tables.exec = Jvm.exec) (hb : c.code = c_Pa_addSymbols) (hml : c.maxLocals = 5) (hr : meth.sig.returnType = (none)) (hts : ∀ w ∈ tb, w.before args s = true) (hown : s.vm.findClass R_Pa = some m.cls) (hlocks : meth.locks = false) (hK : va_K D vwCl [(k_text_items, .int), (k_row_items, .int), (k_costs, .int)] s) (hZ : Z A s s.heap) (hA : ∀ q, s.heap.size ≤ q → A q) : ∀ (n : Nat) (v_row_count : Int32) (f_row_items : Nat → Int32) (y1 : Int32) (y2 : Int32) (y3 : Int32), w_Pa_addSymbols_21 post v_text_count f_text_items f_costs n v_row_count f_row_items y1 y2 y3 → ∀ (H : Heap) (locs : List Loc), va_P D vwCl [(a_this, .inr (1, [.ref a_text, .ref a_row, .ref a_costs])), (a_text, .inr (0, [.ref a_text_items, .int v_text_count])), (a_text_items, .inl (k_text_items, 64, .inl f_text_items)), (a_row, .inr (0, [.ref a_row_items, .int v_row_count])), (a_row_items, .inl (k_row_items, 99, .inl f_row_items)), (a_costs, .inl (k_costs, 195, .inl f_costs))] H → va_D A [(a_this, .inr (1, [.ref a_text, .ref a_row, .ref a_costs])), (a_text, .inr (0, [.ref a_text_items, .int v_text_count])), (a_text_items, .inl (k_text_items, 64, .inl f_text_items)), (a_row, .inr (0, [.ref a_row_items, .int v_row_count])), (a_row_items, .inl (k_row_items, 99, .inl f_row_items)), (a_costs, .inl (k_costs, 195, .inl f_costs))] → va_S A s.heap H locs → ∀ ls : Array Slot, lv_has ls 5 [(0, .ref a_this), (1, .int y1), (2, .int y2), (3, .int y3)] → W p l e (headSpec ws_Pa_addSymbols rm_Pa_addSymbols).room s m args below meth c H locs 0 0 (MQ below (va_Qv (fun u : Int32 × (Nat → Int32) => post u.1 u.2) (fun u t => at_ D vwCl [(k_text_items, .int), (k_row_items, .int), (k_costs, .int)] A [(a_this, .inr (1, [.ref a_text, .ref a_row, .ref a_costs])), (a_text, .inr (0, [.ref a_text_items, .int v_text_count])), (a_text_items, .inl (k_text_items, 64, .inl f_text_items)), (a_row, .inr (0, [.ref a_row_items, .int u.1])), (a_row_items, .inl (k_row_items, 99, .inl u.2)), (a_costs, .inl (k_costs, 195, .inl f_costs))] t) A) args s 0 0 A) (F0 m 21 ls []) := by
  intro n
  induction n with
  | zero =>
    intro v_row_count f_row_items y1 y2 y3 hw
    unfold w_Pa_addSymbols_21 at hw
    exact hw.elim
  | succ n ih =>
    intro v_row_count f_row_items y1 y2 y3 hw H locs hP hD hS ls hl
    unfold w_Pa_addSymbols_21 at hw
    refine lv_iload_n hx hb d_Pa_addSymbols_21 rfl (lv_at hl 3 rfl) ?_
    refine lv_bipush (v := 99) hx hb d_Pa_addSymbols_22 (by decide) ?_
    refine lv_icmp_ge (tgt := 86) hx hb d_Pa_addSymbols_24 (by decide) (fun c6 => ?_) (fun c6 => ?_)
    · have hw := hw.1 c6
      have hP9 := hP.sub (ws' := [(a_this, .inr (1, [.ref a_text, .ref a_row, .ref a_costs])), (a_text, .inr (0, [.ref a_text_items, .int v_text_count])), (a_text_items, .inl (k_text_items, 64, .inl f_text_items)), (a_row, .inr (0, [.ref a_row_items, .int v_row_count])), (a_row_items, .inl (k_row_items, 99, .inl f_row_items)), (a_costs, .inl (k_costs, 195, .inl f_costs))]) [0, 1, 2, 3, 4, 5] rfl
      have hD9 := hD.sub (ws' := [(a_this, .inr (1, [.ref a_text, .ref a_row, .ref a_costs])), (a_text, .inr (0, [.ref a_text_items, .int v_text_count])), (a_text_items, .inl (k_text_items, 64, .inl f_text_items)), (a_row, .inr (0, [.ref a_row_items, .int v_row_count])), (a_row_items, .inl (k_row_items, 99, .inl f_row_items)), (a_costs, .inl (k_costs, 195, .inl f_costs))]) [0, 1, 2, 3, 4, 5] (by decide) rfl
      exact W.vret hx hb hr (fun t ht hW => ⟨⟨(v_row_count, f_row_items), rfl, hw, by rw [ht]; exact hP9, va_K.moved hW.alike hK, hD9⟩, hS.F ht⟩) hS.2.2 d_Pa_addSymbols_86
    · have hw := hw.2 c6
      refine lv_iload_n hx hb d_Pa_addSymbols_27 rfl (lv_at hl 2 rfl) ?_
      refine lv_aload_n hx hb d_Pa_addSymbols_28 rfl (lv_at hl 0 rfl) ?_
      refine va_get (D := D) (ci := 1) (v := .ref a_text) (C := R_Pa) (T := T_Pa) (N := 3) hx hb hts in_Pa hown hK hP 0 rfl rfl 0 (by decide) (hts _ mm_87) (fun _ h9 => h9) rfl d_Pa_addSymbols_29 ?_
      refine k_roVi (As := []) (rest := [.int y2]) hz [1, 2] [0] 1 0 ⟨hx, hb, hml, hown, hts⟩ (met_It_count l D Z hz ad hk a_text a_text_items k_text_items 64 v_text_count f_text_items hw) (cwV 0 hts (g_V mm_153 mm_154 mm_155 mm_42 mm_156) rfl rfl rfl hd_It_count ⟨Nat.le_of_ble_eq_true rfl, Nat.le_of_ble_eq_true rfl⟩) hP hK hZ hS rfl rfl rfl rfl rfl hl.1 rfl (Nat.le_of_ble_eq_true rfl) d_Pa_addSymbols_32 ⟨Nat.le_of_ble_eq_true rfl, Nat.le_of_ble_eq_true rfl⟩ (fun r7 hw => ?_)
      refine lv_icmp_ge (tgt := 86) hx hb d_Pa_addSymbols_35 (by decide) (fun c8 => ?_) (fun c8 => ?_)
      · have hw := hw.1 c8
        have hP9 := hP.sub (ws' := [(a_this, .inr (1, [.ref a_text, .ref a_row, .ref a_costs])), (a_text, .inr (0, [.ref a_text_items, .int v_text_count])), (a_text_items, .inl (k_text_items, 64, .inl f_text_items)), (a_row, .inr (0, [.ref a_row_items, .int v_row_count])), (a_row_items, .inl (k_row_items, 99, .inl f_row_items)), (a_costs, .inl (k_costs, 195, .inl f_costs))]) [0, 1, 2, 3, 4, 5] rfl
        have hD9 := hD.sub (ws' := [(a_this, .inr (1, [.ref a_text, .ref a_row, .ref a_costs])), (a_text, .inr (0, [.ref a_text_items, .int v_text_count])), (a_text_items, .inl (k_text_items, 64, .inl f_text_items)), (a_row, .inr (0, [.ref a_row_items, .int v_row_count])), (a_row_items, .inl (k_row_items, 99, .inl f_row_items)), (a_costs, .inl (k_costs, 195, .inl f_costs))]) [0, 1, 2, 3, 4, 5] (by decide) rfl
        exact W.vret hx hb hr (fun t ht hW => ⟨⟨(v_row_count, f_row_items), rfl, hw, by rw [ht]; exact hP9, va_K.moved hW.alike hK, hD9⟩, hS.F ht⟩) hS.2.2 d_Pa_addSymbols_86
      · have hw := hw.2 c8
        refine lv_aload_n hx hb d_Pa_addSymbols_38 rfl (lv_at hl 0 rfl) ?_
        refine lv_iload_n hx hb d_Pa_addSymbols_39 rfl (lv_at hl 2 rfl) ?_
        refine lv_iload_n hx hb d_Pa_addSymbols_40 rfl (lv_at hl 1 rfl) ?_
        refine k_roVi (As := [.int y2, .int y1]) (rest := []) hz [0, 1, 2, 3, 4, 5] [0, 1, 2] 0 1 ⟨hx, hb, hml, hown, hts⟩ (met_Pa_nextSet l D Z hz ad hk a_this a_text a_text_items a_row a_row_items a_costs k_text_items k_row_items k_costs v_text_count f_text_items v_row_count f_row_items f_costs y2 y1 hw) (cwV 2 hts (g_V mm_206 mm_208 mm_6 mm_44 mm_209) rfl rfl rfl hd_Pa_nextSet ⟨Nat.le_of_ble_eq_true rfl, Nat.le_of_ble_eq_true rfl⟩) hP hK hZ hS rfl rfl rfl rfl rfl hl.1 rfl (Nat.le_of_ble_eq_true rfl) d_Pa_addSymbols_41 ⟨Nat.le_of_ble_eq_true rfl, Nat.le_of_ble_eq_true rfl⟩ (fun r9 hw => ?_)
        refine lv_istore (lv' := [(4, .int r9), (0, .ref a_this), (1, .int y1), (2, .int y2), (3, .int y3)]) hx hb d_Pa_addSymbols_44 hl (by decide) rfl (fun ls hl => ?_)
        refine lv_iload hx hb d_Pa_addSymbols_46 (lv_at hl 0 rfl) ?_
        refine lv_iload_n hx hb d_Pa_addSymbols_48 rfl (lv_at hl 2 rfl) ?_
        refine lv_icmp_ne (tgt := 64) hx hb d_Pa_addSymbols_49 (by decide) (fun c10 => ?_) (fun c10 => ?_)
        · have hw := hw.1 c10
          refine lv_aload_n hx hb d_Pa_addSymbols_64 rfl (lv_at hl 1 rfl) ?_
          refine va_get (D := D) (ci := 1) (v := .ref a_row) (C := R_Pa) (T := T_Pa) (N := 3) hx hb hts in_Pa hown hK hP 0 rfl rfl 1 (by decide) (hts _ mm_88) (fun _ h9 => h9) rfl d_Pa_addSymbols_65 ?_
          refine lv_iload hx hb d_Pa_addSymbols_68 (lv_at hl 0 rfl) ?_
          refine k_roSi (As := [.int r9]) (rest := [.ref a_row]) hz [] [] ⟨hx, hb, hml, hown, hts⟩ (met_Se_switchTo l D Z hz ad hk r9 hw) (va_cwS 1 hts (g_S mm_217 mm_218 mm_51 mm_219) rfl rfl rfl hd_Se_switchTo.2 ⟨Nat.le_of_ble_eq_true rfl, Nat.le_of_ble_eq_true rfl⟩) hP hK hZ hS rfl rfl rfl hl.1 rfl (Nat.le_of_ble_eq_true rfl) d_Pa_addSymbols_70 ⟨Nat.le_of_ble_eq_true rfl, Nat.le_of_ble_eq_true rfl⟩ (fun r11 hw => ?_)
          refine k_rwVi (As := [.int r11]) (rest := []) (wr := [(a_this, .inr (1, [.ref a_text, .ref a_row, .ref a_costs])), (a_text, .inr (0, [.ref a_text_items, .int v_text_count])), (a_text_items, .inl (k_text_items, 64, .inl f_text_items)), (a_costs, .inl (k_costs, 195, .inl f_costs))]) hz [3, 4] [0, 1, 2, 5] [1] 3 0 ⟨hx, hb, hml, hown, hts⟩ (met_It_add l D Z hz ad hk a_row a_row_items k_row_items 99 v_row_count f_row_items r11 _ hw) (cwV 1 hts (g_V mm_202 mm_203 mm_204 mm_42 mm_205) rfl rfl rfl hd_It_add ⟨Nat.le_of_ble_eq_true rfl, Nat.le_of_ble_eq_true rfl⟩) hP hD hK hZ hS hA rfl rfl rfl rfl rfl (by decide) rfl rfl rfl rfl hl.1 rfl (Nat.le_of_ble_eq_true rfl) d_Pa_addSymbols_73 ⟨Nat.le_of_ble_eq_true rfl, Nat.le_of_ble_eq_true rfl⟩ (fun r12 u9 H locs hw hP hD hS => ?_)
          obtain ⟨s13, s14⟩ := u9
          try dsimp only at hw
          have hP : va_P D vwCl [(a_this, .inr (1, [.ref a_text, .ref a_row, .ref a_costs])), (a_text, .inr (0, [.ref a_text_items, .int v_text_count])), (a_text_items, .inl (k_text_items, 64, .inl f_text_items)), (a_costs, .inl (k_costs, 195, .inl f_costs)), (a_row, .inr (0, [.ref a_row_items, .int s13])), (a_row_items, .inl (k_row_items, 99, .inl s14))] H := hP
          have hD : va_D A [(a_this, .inr (1, [.ref a_text, .ref a_row, .ref a_costs])), (a_text, .inr (0, [.ref a_text_items, .int v_text_count])), (a_text_items, .inl (k_text_items, 64, .inl f_text_items)), (a_costs, .inl (k_costs, 195, .inl f_costs)), (a_row, .inr (0, [.ref a_row_items, .int s13])), (a_row_items, .inl (k_row_items, 99, .inl s14))] := hD
          refine lv_pop hx hb d_Pa_addSymbols_76 rfl ?_
          refine lv_iload hx hb d_Pa_addSymbols_77 (lv_at hl 0 rfl) ?_
          refine lv_istore_n (lv' := [(1, .int r9), (4, .int r9), (0, .ref a_this), (2, .int y2), (3, .int y3)]) hx hb d_Pa_addSymbols_79 rfl hl (by decide) rfl (fun ls hl => ?_)
          refine lv_iinc (v := (y3 + 1)) (lv' := [(3, .int (y3 + 1)), (1, .int r9), (4, .int r9), (0, .ref a_this), (2, .int y2)]) hx hb d_Pa_addSymbols_80 hl (k := 4) rfl rfl (by decide) rfl (fun ls hl => ?_)
          refine lv_goto (tgt := 21) hx hb d_Pa_addSymbols_83 (by decide) ?_
          exact ih s13 s14 r9 y2 (y3 + 1) hw _ _ (hP.sub [0, 1, 2, 4, 5, 3] rfl) (hD.sub [0, 1, 2, 4, 5, 3] (by decide) rfl) hS ls (lv_sub hl [3, 1, 4, 0] rfl)
        · have hw := hw.2 c10
          refine lv_iload_n hx hb d_Pa_addSymbols_52 rfl (lv_at hl 3 rfl) ?_
          refine lv_aload_n hx hb d_Pa_addSymbols_53 rfl (lv_at hl 1 rfl) ?_
          refine lv_iload_n hx hb d_Pa_addSymbols_54 rfl (lv_at hl 3 rfl) ?_
          refine lv_iload_n hx hb d_Pa_addSymbols_55 rfl (lv_at hl 2 rfl) ?_
          refine k_rwVi (As := [.int y2, .int y1]) (rest := [.int y2]) (wr := []) hz [0, 1, 2, 3, 4, 5] [] [0, 1, 2] 0 1 ⟨hx, hb, hml, hown, hts⟩ (met_Pa_addTold l D Z hz ad hk a_this a_text a_text_items a_row a_row_items a_costs k_text_items k_row_items k_costs v_text_count f_text_items v_row_count f_row_items f_costs y2 y1 _ hw) (cwV 2 hts (g_V mm_210 mm_212 mm_7 mm_44 mm_213) rfl rfl rfl hd_Pa_addTold ⟨Nat.le_of_ble_eq_true rfl, Nat.le_of_ble_eq_true rfl⟩) hP hD hK hZ hS hA rfl rfl rfl rfl rfl (by decide) rfl rfl rfl rfl hl.1 rfl (Nat.le_of_ble_eq_true rfl) d_Pa_addSymbols_56 ⟨Nat.le_of_ble_eq_true rfl, Nat.le_of_ble_eq_true rfl⟩ (fun r15 u9 H locs hw hP hD hS => ?_)
          obtain ⟨s16, s17⟩ := u9
          try dsimp only at hw
          have hP : va_P D vwCl [(a_this, .inr (1, [.ref a_text, .ref a_row, .ref a_costs])), (a_text, .inr (0, [.ref a_text_items, .int v_text_count])), (a_text_items, .inl (k_text_items, 64, .inl f_text_items)), (a_row, .inr (0, [.ref a_row_items, .int s16])), (a_row_items, .inl (k_row_items, 99, .inl s17)), (a_costs, .inl (k_costs, 195, .inl f_costs))] H := hP
          have hD : va_D A [(a_this, .inr (1, [.ref a_text, .ref a_row, .ref a_costs])), (a_text, .inr (0, [.ref a_text_items, .int v_text_count])), (a_text_items, .inl (k_text_items, 64, .inl f_text_items)), (a_row, .inr (0, [.ref a_row_items, .int s16])), (a_row_items, .inl (k_row_items, 99, .inl s17)), (a_costs, .inl (k_costs, 195, .inl f_costs))] := hD
          refine lv_iadd hx hb d_Pa_addSymbols_59 ?_
          refine lv_istore_n (lv' := [(2, .int (y2 + r15)), (4, .int r9), (0, .ref a_this), (1, .int y1), (3, .int y3)]) hx hb d_Pa_addSymbols_60 rfl hl (by decide) rfl (fun ls hl => ?_)
          refine lv_goto (tgt := 80) hx hb d_Pa_addSymbols_61 (by decide) ?_
          refine lv_iinc (v := (y3 + 1)) (lv' := [(3, .int (y3 + 1)), (2, .int (y2 + r15)), (4, .int r9), (0, .ref a_this), (1, .int y1)]) hx hb d_Pa_addSymbols_80 hl (k := 4) rfl rfl (by decide) rfl (fun ls hl => ?_)
          refine lv_goto (tgt := 21) hx hb d_Pa_addSymbols_83 (by decide) ?_
          exact ih s16 s17 y1 (y2 + r15) (y3 + 1) hw _ _ (hP.sub [0, 1, 2, 3, 4, 5] rfl) (hD.sub [0, 1, 2, 3, 4, 5] (by decide) rfl) hS ls (lv_sub hl [3, 4, 1, 0] rfl)
set_option maxHeartbeats 4000000 in
set_option maxRecDepth 100000 in
theorem met_Pa_addSymbols (l : Launch) (D : va_G) (Z : (Nat → Prop) → State → Heap → Prop) (hz : zk Z) (ad : Nat → Nat) (hk : zs Z ad) (a_this : Nat) (a_text : Nat) (a_text_items : Nat) (a_row : Nat) (a_row_items : Nat) (a_costs : Nat) (k_text_items : ClassId) (k_row_items : ClassId) (k_costs : ClassId) (v_text_count : Int32) (f_text_items : Nat → Int32) (v_row_count : Int32) (f_row_items : Nat → Int32) (f_costs : Nat → Int32) (sz : Nat) {post : Int32 → (Nat → Int32) → Prop} (hw : w_Pa_addSymbols post v_text_count f_text_items v_row_count f_row_items f_costs) : Met l y_Pa_addSymbols ws_Pa_addSymbols rm_Pa_addSymbols (va_Pc [.ref a_this] (rw_ D vwCl [(k_text_items, .int), (k_row_items, .int), (k_costs, .int)] [(a_this, .inr (1, [.ref a_text, .ref a_row, .ref a_costs])), (a_text, .inr (0, [.ref a_text_items, .int v_text_count])), (a_text_items, .inl (k_text_items, 64, .inl f_text_items)), (a_row, .inr (0, [.ref a_row_items, .int v_row_count])), (a_row_items, .inl (k_row_items, 99, .inl f_row_items)), (a_costs, .inl (k_costs, 195, .inl f_costs))] (Z) sz)) (va_Qv (fun u : Int32 × (Nat → Int32) => post u.1 u.2) (fun u t => at_ D vwCl [(k_text_items, .int), (k_row_items, .int), (k_costs, .int)] (va_A [(a_this, .inr (1, [.ref a_text, .ref a_row, .ref a_costs])), (a_text, .inr (0, [.ref a_text_items, .int v_text_count])), (a_text_items, .inl (k_text_items, 64, .inl f_text_items)), (a_row, .inr (0, [.ref a_row_items, .int v_row_count])), (a_row_items, .inl (k_row_items, 99, .inl f_row_items)), (a_costs, .inl (k_costs, 195, .inl f_costs))] sz) [(a_this, .inr (1, [.ref a_text, .ref a_row, .ref a_costs])), (a_text, .inr (0, [.ref a_text_items, .int v_text_count])), (a_text_items, .inl (k_text_items, 64, .inl f_text_items)), (a_row, .inr (0, [.ref a_row_items, .int u.1])), (a_row_items, .inl (k_row_items, 99, .inl u.2)), (a_costs, .inl (k_costs, 195, .inl f_costs))] t) (va_A [(a_this, .inr (1, [.ref a_text, .ref a_row, .ref a_costs])), (a_text, .inr (0, [.ref a_text_items, .int v_text_count])), (a_text_items, .inl (k_text_items, 64, .inl f_text_items)), (a_row, .inr (0, [.ref a_row_items, .int v_row_count])), (a_row_items, .inl (k_row_items, 99, .inl f_row_items)), (a_costs, .inl (k_costs, 195, .inl f_costs))] sz)) 0 0 (va_A [(a_this, .inr (1, [.ref a_text, .ref a_row, .ref a_costs])), (a_text, .inr (0, [.ref a_text_items, .int v_text_count])), (a_text_items, .inl (k_text_items, 64, .inl f_text_items)), (a_row, .inr (0, [.ref a_row_items, .int v_row_count])), (a_row_items, .inl (k_row_items, 99, .inl f_row_items)), (a_costs, .inl (k_costs, 195, .inl f_costs))] sz) := by
  refine Met.ofW (cc := c_Pa_addSymbols) (maxL := 5) (ret := (none)) (by decide) rfl ?_
  intro p e s m args below meth c s₁ B hml hv
  obtain ⟨rfl, hsz, hP, hK, hD0, hZ⟩ := hv
  have hx := B.exec
  have hb := B.bytes
  have hr := B.returns
  have hts0 := atoms_spec (ws := ws_Pa_addSymbols) B.pre
  have hts := fun (w : Cond) (h : w ∈ tb) => hts0 w (List.mem_cons_of_mem _ h)
  have hown : s.vm.findClass R_Pa = some m.cls := findClass_of_methodNamed B.named
  have hlocks := B.notSynchronized
  subst hsz
  have hD := hD0.self (sz := s.heap.size)
  generalize hAe : va_A [(a_this, .inr (1, [.ref a_text, .ref a_row, .ref a_costs])), (a_text, .inr (0, [.ref a_text_items, .int v_text_count])), (a_text_items, .inl (k_text_items, 64, .inl f_text_items)), (a_row, .inr (0, [.ref a_row_items, .int v_row_count])), (a_row_items, .inl (k_row_items, 99, .inl f_row_items)), (a_costs, .inl (k_costs, 195, .inl f_costs))] s.heap.size = A at hD hZ ⊢
  have hA : ∀ q : Nat, s.heap.size ≤ q → A q := fun q h => by rw [← hAe]; exact Or.inr h
  have hS : va_S A s.heap s.heap [] := va_S.rf
  have hl := lv_entry ([.ref a_this]) (n := 5) (Nat.le_of_ble_eq_true rfl)
  rw [lg_entry_eq]
  generalize (lg_sl ([.ref a_this]) ++ List.replicate (5 - (lg_sl ([.ref a_this])).length) Slot.unset).toArray = ls at hl ⊢
  have hl : lv_has ls 5 [(0, .ref a_this)] := hl
  unfold w_Pa_addSymbols at hw
  refine lv_aload_n hx hb d_Pa_addSymbols_0 rfl (lv_at hl 0 rfl) ?_
  refine k_roVi (As := []) (rest := []) hz [0, 1, 2, 3, 4, 5] [0, 1, 2] 0 1 ⟨hx, hb, hml, hown, hts⟩ (met_Pa_cheapestFirstSet l D Z hz ad hk a_this a_text a_text_items a_row a_row_items a_costs k_text_items k_row_items k_costs v_text_count f_text_items v_row_count f_row_items f_costs hw) (cwV 0 hts (g_V mm_195 mm_197 mm_5 mm_44 mm_198) rfl rfl rfl hd_Pa_cheapestFirstSet ⟨Nat.le_of_ble_eq_true rfl, Nat.le_of_ble_eq_true rfl⟩) hP hK hZ hS rfl rfl rfl rfl rfl hl.1 rfl (Nat.le_of_ble_eq_true rfl) d_Pa_addSymbols_1 ⟨Nat.le_of_ble_eq_true rfl, Nat.le_of_ble_eq_true rfl⟩ (fun r1 hw => ?_)
  refine lv_istore_n (lv' := [(1, .int r1), (0, .ref a_this)]) hx hb d_Pa_addSymbols_4 rfl hl (by decide) rfl (fun ls hl => ?_)
  refine lv_aload_n hx hb d_Pa_addSymbols_5 rfl (lv_at hl 1 rfl) ?_
  refine va_get (D := D) (ci := 1) (v := .ref a_row) (C := R_Pa) (T := T_Pa) (N := 3) hx hb hts in_Pa hown hK hP 0 rfl rfl 1 (by decide) (hts _ mm_88) (fun _ h9 => h9) rfl d_Pa_addSymbols_6 ?_
  refine lv_iload_n hx hb d_Pa_addSymbols_9 rfl (lv_at hl 0 rfl) ?_
  refine k_roSi (As := [.int r1]) (rest := [.ref a_row]) hz [] [] ⟨hx, hb, hml, hown, hts⟩ (met_Se_firstOf l D Z hz ad hk r1 hw) (va_cwS 1 hts (g_S mm_199 mm_200 mm_51 mm_201) rfl rfl rfl hd_Se_firstOf.2 ⟨Nat.le_of_ble_eq_true rfl, Nat.le_of_ble_eq_true rfl⟩) hP hK hZ hS rfl rfl rfl hl.1 rfl (Nat.le_of_ble_eq_true rfl) d_Pa_addSymbols_10 ⟨Nat.le_of_ble_eq_true rfl, Nat.le_of_ble_eq_true rfl⟩ (fun r2 hw => ?_)
  refine k_rwVi (As := [.int r2]) (rest := []) (wr := [(a_this, .inr (1, [.ref a_text, .ref a_row, .ref a_costs])), (a_text, .inr (0, [.ref a_text_items, .int v_text_count])), (a_text_items, .inl (k_text_items, 64, .inl f_text_items)), (a_costs, .inl (k_costs, 195, .inl f_costs))]) hz [3, 4] [0, 1, 2, 5] [1] 3 0 ⟨hx, hb, hml, hown, hts⟩ (met_It_add l D Z hz ad hk a_row a_row_items k_row_items 99 v_row_count f_row_items r2 _ hw) (cwV 1 hts (g_V mm_202 mm_203 mm_204 mm_42 mm_205) rfl rfl rfl hd_It_add ⟨Nat.le_of_ble_eq_true rfl, Nat.le_of_ble_eq_true rfl⟩) hP hD hK hZ hS hA rfl rfl rfl rfl rfl (by decide) rfl rfl rfl rfl hl.1 rfl (Nat.le_of_ble_eq_true rfl) d_Pa_addSymbols_13 ⟨Nat.le_of_ble_eq_true rfl, Nat.le_of_ble_eq_true rfl⟩ (fun r3 u9 H locs hw hP hD hS => ?_)
  obtain ⟨s4, s5⟩ := u9
  try dsimp only at hw
  have hP : va_P D vwCl [(a_this, .inr (1, [.ref a_text, .ref a_row, .ref a_costs])), (a_text, .inr (0, [.ref a_text_items, .int v_text_count])), (a_text_items, .inl (k_text_items, 64, .inl f_text_items)), (a_costs, .inl (k_costs, 195, .inl f_costs)), (a_row, .inr (0, [.ref a_row_items, .int s4])), (a_row_items, .inl (k_row_items, 99, .inl s5))] H := hP
  have hD : va_D A [(a_this, .inr (1, [.ref a_text, .ref a_row, .ref a_costs])), (a_text, .inr (0, [.ref a_text_items, .int v_text_count])), (a_text_items, .inl (k_text_items, 64, .inl f_text_items)), (a_costs, .inl (k_costs, 195, .inl f_costs)), (a_row, .inr (0, [.ref a_row_items, .int s4])), (a_row_items, .inl (k_row_items, 99, .inl s5))] := hD
  refine lv_pop hx hb d_Pa_addSymbols_16 rfl ?_
  refine lv_iconst (v := 0) hx hb d_Pa_addSymbols_17 (by decide) ?_
  refine lv_istore_n (lv' := [(2, .int 0), (1, .int r1), (0, .ref a_this)]) hx hb d_Pa_addSymbols_18 rfl hl (by decide) rfl (fun ls hl => ?_)
  refine lv_iconst (v := 0) hx hb d_Pa_addSymbols_19 (by decide) ?_
  refine lv_istore_n (lv' := [(3, .int 0), (2, .int 0), (1, .int r1), (0, .ref a_this)]) hx hb d_Pa_addSymbols_20 rfl hl (by decide) rfl (fun ls hl => ?_)
  obtain ⟨n9, hw⟩ := hw
  exact lp_Pa_addSymbols_21 l D Z hz ad hk a_this a_text a_text_items a_row a_row_items a_costs k_text_items k_row_items k_costs v_text_count f_text_items f_costs hx hb hml hr hts hown hlocks hK hZ hA n9 s4 s5 r1 0 0 hw _ _ (hP.sub [0, 1, 2, 4, 5, 3] rfl) (hD.sub [0, 1, 2, 4, 5, 3] (by decide) rfl) hS ls (lv_sub hl [3, 2, 1, 0] rfl)
-- LineCodes$Packer.checkSymbol()I
def w_Pa_checkSymbol_11 (post : Int32 → Prop) (v_row_count : Int32) (f_row_items : Nat → Int32) : Nat → Int32 → Int32 → Prop
  | 0, _, _ => False
  | n + 1, y1, y2 => w_It_count (fun r2 => (r2 ≤ y2 → post (y1 - y1 / 103 * 103)) ∧ (¬ r2 ≤ y2 → w_It_at (fun r4 => w_Pa_checkSymbol_11 post v_row_count f_row_items n (y1 + (y2 * r4)) (y2 + 1)) 99 v_row_count f_row_items y2)) v_row_count
def w_Pa_checkSymbol (post : Int32 → Prop) (v_row_count : Int32) (f_row_items : Nat → Int32) : Prop := w_It_at (fun r1 => ∃ k11, w_Pa_checkSymbol_11 post v_row_count f_row_items k11 r1 1) 99 v_row_count f_row_items 0
abbrev rm_Pa_checkSymbol : Room := { frames := 1, cells := 0, slots := 0, locals := 21 }
set_option maxHeartbeats 4000000 in
set_option maxRecDepth 100000 in
theorem lp_Pa_checkSymbol_11 (l : Launch) (D : va_G) (Z : (Nat → Prop) → State → Heap → Prop) (hz : zk Z) (ad : Nat → Nat) (hk : zs Z ad) {p : Program} {e : Env} {s : State} {m : MethodId} {args : Array Value} {below : List Frame} {meth : Method} {c : Code} (a_this : Nat) (a_text : Nat) (a_text_items : Nat) (a_row : Nat) (a_row_items : Nat) (a_costs : Nat) (k_text_items : ClassId) (k_row_items : ClassId) (k_costs : ClassId) (v_text_count : Int32) (f_text_items : Nat → Int32) (v_row_count : Int32) (f_row_items : Nat → Int32) (f_costs : Nat → Int32) {post : Int32 → Prop} (hx : p.tables.exec = Jvm.exec) (hb : c.code = c_Pa_checkSymbol) (hml : c.maxLocals = 3) (hr : meth.sig.returnType = (some .int)) (hts : ∀ w ∈ tb, w.before args s = true) (hown : s.vm.findClass R_Pa = some m.cls) (hlocks : meth.locks = false) (hK : va_K D vwCl [(k_text_items, .int), (k_row_items, .int), (k_costs, .int)] s) (hZ : Z (fun _ => False) s s.heap) (hP : va_P D vwCl [(a_this, .inr (1, [.ref a_text, .ref a_row, .ref a_costs])), (a_text, .inr (0, [.ref a_text_items, .int v_text_count])), (a_text_items, .inl (k_text_items, 64, .inl f_text_items)), (a_row, .inr (0, [.ref a_row_items, .int v_row_count])), (a_row_items, .inl (k_row_items, 99, .inl f_row_items)), (a_costs, .inl (k_costs, 195, .inl f_costs))] s.heap) (hS : va_S (fun _ => False) s.heap s.heap []) : ∀ (n : Nat) (y1 : Int32) (y2 : Int32), w_Pa_checkSymbol_11 post v_row_count f_row_items n y1 y2 → ∀ ls : Array Slot, lv_has ls 3 [(0, .ref a_this), (1, .int y1), (2, .int y2)] → W p l e (headSpec ws_Pa_checkSymbol rm_Pa_checkSymbol).room s m args below meth c s.heap [] 0 0 (MQ below (vp_Si post) args s 0 0 (fun _ => False)) (F0 m 11 ls []) := by
  intro n
  induction n with
  | zero =>
    intro y1 y2 hw
    unfold w_Pa_checkSymbol_11 at hw
    exact hw.elim
  | succ n ih =>
    intro y1 y2 hw ls hl
    unfold w_Pa_checkSymbol_11 at hw
    refine lv_iload_n hx hb d_Pa_checkSymbol_11 rfl (lv_at hl 2 rfl) ?_
    refine lv_aload_n hx hb d_Pa_checkSymbol_12 rfl (lv_at hl 0 rfl) ?_
    refine va_get (D := D) (ci := 1) (v := .ref a_row) (C := R_Pa) (T := T_Pa) (N := 3) hx hb hts in_Pa hown hK hP 0 rfl rfl 1 (by decide) (hts _ mm_88) (fun _ h9 => h9) rfl d_Pa_checkSymbol_13 ?_
    refine k_roVi (As := []) (rest := [.int y2]) hz [3, 4] [1] 3 0 ⟨hx, hb, hml, hown, hts⟩ (met_It_count l D Z hz ad hk a_row a_row_items k_row_items 99 v_row_count f_row_items hw) (cwV 0 hts (g_V mm_153 mm_154 mm_155 mm_42 mm_156) rfl rfl rfl hd_It_count ⟨Nat.le_of_ble_eq_true rfl, Nat.le_of_ble_eq_true rfl⟩) hP hK hZ hS rfl rfl rfl rfl rfl hl.1 rfl (Nat.le_of_ble_eq_true rfl) d_Pa_checkSymbol_16 ⟨Nat.le_of_ble_eq_true rfl, Nat.le_of_ble_eq_true rfl⟩ (fun r2 hw => ?_)
    refine lv_icmp_ge (tgt := 41) hx hb d_Pa_checkSymbol_19 (by decide) (fun c3 => ?_) (fun c3 => ?_)
    · have hw := hw.1 c3
      refine lv_iload_n hx hb d_Pa_checkSymbol_41 rfl (lv_at hl 1 rfl) ?_
      refine lv_bipush (v := 103) hx hb d_Pa_checkSymbol_42 (by decide) ?_
      refine lv_irem hx hb d_Pa_checkSymbol_44 (by decide) ?_
      exact W.iret (v := (y1 - y1 / 103 * 103)) hx hb hr (fun t ht hW => ⟨(y1 - y1 / 103 * 103), rfl, hw, ht⟩) hS.2.2 d_Pa_checkSymbol_45
    · have hw := hw.2 c3
      refine lv_iload_n hx hb d_Pa_checkSymbol_22 rfl (lv_at hl 1 rfl) ?_
      refine lv_iload_n hx hb d_Pa_checkSymbol_23 rfl (lv_at hl 2 rfl) ?_
      refine lv_aload_n hx hb d_Pa_checkSymbol_24 rfl (lv_at hl 0 rfl) ?_
      refine va_get (D := D) (ci := 1) (v := .ref a_row) (C := R_Pa) (T := T_Pa) (N := 3) hx hb hts in_Pa hown hK hP 0 rfl rfl 1 (by decide) (hts _ mm_88) (fun _ h9 => h9) rfl d_Pa_checkSymbol_25 ?_
      refine lv_iload_n hx hb d_Pa_checkSymbol_28 rfl (lv_at hl 2 rfl) ?_
      refine k_roVi (As := [.int y2]) (rest := [.int y2, .int y1]) hz [3, 4] [1] 3 0 ⟨hx, hb, hml, hown, hts⟩ (met_It_at l D Z hz ad hk a_row a_row_items k_row_items 99 v_row_count f_row_items y2 hw) (cwV 1 hts (g_V mm_166 mm_167 mm_168 mm_42 mm_169) rfl rfl rfl hd_It_at ⟨Nat.le_of_ble_eq_true rfl, Nat.le_of_ble_eq_true rfl⟩) hP hK hZ hS rfl rfl rfl rfl rfl hl.1 rfl (Nat.le_of_ble_eq_true rfl) d_Pa_checkSymbol_29 ⟨Nat.le_of_ble_eq_true rfl, Nat.le_of_ble_eq_true rfl⟩ (fun r4 hw => ?_)
      refine lv_imul hx hb d_Pa_checkSymbol_32 ?_
      refine lv_iadd hx hb d_Pa_checkSymbol_33 ?_
      refine lv_istore_n (lv' := [(1, .int (y1 + (y2 * r4))), (0, .ref a_this), (2, .int y2)]) hx hb d_Pa_checkSymbol_34 rfl hl (by decide) rfl (fun ls hl => ?_)
      refine lv_iinc (v := (y2 + 1)) (lv' := [(2, .int (y2 + 1)), (1, .int (y1 + (y2 * r4))), (0, .ref a_this)]) hx hb d_Pa_checkSymbol_35 hl (k := 2) rfl rfl (by decide) rfl (fun ls hl => ?_)
      refine lv_goto (tgt := 11) hx hb d_Pa_checkSymbol_38 (by decide) ?_
      exact ih (y1 + (y2 * r4)) (y2 + 1) hw ls (lv_sub hl [2, 1, 0] rfl)
set_option maxHeartbeats 4000000 in
set_option maxRecDepth 100000 in
theorem met_Pa_checkSymbol (l : Launch) (D : va_G) (Z : (Nat → Prop) → State → Heap → Prop) (hz : zk Z) (ad : Nat → Nat) (hk : zs Z ad) (a_this : Nat) (a_text : Nat) (a_text_items : Nat) (a_row : Nat) (a_row_items : Nat) (a_costs : Nat) (k_text_items : ClassId) (k_row_items : ClassId) (k_costs : ClassId) (v_text_count : Int32) (f_text_items : Nat → Int32) (v_row_count : Int32) (f_row_items : Nat → Int32) (f_costs : Nat → Int32) {post : Int32 → Prop} (hw : w_Pa_checkSymbol post v_row_count f_row_items) : Met l y_Pa_checkSymbol ws_Pa_checkSymbol rm_Pa_checkSymbol (va_Pc [.ref a_this] (ro_ D vwCl [(k_text_items, .int), (k_row_items, .int), (k_costs, .int)] [(a_this, .inr (1, [.ref a_text, .ref a_row, .ref a_costs])), (a_text, .inr (0, [.ref a_text_items, .int v_text_count])), (a_text_items, .inl (k_text_items, 64, .inl f_text_items)), (a_row, .inr (0, [.ref a_row_items, .int v_row_count])), (a_row_items, .inl (k_row_items, 99, .inl f_row_items)), (a_costs, .inl (k_costs, 195, .inl f_costs))] (Z))) (vp_Si post) 0 0 (fun _ => False) := by
  refine Met.ofW (cc := c_Pa_checkSymbol) (maxL := 3) (ret := (some .int)) (by decide) rfl ?_
  intro p e s m args below meth c s₁ B hml hv
  obtain ⟨rfl, hP, hK, hZ⟩ := hv
  have hx := B.exec
  have hb := B.bytes
  have hr := B.returns
  have hts0 := atoms_spec (ws := ws_Pa_checkSymbol) B.pre
  have hts := fun (w : Cond) (h : w ∈ tb) => hts0 w (List.mem_cons_of_mem _ h)
  have hown : s.vm.findClass R_Pa = some m.cls := findClass_of_methodNamed B.named
  have hlocks := B.notSynchronized
  have hS : va_S (fun _ => False) s.heap s.heap [] := va_S.rf
  have hl := lv_entry ([.ref a_this]) (n := 3) (Nat.le_of_ble_eq_true rfl)
  rw [lg_entry_eq]
  generalize (lg_sl ([.ref a_this]) ++ List.replicate (3 - (lg_sl ([.ref a_this])).length) Slot.unset).toArray = ls at hl ⊢
  have hl : lv_has ls 3 [(0, .ref a_this)] := hl
  unfold w_Pa_checkSymbol at hw
  refine lv_aload_n hx hb d_Pa_checkSymbol_0 rfl (lv_at hl 0 rfl) ?_
  refine va_get (D := D) (ci := 1) (v := .ref a_row) (C := R_Pa) (T := T_Pa) (N := 3) hx hb hts in_Pa hown hK hP 0 rfl rfl 1 (by decide) (hts _ mm_88) (fun _ h9 => h9) rfl d_Pa_checkSymbol_1 ?_
  refine lv_iconst (v := 0) hx hb d_Pa_checkSymbol_4 (by decide) ?_
  refine k_roVi (As := [.int 0]) (rest := []) hz [3, 4] [1] 3 0 ⟨hx, hb, hml, hown, hts⟩ (met_It_at l D Z hz ad hk a_row a_row_items k_row_items 99 v_row_count f_row_items 0 hw) (cwV 1 hts (g_V mm_166 mm_167 mm_168 mm_42 mm_169) rfl rfl rfl hd_It_at ⟨Nat.le_of_ble_eq_true rfl, Nat.le_of_ble_eq_true rfl⟩) hP hK hZ hS rfl rfl rfl rfl rfl hl.1 rfl (Nat.le_of_ble_eq_true rfl) d_Pa_checkSymbol_5 ⟨Nat.le_of_ble_eq_true rfl, Nat.le_of_ble_eq_true rfl⟩ (fun r1 hw => ?_)
  refine lv_istore_n (lv' := [(1, .int r1), (0, .ref a_this)]) hx hb d_Pa_checkSymbol_8 rfl hl (by decide) rfl (fun ls hl => ?_)
  refine lv_iconst (v := 1) hx hb d_Pa_checkSymbol_9 (by decide) ?_
  refine lv_istore_n (lv' := [(2, .int 1), (1, .int r1), (0, .ref a_this)]) hx hb d_Pa_checkSymbol_10 rfl hl (by decide) rfl (fun ls hl => ?_)
  obtain ⟨n9, hw⟩ := hw
  exact lp_Pa_checkSymbol_11 l D Z hz ad hk a_this a_text a_text_items a_row a_row_items a_costs k_text_items k_row_items k_costs v_text_count f_text_items v_row_count f_row_items f_costs hx hb hml hr hts hown hlocks hK hZ hP hS n9 r1 1 hw ls (lv_sub hl [2, 1, 0] rfl)
-- LineCodes$Packer.makeRow()V
def w_Pa_makeRow_8 (post : Int32 → (Nat → Int32) → (Nat → Int32) → Prop) (v_text_count : Int32) (f_text_items : Nat → Int32) (v_row_count : Int32) (f_row_items : Nat → Int32) : Nat → (Nat → Int32) → Int32 → Prop
  | 0, _, _ => False
  | n + 1, f_costs, y1 => (y1 < 0 → w_It_empty (fun r3 s4 => w_Pa_addSymbols (fun s5 s6 => w_Pa_checkSymbol (fun r7 => w_It_add (fun r8 s9 s10 => w_It_add (fun r11 s12 s13 => post s12 s13 f_costs) 99 s9 s10 106) 99 s5 s6 r7) s5 s6) v_text_count f_text_items s4 f_row_items f_costs) v_row_count) ∧ (¬ y1 < 0 → w_Pa_fillCosts (fun s14 => w_Pa_makeRow_8 post v_text_count f_text_items v_row_count f_row_items n s14 (y1 + (-1))) v_text_count f_text_items f_costs y1)
def w_Pa_makeRow (post : Int32 → (Nat → Int32) → (Nat → Int32) → Prop) (v_text_count : Int32) (f_text_items : Nat → Int32) (v_row_count : Int32) (f_row_items : Nat → Int32) (f_costs : Nat → Int32) : Prop := w_It_count (fun r1 => ∃ k8, w_Pa_makeRow_8 post v_text_count f_text_items v_row_count f_row_items k8 f_costs r1) v_text_count
abbrev rm_Pa_makeRow : Room := { frames := 5, cells := 0, slots := 0, locals := 113 }
set_option maxHeartbeats 4000000 in
set_option maxRecDepth 100000 in
theorem lp_Pa_makeRow_8 (l : Launch) (D : va_G) (Z : (Nat → Prop) → State → Heap → Prop) (hz : zk Z) (ad : Nat → Nat) (hk : zs Z ad) {p : Program} {e : Env} {s : State} {m : MethodId} {args : Array Value} {below : List Frame} {meth : Method} {c : Code} {A : Nat → Prop} (a_this : Nat) (a_text : Nat) (a_text_items : Nat) (a_row : Nat) (a_row_items : Nat) (a_costs : Nat) (k_text_items : ClassId) (k_row_items : ClassId) (k_costs : ClassId) (v_text_count : Int32) (f_text_items : Nat → Int32) (v_row_count : Int32) (f_row_items : Nat → Int32) {post : Int32 → (Nat → Int32) → (Nat → Int32) → Prop} (hx : p.tables.exec = Jvm.exec) (hb : c.code = c_Pa_makeRow) (hml : c.maxLocals = 2) (hr : meth.sig.returnType = (none)) (hts : ∀ w ∈ tb, w.before args s = true) (hown : s.vm.findClass R_Pa = some m.cls) (hlocks : meth.locks = false) (hK : va_K D vwCl [(k_text_items, .int), (k_row_items, .int), (k_costs, .int)] s) (hZ : Z A s s.heap) (hA : ∀ q, s.heap.size ≤ q → A q) : ∀ (n : Nat) (f_costs : Nat → Int32) (y1 : Int32), w_Pa_makeRow_8 post v_text_count f_text_items v_row_count f_row_items n f_costs y1 → ∀ (H : Heap) (locs : List Loc), va_P D vwCl [(a_this, .inr (1, [.ref a_text, .ref a_row, .ref a_costs])), (a_text, .inr (0, [.ref a_text_items, .int v_text_count])), (a_text_items, .inl (k_text_items, 64, .inl f_text_items)), (a_row, .inr (0, [.ref a_row_items, .int v_row_count])), (a_row_items, .inl (k_row_items, 99, .inl f_row_items)), (a_costs, .inl (k_costs, 195, .inl f_costs))] H → va_D A [(a_this, .inr (1, [.ref a_text, .ref a_row, .ref a_costs])), (a_text, .inr (0, [.ref a_text_items, .int v_text_count])), (a_text_items, .inl (k_text_items, 64, .inl f_text_items)), (a_row, .inr (0, [.ref a_row_items, .int v_row_count])), (a_row_items, .inl (k_row_items, 99, .inl f_row_items)), (a_costs, .inl (k_costs, 195, .inl f_costs))] → va_S A s.heap H locs → ∀ ls : Array Slot, lv_has ls 2 [(0, .ref a_this), (1, .int y1)] → W p l e (headSpec ws_Pa_makeRow rm_Pa_makeRow).room s m args below meth c H locs 0 0 (MQ below (va_Qv (fun u : Int32 × (Nat → Int32) × (Nat → Int32) => post u.1 u.2.1 u.2.2) (fun u t => at_ D vwCl [(k_text_items, .int), (k_row_items, .int), (k_costs, .int)] A [(a_this, .inr (1, [.ref a_text, .ref a_row, .ref a_costs])), (a_text, .inr (0, [.ref a_text_items, .int v_text_count])), (a_text_items, .inl (k_text_items, 64, .inl f_text_items)), (a_row, .inr (0, [.ref a_row_items, .int u.1])), (a_row_items, .inl (k_row_items, 99, .inl u.2.1)), (a_costs, .inl (k_costs, 195, .inl u.2.2))] t) A) args s 0 0 A) (F0 m 8 ls []) := by
  intro n
  induction n with
  | zero =>
    intro f_costs y1 hw
    unfold w_Pa_makeRow_8 at hw
    exact hw.elim
  | succ n ih =>
    intro f_costs y1 hw H locs hP hD hS ls hl
    unfold w_Pa_makeRow_8 at hw
    refine lv_iload_n hx hb d_Pa_makeRow_8 rfl (lv_at hl 1 rfl) ?_
    refine lv_if_lt (tgt := 23) hx hb d_Pa_makeRow_9 (by decide) (fun c2 => ?_) (fun c2 => ?_)
    · have hw := hw.1 c2
      refine lv_aload_n hx hb d_Pa_makeRow_23 rfl (lv_at hl 0 rfl) ?_
      refine va_get (D := D) (ci := 1) (v := .ref a_row) (C := R_Pa) (T := T_Pa) (N := 3) hx hb hts in_Pa hown hK hP 0 rfl rfl 1 (by decide) (hts _ mm_88) (fun _ h9 => h9) rfl d_Pa_makeRow_24 ?_
      refine k_rwVi (As := []) (rest := []) (wr := [(a_this, .inr (1, [.ref a_text, .ref a_row, .ref a_costs])), (a_text, .inr (0, [.ref a_text_items, .int v_text_count])), (a_text_items, .inl (k_text_items, 64, .inl f_text_items)), (a_costs, .inl (k_costs, 195, .inl f_costs))]) hz [3, 4] [0, 1, 2, 5] [1] 3 0 ⟨hx, hb, hml, hown, hts⟩ (met_It_empty l D Z hz ad hk a_row a_row_items k_row_items 99 v_row_count f_row_items _ hw) (cwV 0 hts (g_V mm_190 mm_142 mm_143 mm_42 mm_144) rfl rfl rfl hd_It_empty ⟨Nat.le_of_ble_eq_true rfl, Nat.le_of_ble_eq_true rfl⟩) hP hD hK hZ hS hA rfl rfl rfl rfl rfl (by decide) rfl rfl rfl rfl hl.1 rfl (Nat.le_of_ble_eq_true rfl) d_Pa_makeRow_27 ⟨Nat.le_of_ble_eq_true rfl, Nat.le_of_ble_eq_true rfl⟩ (fun r3 s4 H locs hw hP hD hS => ?_)
      try dsimp only at hw
      have hP : va_P D vwCl [(a_this, .inr (1, [.ref a_text, .ref a_row, .ref a_costs])), (a_text, .inr (0, [.ref a_text_items, .int v_text_count])), (a_text_items, .inl (k_text_items, 64, .inl f_text_items)), (a_costs, .inl (k_costs, 195, .inl f_costs)), (a_row, .inr (0, [.ref a_row_items, .int s4])), (a_row_items, .inl (k_row_items, 99, .inl f_row_items))] H := hP
      have hD : va_D A [(a_this, .inr (1, [.ref a_text, .ref a_row, .ref a_costs])), (a_text, .inr (0, [.ref a_text_items, .int v_text_count])), (a_text_items, .inl (k_text_items, 64, .inl f_text_items)), (a_costs, .inl (k_costs, 195, .inl f_costs)), (a_row, .inr (0, [.ref a_row_items, .int s4])), (a_row_items, .inl (k_row_items, 99, .inl f_row_items))] := hD
      refine lv_pop hx hb d_Pa_makeRow_30 rfl ?_
      refine lv_aload_n hx hb d_Pa_makeRow_31 rfl (lv_at hl 0 rfl) ?_
      refine k_rwVv (As := []) (rest := []) (wr := []) hz [0, 1, 2, 4, 5, 3] [] [0, 1, 2] 0 1 ⟨hx, hb, hml, hown, hts⟩ (met_Pa_addSymbols l D Z hz ad hk a_this a_text a_text_items a_row a_row_items a_costs k_text_items k_row_items k_costs v_text_count f_text_items s4 f_row_items f_costs _ hw) (cwV 0 hts (g_V mm_191 mm_193 mm_4 mm_44 mm_194) rfl rfl rfl hd_Pa_addSymbols ⟨Nat.le_of_ble_eq_true rfl, Nat.le_of_ble_eq_true rfl⟩) hP hD hK hZ hS hA rfl rfl rfl rfl rfl (by decide) rfl rfl rfl rfl hl.1 rfl (Nat.le_of_ble_eq_true rfl) d_Pa_makeRow_32 ⟨Nat.le_of_ble_eq_true rfl, Nat.le_of_ble_eq_true rfl⟩ (fun u9 H locs hw hP hD hS => ?_)
      obtain ⟨s5, s6⟩ := u9
      try dsimp only at hw
      have hP : va_P D vwCl [(a_this, .inr (1, [.ref a_text, .ref a_row, .ref a_costs])), (a_text, .inr (0, [.ref a_text_items, .int v_text_count])), (a_text_items, .inl (k_text_items, 64, .inl f_text_items)), (a_row, .inr (0, [.ref a_row_items, .int s5])), (a_row_items, .inl (k_row_items, 99, .inl s6)), (a_costs, .inl (k_costs, 195, .inl f_costs))] H := hP
      have hD : va_D A [(a_this, .inr (1, [.ref a_text, .ref a_row, .ref a_costs])), (a_text, .inr (0, [.ref a_text_items, .int v_text_count])), (a_text_items, .inl (k_text_items, 64, .inl f_text_items)), (a_row, .inr (0, [.ref a_row_items, .int s5])), (a_row_items, .inl (k_row_items, 99, .inl s6)), (a_costs, .inl (k_costs, 195, .inl f_costs))] := hD
      refine lv_aload_n hx hb d_Pa_makeRow_35 rfl (lv_at hl 0 rfl) ?_
      refine va_get (D := D) (ci := 1) (v := .ref a_row) (C := R_Pa) (T := T_Pa) (N := 3) hx hb hts in_Pa hown hK hP 0 rfl rfl 1 (by decide) (hts _ mm_88) (fun _ h9 => h9) rfl d_Pa_makeRow_36 ?_
      refine lv_aload_n hx hb d_Pa_makeRow_39 rfl (lv_at hl 0 rfl) ?_
      refine k_roVi (As := []) (rest := [.ref a_row]) hz [0, 1, 2, 3, 4, 5] [0, 1, 2] 0 1 ⟨hx, hb, hml, hown, hts⟩ (met_Pa_checkSymbol l D Z hz ad hk a_this a_text a_text_items a_row a_row_items a_costs k_text_items k_row_items k_costs v_text_count f_text_items s5 s6 f_costs hw) (cwV 0 hts (g_V mm_220 mm_222 mm_8 mm_44 mm_223) rfl rfl rfl hd_Pa_checkSymbol ⟨Nat.le_of_ble_eq_true rfl, Nat.le_of_ble_eq_true rfl⟩) hP hK hZ hS rfl rfl rfl rfl rfl hl.1 rfl (Nat.le_of_ble_eq_true rfl) d_Pa_makeRow_40 ⟨Nat.le_of_ble_eq_true rfl, Nat.le_of_ble_eq_true rfl⟩ (fun r7 hw => ?_)
      refine k_rwVi (As := [.int r7]) (rest := []) (wr := [(a_this, .inr (1, [.ref a_text, .ref a_row, .ref a_costs])), (a_text, .inr (0, [.ref a_text_items, .int v_text_count])), (a_text_items, .inl (k_text_items, 64, .inl f_text_items)), (a_costs, .inl (k_costs, 195, .inl f_costs))]) hz [3, 4] [0, 1, 2, 5] [1] 3 0 ⟨hx, hb, hml, hown, hts⟩ (met_It_add l D Z hz ad hk a_row a_row_items k_row_items 99 s5 s6 r7 _ hw) (cwV 1 hts (g_V mm_202 mm_203 mm_204 mm_42 mm_205) rfl rfl rfl hd_It_add ⟨Nat.le_of_ble_eq_true rfl, Nat.le_of_ble_eq_true rfl⟩) hP hD hK hZ hS hA rfl rfl rfl rfl rfl (by decide) rfl rfl rfl rfl hl.1 rfl (Nat.le_of_ble_eq_true rfl) d_Pa_makeRow_43 ⟨Nat.le_of_ble_eq_true rfl, Nat.le_of_ble_eq_true rfl⟩ (fun r8 u9 H locs hw hP hD hS => ?_)
      obtain ⟨s9, s10⟩ := u9
      try dsimp only at hw
      have hP : va_P D vwCl [(a_this, .inr (1, [.ref a_text, .ref a_row, .ref a_costs])), (a_text, .inr (0, [.ref a_text_items, .int v_text_count])), (a_text_items, .inl (k_text_items, 64, .inl f_text_items)), (a_costs, .inl (k_costs, 195, .inl f_costs)), (a_row, .inr (0, [.ref a_row_items, .int s9])), (a_row_items, .inl (k_row_items, 99, .inl s10))] H := hP
      have hD : va_D A [(a_this, .inr (1, [.ref a_text, .ref a_row, .ref a_costs])), (a_text, .inr (0, [.ref a_text_items, .int v_text_count])), (a_text_items, .inl (k_text_items, 64, .inl f_text_items)), (a_costs, .inl (k_costs, 195, .inl f_costs)), (a_row, .inr (0, [.ref a_row_items, .int s9])), (a_row_items, .inl (k_row_items, 99, .inl s10))] := hD
      refine lv_pop hx hb d_Pa_makeRow_46 rfl ?_
      refine lv_aload_n hx hb d_Pa_makeRow_47 rfl (lv_at hl 0 rfl) ?_
      refine va_get (D := D) (ci := 1) (v := .ref a_row) (C := R_Pa) (T := T_Pa) (N := 3) hx hb hts in_Pa hown hK hP 0 rfl rfl 1 (by decide) (hts _ mm_88) (fun _ h9 => h9) rfl d_Pa_makeRow_48 ?_
      refine lv_bipush (v := 106) hx hb d_Pa_makeRow_51 (by decide) ?_
      refine k_rwVi (As := [.int 106]) (rest := []) (wr := [(a_this, .inr (1, [.ref a_text, .ref a_row, .ref a_costs])), (a_text, .inr (0, [.ref a_text_items, .int v_text_count])), (a_text_items, .inl (k_text_items, 64, .inl f_text_items)), (a_costs, .inl (k_costs, 195, .inl f_costs))]) hz [4, 5] [0, 1, 2, 3] [1] 4 0 ⟨hx, hb, hml, hown, hts⟩ (met_It_add l D Z hz ad hk a_row a_row_items k_row_items 99 s9 s10 106 _ hw) (cwV 1 hts (g_V mm_202 mm_203 mm_204 mm_42 mm_205) rfl rfl rfl hd_It_add ⟨Nat.le_of_ble_eq_true rfl, Nat.le_of_ble_eq_true rfl⟩) hP hD hK hZ hS hA rfl rfl rfl rfl rfl (by decide) rfl rfl rfl rfl hl.1 rfl (Nat.le_of_ble_eq_true rfl) d_Pa_makeRow_53 ⟨Nat.le_of_ble_eq_true rfl, Nat.le_of_ble_eq_true rfl⟩ (fun r11 u9 H locs hw hP hD hS => ?_)
      obtain ⟨s12, s13⟩ := u9
      try dsimp only at hw
      have hP : va_P D vwCl [(a_this, .inr (1, [.ref a_text, .ref a_row, .ref a_costs])), (a_text, .inr (0, [.ref a_text_items, .int v_text_count])), (a_text_items, .inl (k_text_items, 64, .inl f_text_items)), (a_costs, .inl (k_costs, 195, .inl f_costs)), (a_row, .inr (0, [.ref a_row_items, .int s12])), (a_row_items, .inl (k_row_items, 99, .inl s13))] H := hP
      have hD : va_D A [(a_this, .inr (1, [.ref a_text, .ref a_row, .ref a_costs])), (a_text, .inr (0, [.ref a_text_items, .int v_text_count])), (a_text_items, .inl (k_text_items, 64, .inl f_text_items)), (a_costs, .inl (k_costs, 195, .inl f_costs)), (a_row, .inr (0, [.ref a_row_items, .int s12])), (a_row_items, .inl (k_row_items, 99, .inl s13))] := hD
      refine lv_pop hx hb d_Pa_makeRow_56 rfl ?_
      have hP9 := hP.sub (ws' := [(a_this, .inr (1, [.ref a_text, .ref a_row, .ref a_costs])), (a_text, .inr (0, [.ref a_text_items, .int v_text_count])), (a_text_items, .inl (k_text_items, 64, .inl f_text_items)), (a_row, .inr (0, [.ref a_row_items, .int s12])), (a_row_items, .inl (k_row_items, 99, .inl s13)), (a_costs, .inl (k_costs, 195, .inl f_costs))]) [0, 1, 2, 4, 5, 3] rfl
      have hD9 := hD.sub (ws' := [(a_this, .inr (1, [.ref a_text, .ref a_row, .ref a_costs])), (a_text, .inr (0, [.ref a_text_items, .int v_text_count])), (a_text_items, .inl (k_text_items, 64, .inl f_text_items)), (a_row, .inr (0, [.ref a_row_items, .int s12])), (a_row_items, .inl (k_row_items, 99, .inl s13)), (a_costs, .inl (k_costs, 195, .inl f_costs))]) [0, 1, 2, 4, 5, 3] (by decide) rfl
      exact W.vret hx hb hr (fun t ht hW => ⟨⟨(s12, s13, f_costs), rfl, hw, by rw [ht]; exact hP9, va_K.moved hW.alike hK, hD9⟩, hS.F ht⟩) hS.2.2 d_Pa_makeRow_57
    · have hw := hw.2 c2
      refine lv_aload_n hx hb d_Pa_makeRow_12 rfl (lv_at hl 0 rfl) ?_
      refine lv_iload_n hx hb d_Pa_makeRow_13 rfl (lv_at hl 1 rfl) ?_
      refine k_rwVv (As := [.int y1]) (rest := []) (wr := []) hz [0, 1, 2, 3, 4, 5] [] [0, 1, 2] 0 1 ⟨hx, hb, hml, hown, hts⟩ (met_Pa_fillCosts l D Z hz ad hk a_this a_text a_text_items a_row a_row_items a_costs k_text_items k_row_items k_costs v_text_count f_text_items v_row_count f_row_items f_costs y1 _ hw) (cwV 1 hts (g_V mm_157 mm_159 mm_0 mm_44 mm_160) rfl rfl rfl hd_Pa_fillCosts ⟨Nat.le_of_ble_eq_true rfl, Nat.le_of_ble_eq_true rfl⟩) hP hD hK hZ hS hA rfl rfl rfl rfl rfl (by decide) rfl rfl rfl rfl hl.1 rfl (Nat.le_of_ble_eq_true rfl) d_Pa_makeRow_14 ⟨Nat.le_of_ble_eq_true rfl, Nat.le_of_ble_eq_true rfl⟩ (fun s14 H locs hw hP hD hS => ?_)
      try dsimp only at hw
      have hP : va_P D vwCl [(a_this, .inr (1, [.ref a_text, .ref a_row, .ref a_costs])), (a_text, .inr (0, [.ref a_text_items, .int v_text_count])), (a_text_items, .inl (k_text_items, 64, .inl f_text_items)), (a_row, .inr (0, [.ref a_row_items, .int v_row_count])), (a_row_items, .inl (k_row_items, 99, .inl f_row_items)), (a_costs, .inl (k_costs, 195, .inl s14))] H := hP
      have hD : va_D A [(a_this, .inr (1, [.ref a_text, .ref a_row, .ref a_costs])), (a_text, .inr (0, [.ref a_text_items, .int v_text_count])), (a_text_items, .inl (k_text_items, 64, .inl f_text_items)), (a_row, .inr (0, [.ref a_row_items, .int v_row_count])), (a_row_items, .inl (k_row_items, 99, .inl f_row_items)), (a_costs, .inl (k_costs, 195, .inl s14))] := hD
      refine lv_iinc (v := (y1 + (-1))) (lv' := [(1, .int (y1 + (-1))), (0, .ref a_this)]) hx hb d_Pa_makeRow_17 hl (k := 1) rfl rfl (by decide) rfl (fun ls hl => ?_)
      refine lv_goto (tgt := 8) hx hb d_Pa_makeRow_20 (by decide) ?_
      exact ih s14 (y1 + (-1)) hw _ _ (hP.sub [0, 1, 2, 3, 4, 5] rfl) (hD.sub [0, 1, 2, 3, 4, 5] (by decide) rfl) hS ls (lv_sub hl [1, 0] rfl)
set_option maxHeartbeats 4000000 in
set_option maxRecDepth 100000 in
theorem met_Pa_makeRow (l : Launch) (D : va_G) (Z : (Nat → Prop) → State → Heap → Prop) (hz : zk Z) (ad : Nat → Nat) (hk : zs Z ad) (a_this : Nat) (a_text : Nat) (a_text_items : Nat) (a_row : Nat) (a_row_items : Nat) (a_costs : Nat) (k_text_items : ClassId) (k_row_items : ClassId) (k_costs : ClassId) (v_text_count : Int32) (f_text_items : Nat → Int32) (v_row_count : Int32) (f_row_items : Nat → Int32) (f_costs : Nat → Int32) (sz : Nat) {post : Int32 → (Nat → Int32) → (Nat → Int32) → Prop} (hw : w_Pa_makeRow post v_text_count f_text_items v_row_count f_row_items f_costs) : Met l y_Pa_makeRow ws_Pa_makeRow rm_Pa_makeRow (va_Pc [.ref a_this] (rw_ D vwCl [(k_text_items, .int), (k_row_items, .int), (k_costs, .int)] [(a_this, .inr (1, [.ref a_text, .ref a_row, .ref a_costs])), (a_text, .inr (0, [.ref a_text_items, .int v_text_count])), (a_text_items, .inl (k_text_items, 64, .inl f_text_items)), (a_row, .inr (0, [.ref a_row_items, .int v_row_count])), (a_row_items, .inl (k_row_items, 99, .inl f_row_items)), (a_costs, .inl (k_costs, 195, .inl f_costs))] (Z) sz)) (va_Qv (fun u : Int32 × (Nat → Int32) × (Nat → Int32) => post u.1 u.2.1 u.2.2) (fun u t => at_ D vwCl [(k_text_items, .int), (k_row_items, .int), (k_costs, .int)] (va_A [(a_this, .inr (1, [.ref a_text, .ref a_row, .ref a_costs])), (a_text, .inr (0, [.ref a_text_items, .int v_text_count])), (a_text_items, .inl (k_text_items, 64, .inl f_text_items)), (a_row, .inr (0, [.ref a_row_items, .int v_row_count])), (a_row_items, .inl (k_row_items, 99, .inl f_row_items)), (a_costs, .inl (k_costs, 195, .inl f_costs))] sz) [(a_this, .inr (1, [.ref a_text, .ref a_row, .ref a_costs])), (a_text, .inr (0, [.ref a_text_items, .int v_text_count])), (a_text_items, .inl (k_text_items, 64, .inl f_text_items)), (a_row, .inr (0, [.ref a_row_items, .int u.1])), (a_row_items, .inl (k_row_items, 99, .inl u.2.1)), (a_costs, .inl (k_costs, 195, .inl u.2.2))] t) (va_A [(a_this, .inr (1, [.ref a_text, .ref a_row, .ref a_costs])), (a_text, .inr (0, [.ref a_text_items, .int v_text_count])), (a_text_items, .inl (k_text_items, 64, .inl f_text_items)), (a_row, .inr (0, [.ref a_row_items, .int v_row_count])), (a_row_items, .inl (k_row_items, 99, .inl f_row_items)), (a_costs, .inl (k_costs, 195, .inl f_costs))] sz)) 0 0 (va_A [(a_this, .inr (1, [.ref a_text, .ref a_row, .ref a_costs])), (a_text, .inr (0, [.ref a_text_items, .int v_text_count])), (a_text_items, .inl (k_text_items, 64, .inl f_text_items)), (a_row, .inr (0, [.ref a_row_items, .int v_row_count])), (a_row_items, .inl (k_row_items, 99, .inl f_row_items)), (a_costs, .inl (k_costs, 195, .inl f_costs))] sz) := by
  refine Met.ofW (cc := c_Pa_makeRow) (maxL := 2) (ret := (none)) (by decide) rfl ?_
  intro p e s m args below meth c s₁ B hml hv
  obtain ⟨rfl, hsz, hP, hK, hD0, hZ⟩ := hv
  have hx := B.exec
  have hb := B.bytes
  have hr := B.returns
  have hts0 := atoms_spec (ws := ws_Pa_makeRow) B.pre
  have hts := fun (w : Cond) (h : w ∈ tb) => hts0 w (List.mem_cons_of_mem _ h)
  have hown : s.vm.findClass R_Pa = some m.cls := findClass_of_methodNamed B.named
  have hlocks := B.notSynchronized
  subst hsz
  have hD := hD0.self (sz := s.heap.size)
  generalize hAe : va_A [(a_this, .inr (1, [.ref a_text, .ref a_row, .ref a_costs])), (a_text, .inr (0, [.ref a_text_items, .int v_text_count])), (a_text_items, .inl (k_text_items, 64, .inl f_text_items)), (a_row, .inr (0, [.ref a_row_items, .int v_row_count])), (a_row_items, .inl (k_row_items, 99, .inl f_row_items)), (a_costs, .inl (k_costs, 195, .inl f_costs))] s.heap.size = A at hD hZ ⊢
  have hA : ∀ q : Nat, s.heap.size ≤ q → A q := fun q h => by rw [← hAe]; exact Or.inr h
  have hS : va_S A s.heap s.heap [] := va_S.rf
  have hl := lv_entry ([.ref a_this]) (n := 2) (Nat.le_of_ble_eq_true rfl)
  rw [lg_entry_eq]
  generalize (lg_sl ([.ref a_this]) ++ List.replicate (2 - (lg_sl ([.ref a_this])).length) Slot.unset).toArray = ls at hl ⊢
  have hl : lv_has ls 2 [(0, .ref a_this)] := hl
  unfold w_Pa_makeRow at hw
  refine lv_aload_n hx hb d_Pa_makeRow_0 rfl (lv_at hl 0 rfl) ?_
  refine va_get (D := D) (ci := 1) (v := .ref a_text) (C := R_Pa) (T := T_Pa) (N := 3) hx hb hts in_Pa hown hK hP 0 rfl rfl 0 (by decide) (hts _ mm_87) (fun _ h9 => h9) rfl d_Pa_makeRow_1 ?_
  refine k_roVi (As := []) (rest := []) hz [1, 2] [0] 1 0 ⟨hx, hb, hml, hown, hts⟩ (met_It_count l D Z hz ad hk a_text a_text_items k_text_items 64 v_text_count f_text_items hw) (cwV 0 hts (g_V mm_153 mm_154 mm_155 mm_42 mm_156) rfl rfl rfl hd_It_count ⟨Nat.le_of_ble_eq_true rfl, Nat.le_of_ble_eq_true rfl⟩) hP hK hZ hS rfl rfl rfl rfl rfl hl.1 rfl (Nat.le_of_ble_eq_true rfl) d_Pa_makeRow_4 ⟨Nat.le_of_ble_eq_true rfl, Nat.le_of_ble_eq_true rfl⟩ (fun r1 hw => ?_)
  refine lv_istore_n (lv' := [(1, .int r1), (0, .ref a_this)]) hx hb d_Pa_makeRow_7 rfl hl (by decide) rfl (fun ls hl => ?_)
  obtain ⟨n9, hw⟩ := hw
  exact lp_Pa_makeRow_8 l D Z hz ad hk a_this a_text a_text_items a_row a_row_items a_costs k_text_items k_row_items k_costs v_text_count f_text_items v_row_count f_row_items hx hb hml hr hts hown hlocks hK hZ hA n9 f_costs r1 hw _ _ (hP.sub [0, 1, 2, 3, 4, 5] rfl) (hD.sub [0, 1, 2, 3, 4, 5] (by decide) rfl) hS ls (lv_sub hl [1, 0] rfl)
