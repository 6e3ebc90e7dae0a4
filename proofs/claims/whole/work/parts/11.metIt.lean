-- LineCodes$Items.hasRoomFor(I)Z
def w_It_hasRoomFor (post : Int32 → Prop) (n_items : Nat) (v_count : Int32) (x1 : Int32) : Prop := (((nI n_items) - v_count) < x1 → post 0) ∧ (¬ ((nI n_items) - v_count) < x1 → post 1)
abbrev rm_It_hasRoomFor : Room := { frames := 0, cells := 0, slots := 0, locals := 0 }
set_option maxHeartbeats 4000000 in
set_option maxRecDepth 100000 in
theorem met_It_hasRoomFor (l : Launch) (D : va_G) (Z : (Nat → Prop) → State → Heap → Prop) (hz : zk Z) (ad : Nat → Nat) (hk : zs Z ad) (a_this : Nat) (a_items : Nat) (k_items : ClassId) (n_items : Nat) (v_count : Int32) (f_items : Nat → Int32) (x1 : Int32) {post : Int32 → Prop} (hw : w_It_hasRoomFor post n_items v_count x1) : Met l y_It_hasRoomFor ws_It_hasRoomFor rm_It_hasRoomFor (va_Pc [.ref a_this, .int x1] (ro_ D vwCl [(k_items, .int)] [(a_this, .inr (0, [.ref a_items, .int v_count])), (a_items, .inl (k_items, n_items, .inl f_items))] (Z))) (vp_Si post) 0 0 (fun _ => False) := by
  refine Met.ofW (cc := c_It_hasRoomFor) (maxL := 2) (ret := (some .boolean)) (by decide) rfl ?_
  intro p e s m args below meth c s₁ B hml hv
  obtain ⟨rfl, hP, hK, hZ⟩ := hv
  have hx := B.exec
  have hb := B.bytes
  have hr := B.returns
  have hts0 := atoms_spec (ws := ws_It_hasRoomFor) B.pre
  have hts := fun (w : Cond) (h : w ∈ tb) => hts0 w (List.mem_cons_of_mem _ h)
  have hown : s.vm.findClass R_It = some m.cls := findClass_of_methodNamed B.named
  have hlocks := B.notSynchronized
  have hS : va_S (fun _ => False) s.heap s.heap [] := va_S.rf
  have hl := lv_entry ([.ref a_this, .int x1]) (n := 2) (Nat.le_of_ble_eq_true rfl)
  rw [lg_entry_eq]
  generalize (lg_sl ([.ref a_this, .int x1]) ++ List.replicate (2 - (lg_sl ([.ref a_this, .int x1])).length) Slot.unset).toArray = ls at hl ⊢
  have hl : lv_has ls 2 [(0, .ref a_this), (1, .int x1)] := hl
  unfold w_It_hasRoomFor at hw
  refine lv_iload_n hx hb d_It_hasRoomFor_0 rfl (lv_at hl 1 rfl) ?_
  refine lv_aload_n hx hb d_It_hasRoomFor_1 rfl (lv_at hl 0 rfl) ?_
  refine va_get (D := D) (ci := 0) (v := .ref a_items) (C := R_It) (T := T_It) (N := 2) hx hb hts in_It hown hK hP 0 rfl rfl 0 (by decide) (hts _ mm_73) (fun _ h9 => h9) rfl d_It_hasRoomFor_2 ?_
  refine va_alen (v := (nI n_items)) hx hb hK hP 1 0 rfl rfl rfl d_It_hasRoomFor_5 ?_
  refine lv_aload_n hx hb d_It_hasRoomFor_6 rfl (lv_at hl 0 rfl) ?_
  refine va_get (D := D) (ci := 0) (v := .int v_count) (C := R_It) (T := T_It) (N := 2) hx hb hts in_It hown hK hP 0 rfl rfl 1 (by decide) (hts _ mm_74) (fun _ h9 => h9) rfl d_It_hasRoomFor_7 ?_
  refine lv_isub hx hb d_It_hasRoomFor_10 ?_
  refine lv_icmp_gt (tgt := 18) hx hb d_It_hasRoomFor_11 (by decide) (fun c1 => ?_) (fun c1 => ?_)
  · have hw := hw.1 c1
    refine lv_iconst (v := 0) hx hb d_It_hasRoomFor_18 (by decide) ?_
    exact W.zret (v := 0) (ty := .boolean) hx hb hr rfl (fun t ht hW => ⟨0, rfl, hw, ht⟩) hS.2.2 d_It_hasRoomFor_19
  · have hw := hw.2 c1
    refine lv_iconst (v := 1) hx hb d_It_hasRoomFor_14 (by decide) ?_
    refine lv_goto (tgt := 19) hx hb d_It_hasRoomFor_15 (by decide) ?_
    exact W.zret (v := 1) (ty := .boolean) hx hb hr rfl (fun t ht hW => ⟨1, rfl, hw, ht⟩) hS.2.2 d_It_hasRoomFor_19
-- LineCodes$Items.add(I)Z
def w_It_add (post : Int32 → Int32 → (Nat → Int32) → Prop) (n_items : Nat) (v_count : Int32) (f_items : Nat → Int32) (x1 : Int32) : Prop := (v_count < 0 → post 0 v_count f_items) ∧ (¬ v_count < 0 → (v_count < (nI n_items) → vp_in v_count n_items ∧ post 1 (v_count + 1) (upd f_items v_count.toNatClampNeg x1)) ∧ (¬ v_count < (nI n_items) → post 0 v_count f_items))
abbrev rm_It_add : Room := { frames := 0, cells := 0, slots := 0, locals := 0 }
set_option maxHeartbeats 4000000 in
set_option maxRecDepth 100000 in
theorem met_It_add (l : Launch) (D : va_G) (Z : (Nat → Prop) → State → Heap → Prop) (hz : zk Z) (ad : Nat → Nat) (hk : zs Z ad) (a_this : Nat) (a_items : Nat) (k_items : ClassId) (n_items : Nat) (v_count : Int32) (f_items : Nat → Int32) (x1 : Int32) (sz : Nat) {post : Int32 → Int32 → (Nat → Int32) → Prop} (hw : w_It_add post n_items v_count f_items x1) : Met l y_It_add ws_It_add rm_It_add (va_Pc [.ref a_this, .int x1] (rw_ D vwCl [(k_items, .int)] [(a_this, .inr (0, [.ref a_items, .int v_count])), (a_items, .inl (k_items, n_items, .inl f_items))] (Z) sz)) (va_Qi (fun (r : Int32) (u : Int32 × (Nat → Int32)) => post r u.1 u.2) (fun u t => at_ D vwCl [(k_items, .int)] (va_A [(a_this, .inr (0, [.ref a_items, .int v_count])), (a_items, .inl (k_items, n_items, .inl f_items))] sz) [(a_this, .inr (0, [.ref a_items, .int u.1])), (a_items, .inl (k_items, n_items, .inl u.2))] t) (va_A [(a_this, .inr (0, [.ref a_items, .int v_count])), (a_items, .inl (k_items, n_items, .inl f_items))] sz)) 0 0 (va_A [(a_this, .inr (0, [.ref a_items, .int v_count])), (a_items, .inl (k_items, n_items, .inl f_items))] sz) := by
  refine Met.ofW (cc := c_It_add) (maxL := 2) (ret := (some .boolean)) (by decide) rfl ?_
  intro p e s m args below meth c s₁ B hml hv
  obtain ⟨rfl, hsz, hP, hK, hD0, hZ⟩ := hv
  have hx := B.exec
  have hb := B.bytes
  have hr := B.returns
  have hts0 := atoms_spec (ws := ws_It_add) B.pre
  have hts := fun (w : Cond) (h : w ∈ tb) => hts0 w (List.mem_cons_of_mem _ h)
  have hown : s.vm.findClass R_It = some m.cls := findClass_of_methodNamed B.named
  have hlocks := B.notSynchronized
  subst hsz
  have hD := hD0.self (sz := s.heap.size)
  generalize hAe : va_A [(a_this, .inr (0, [.ref a_items, .int v_count])), (a_items, .inl (k_items, n_items, .inl f_items))] s.heap.size = A at hD hZ ⊢
  have hA : ∀ q : Nat, s.heap.size ≤ q → A q := fun q h => by rw [← hAe]; exact Or.inr h
  have hS : va_S A s.heap s.heap [] := va_S.rf
  have hl := lv_entry ([.ref a_this, .int x1]) (n := 2) (Nat.le_of_ble_eq_true rfl)
  rw [lg_entry_eq]
  generalize (lg_sl ([.ref a_this, .int x1]) ++ List.replicate (2 - (lg_sl ([.ref a_this, .int x1])).length) Slot.unset).toArray = ls at hl ⊢
  have hl : lv_has ls 2 [(0, .ref a_this), (1, .int x1)] := hl
  unfold w_It_add at hw
  refine lv_aload_n hx hb d_It_add_0 rfl (lv_at hl 0 rfl) ?_
  refine va_get (D := D) (ci := 0) (v := .int v_count) (C := R_It) (T := T_It) (N := 2) hx hb hts in_It hown hK hP 0 rfl rfl 1 (by decide) (hts _ mm_74) (fun _ h9 => h9) rfl d_It_add_1 ?_
  refine lv_if_lt (tgt := 19) hx hb d_It_add_4 (by decide) (fun c1 => ?_) (fun c1 => ?_)
  · have hw := hw.1 c1
    refine lv_iconst (v := 0) hx hb d_It_add_19 (by decide) ?_
    have hP9 := hP.sub (ws' := [(a_this, .inr (0, [.ref a_items, .int v_count])), (a_items, .inl (k_items, n_items, .inl f_items))]) [0, 1] rfl
    have hD9 := hD.sub (ws' := [(a_this, .inr (0, [.ref a_items, .int v_count])), (a_items, .inl (k_items, n_items, .inl f_items))]) [0, 1] (by decide) rfl
    exact W.zret (v := 0) (ty := .boolean) hx hb hr rfl (fun t ht hW => ⟨⟨0, (v_count, f_items), rfl, hw, by rw [ht]; exact hP9, va_K.moved hW.alike hK, hD9⟩, hS.F ht⟩) hS.2.2 d_It_add_20
  · have hw := hw.2 c1
    refine lv_aload_n hx hb d_It_add_7 rfl (lv_at hl 0 rfl) ?_
    refine va_get (D := D) (ci := 0) (v := .int v_count) (C := R_It) (T := T_It) (N := 2) hx hb hts in_It hown hK hP 0 rfl rfl 1 (by decide) (hts _ mm_74) (fun _ h9 => h9) rfl d_It_add_8 ?_
    refine lv_aload_n hx hb d_It_add_11 rfl (lv_at hl 0 rfl) ?_
    refine va_get (D := D) (ci := 0) (v := .ref a_items) (C := R_It) (T := T_It) (N := 2) hx hb hts in_It hown hK hP 0 rfl rfl 0 (by decide) (hts _ mm_73) (fun _ h9 => h9) rfl d_It_add_12 ?_
    refine va_alen (v := (nI n_items)) hx hb hK hP 1 0 rfl rfl rfl d_It_add_15 ?_
    refine lv_icmp_lt (tgt := 21) hx hb d_It_add_16 (by decide) (fun c2 => ?_) (fun c2 => ?_)
    · have hw := hw.1 c2
      refine lv_aload_n hx hb d_It_add_21 rfl (lv_at hl 0 rfl) ?_
      refine va_get (D := D) (ci := 0) (v := .ref a_items) (C := R_It) (T := T_It) (N := 2) hx hb hts in_It hown hK hP 0 rfl rfl 0 (by decide) (hts _ mm_73) (fun _ h9 => h9) rfl d_It_add_22 ?_
      refine lv_aload_n hx hb d_It_add_25 rfl (lv_at hl 0 rfl) ?_
      refine va_get (D := D) (ci := 0) (v := .int v_count) (C := R_It) (T := T_It) (N := 2) hx hb hts in_It hown hK hP 0 rfl rfl 1 (by decide) (hts _ mm_74) (fun _ h9 => h9) rfl d_It_add_26 ?_
      refine lv_iload_n hx hb d_It_add_29 rfl (lv_at hl 1 rfl) ?_
      have hi30 := hw.1
      have hw := hw.2
      refine va_iast hx hb hK hP hD hS 1 0 rfl rfl hi30 d_It_add_30 (fun H locs hP hD hS => ?_)
      have hP : va_P D vwCl [(a_this, .inr (0, [.ref a_items, .int v_count])), (a_items, .inl (k_items, n_items, .inl (upd f_items v_count.toNatClampNeg x1)))] H := hP
      have hD : va_D A [(a_this, .inr (0, [.ref a_items, .int v_count])), (a_items, .inl (k_items, n_items, .inl (upd f_items v_count.toNatClampNeg x1)))] := hD
      refine lv_aload_n hx hb d_It_add_31 rfl (lv_at hl 0 rfl) ?_
      refine lv_dup hx hb d_It_add_32 rfl ?_
      refine va_get (D := D) (ci := 0) (v := .int v_count) (C := R_It) (T := T_It) (N := 2) hx hb hts in_It hown hK hP 0 rfl rfl 1 (by decide) (hts _ mm_74) (fun _ h9 => h9) rfl d_It_add_33 ?_
      refine lv_iconst (v := 1) hx hb d_It_add_36 (by decide) ?_
      refine lv_iadd hx hb d_It_add_37 ?_
      refine va_put (D := D) (ci := 0) (v := .int (v_count + 1)) (ty := .int) (C := R_It) (T := T_It) (N := 2) hx hb hts in_It ty_It tk_It nn_It hown hK hP hD hS 0 rfl rfl 1 (by decide) (hts _ mm_74) (fun _ h9 => h9) rfl (by decide +kernel) rfl rfl (Nat.le_of_ble_eq_true rfl) d_It_add_38 (fun H locs hP hD hS => ?_)
      have hP : va_P D vwCl [(a_this, .inr (0, [.ref a_items, .int (v_count + 1)])), (a_items, .inl (k_items, n_items, .inl (upd f_items v_count.toNatClampNeg x1)))] H := hP
      have hD : va_D A [(a_this, .inr (0, [.ref a_items, .int (v_count + 1)])), (a_items, .inl (k_items, n_items, .inl (upd f_items v_count.toNatClampNeg x1)))] := hD
      refine lv_iconst (v := 1) hx hb d_It_add_41 (by decide) ?_
      have hP9 := hP.sub (ws' := [(a_this, .inr (0, [.ref a_items, .int (v_count + 1)])), (a_items, .inl (k_items, n_items, .inl (upd f_items v_count.toNatClampNeg x1)))]) [0, 1] rfl
      have hD9 := hD.sub (ws' := [(a_this, .inr (0, [.ref a_items, .int (v_count + 1)])), (a_items, .inl (k_items, n_items, .inl (upd f_items v_count.toNatClampNeg x1)))]) [0, 1] (by decide) rfl
      exact W.zret (v := 1) (ty := .boolean) hx hb hr rfl (fun t ht hW => ⟨⟨1, ((v_count + 1), (upd f_items v_count.toNatClampNeg x1)), rfl, hw, by rw [ht]; exact hP9, va_K.moved hW.alike hK, hD9⟩, hS.F ht⟩) hS.2.2 d_It_add_42
    · have hw := hw.2 c2
      refine lv_iconst (v := 0) hx hb d_It_add_19 (by decide) ?_
      have hP9 := hP.sub (ws' := [(a_this, .inr (0, [.ref a_items, .int v_count])), (a_items, .inl (k_items, n_items, .inl f_items))]) [0, 1] rfl
      have hD9 := hD.sub (ws' := [(a_this, .inr (0, [.ref a_items, .int v_count])), (a_items, .inl (k_items, n_items, .inl f_items))]) [0, 1] (by decide) rfl
      exact W.zret (v := 0) (ty := .boolean) hx hb hr rfl (fun t ht hW => ⟨⟨0, (v_count, f_items), rfl, hw, by rw [ht]; exact hP9, va_K.moved hW.alike hK, hD9⟩, hS.F ht⟩) hS.2.2 d_It_add_20
-- LineCodes$Items.count()I
def w_It_count (post : Int32 → Prop) (v_count : Int32) : Prop := post v_count
abbrev rm_It_count : Room := { frames := 0, cells := 0, slots := 0, locals := 0 }
set_option maxHeartbeats 4000000 in
set_option maxRecDepth 100000 in
theorem met_It_count (l : Launch) (D : va_G) (Z : (Nat → Prop) → State → Heap → Prop) (hz : zk Z) (ad : Nat → Nat) (hk : zs Z ad) (a_this : Nat) (a_items : Nat) (k_items : ClassId) (n_items : Nat) (v_count : Int32) (f_items : Nat → Int32) {post : Int32 → Prop} (hw : w_It_count post v_count) : Met l y_It_count ws_It_count rm_It_count (va_Pc [.ref a_this] (ro_ D vwCl [(k_items, .int)] [(a_this, .inr (0, [.ref a_items, .int v_count])), (a_items, .inl (k_items, n_items, .inl f_items))] (Z))) (vp_Si post) 0 0 (fun _ => False) := by
  refine Met.ofW (cc := c_It_count) (maxL := 1) (ret := (some .int)) (by decide) rfl ?_
  intro p e s m args below meth c s₁ B hml hv
  obtain ⟨rfl, hP, hK, hZ⟩ := hv
  have hx := B.exec
  have hb := B.bytes
  have hr := B.returns
  have hts0 := atoms_spec (ws := ws_It_count) B.pre
  have hts := fun (w : Cond) (h : w ∈ tb) => hts0 w (List.mem_cons_of_mem _ h)
  have hown : s.vm.findClass R_It = some m.cls := findClass_of_methodNamed B.named
  have hlocks := B.notSynchronized
  have hS : va_S (fun _ => False) s.heap s.heap [] := va_S.rf
  have hl := lv_entry ([.ref a_this]) (n := 1) (Nat.le_of_ble_eq_true rfl)
  rw [lg_entry_eq]
  generalize (lg_sl ([.ref a_this]) ++ List.replicate (1 - (lg_sl ([.ref a_this])).length) Slot.unset).toArray = ls at hl ⊢
  have hl : lv_has ls 1 [(0, .ref a_this)] := hl
  unfold w_It_count at hw
  refine lv_aload_n hx hb d_It_count_0 rfl (lv_at hl 0 rfl) ?_
  refine va_get (D := D) (ci := 0) (v := .int v_count) (C := R_It) (T := T_It) (N := 2) hx hb hts in_It hown hK hP 0 rfl rfl 1 (by decide) (hts _ mm_74) (fun _ h9 => h9) rfl d_It_count_1 ?_
  exact W.iret (v := v_count) hx hb hr (fun t ht hW => ⟨v_count, rfl, hw, ht⟩) hS.2.2 d_It_count_4
-- LineCodes$Items.empty()I
def w_It_empty (post : Int32 → Int32 → Prop) (v_count : Int32) : Prop := post v_count 0
abbrev rm_It_empty : Room := { frames := 0, cells := 0, slots := 0, locals := 0 }
set_option maxHeartbeats 4000000 in
set_option maxRecDepth 100000 in
theorem met_It_empty (l : Launch) (D : va_G) (Z : (Nat → Prop) → State → Heap → Prop) (hz : zk Z) (ad : Nat → Nat) (hk : zs Z ad) (a_this : Nat) (a_items : Nat) (k_items : ClassId) (n_items : Nat) (v_count : Int32) (f_items : Nat → Int32) (sz : Nat) {post : Int32 → Int32 → Prop} (hw : w_It_empty post v_count) : Met l y_It_empty ws_It_empty rm_It_empty (va_Pc [.ref a_this] (rw_ D vwCl [(k_items, .int)] [(a_this, .inr (0, [.ref a_items, .int v_count])), (a_items, .inl (k_items, n_items, .inl f_items))] (Z) sz)) (va_Qi (fun (r : Int32) (u : Int32) => post r u) (fun u t => at_ D vwCl [(k_items, .int)] (va_A [(a_this, .inr (0, [.ref a_items, .int v_count])), (a_items, .inl (k_items, n_items, .inl f_items))] sz) [(a_this, .inr (0, [.ref a_items, .int u])), (a_items, .inl (k_items, n_items, .inl f_items))] t) (va_A [(a_this, .inr (0, [.ref a_items, .int v_count])), (a_items, .inl (k_items, n_items, .inl f_items))] sz)) 0 0 (va_A [(a_this, .inr (0, [.ref a_items, .int v_count])), (a_items, .inl (k_items, n_items, .inl f_items))] sz) := by
  refine Met.ofW (cc := c_It_empty) (maxL := 2) (ret := (some .int)) (by decide) rfl ?_
  intro p e s m args below meth c s₁ B hml hv
  obtain ⟨rfl, hsz, hP, hK, hD0, hZ⟩ := hv
  have hx := B.exec
  have hb := B.bytes
  have hr := B.returns
  have hts0 := atoms_spec (ws := ws_It_empty) B.pre
  have hts := fun (w : Cond) (h : w ∈ tb) => hts0 w (List.mem_cons_of_mem _ h)
  have hown : s.vm.findClass R_It = some m.cls := findClass_of_methodNamed B.named
  have hlocks := B.notSynchronized
  subst hsz
  have hD := hD0.self (sz := s.heap.size)
  generalize hAe : va_A [(a_this, .inr (0, [.ref a_items, .int v_count])), (a_items, .inl (k_items, n_items, .inl f_items))] s.heap.size = A at hD hZ ⊢
  have hA : ∀ q : Nat, s.heap.size ≤ q → A q := fun q h => by rw [← hAe]; exact Or.inr h
  have hS : va_S A s.heap s.heap [] := va_S.rf
  have hl := lv_entry ([.ref a_this]) (n := 2) (Nat.le_of_ble_eq_true rfl)
  rw [lg_entry_eq]
  generalize (lg_sl ([.ref a_this]) ++ List.replicate (2 - (lg_sl ([.ref a_this])).length) Slot.unset).toArray = ls at hl ⊢
  have hl : lv_has ls 2 [(0, .ref a_this)] := hl
  unfold w_It_empty at hw
  refine lv_aload_n hx hb d_It_empty_0 rfl (lv_at hl 0 rfl) ?_
  refine va_get (D := D) (ci := 0) (v := .int v_count) (C := R_It) (T := T_It) (N := 2) hx hb hts in_It hown hK hP 0 rfl rfl 1 (by decide) (hts _ mm_74) (fun _ h9 => h9) rfl d_It_empty_1 ?_
  refine lv_istore_n (lv' := [(1, .int v_count), (0, .ref a_this)]) hx hb d_It_empty_4 rfl hl (by decide) rfl (fun ls hl => ?_)
  refine lv_aload_n hx hb d_It_empty_5 rfl (lv_at hl 1 rfl) ?_
  refine lv_iconst (v := 0) hx hb d_It_empty_6 (by decide) ?_
  refine va_put (D := D) (ci := 0) (v := .int 0) (ty := .int) (C := R_It) (T := T_It) (N := 2) hx hb hts in_It ty_It tk_It nn_It hown hK hP hD hS 0 rfl rfl 1 (by decide) (hts _ mm_74) (fun _ h9 => h9) rfl (by decide +kernel) rfl rfl (Nat.le_of_ble_eq_true rfl) d_It_empty_7 (fun H locs hP hD hS => ?_)
  have hP : va_P D vwCl [(a_this, .inr (0, [.ref a_items, .int 0])), (a_items, .inl (k_items, n_items, .inl f_items))] H := hP
  have hD : va_D A [(a_this, .inr (0, [.ref a_items, .int 0])), (a_items, .inl (k_items, n_items, .inl f_items))] := hD
  refine lv_iload_n hx hb d_It_empty_10 rfl (lv_at hl 0 rfl) ?_
  have hP9 := hP.sub (ws' := [(a_this, .inr (0, [.ref a_items, .int 0])), (a_items, .inl (k_items, n_items, .inl f_items))]) [0, 1] rfl
  have hD9 := hD.sub (ws' := [(a_this, .inr (0, [.ref a_items, .int 0])), (a_items, .inl (k_items, n_items, .inl f_items))]) [0, 1] (by decide) rfl
  exact W.iret (v := v_count) hx hb hr (fun t ht hW => ⟨⟨v_count, 0, rfl, hw, by rw [ht]; exact hP9, va_K.moved hW.alike hK, hD9⟩, hS.F ht⟩) hS.2.2 d_It_empty_11
-- LineCodes$Items.at(I)I
def w_It_at (post : Int32 → Prop) (n_items : Nat) (v_count : Int32) (f_items : Nat → Int32) (x1 : Int32) : Prop := (x1 < 0 → post (-1)) ∧ (¬ x1 < 0 → (v_count ≤ x1 → post (-1)) ∧ (¬ v_count ≤ x1 → ((nI n_items) ≤ x1 → post (-1)) ∧ (¬ (nI n_items) ≤ x1 → vp_in x1 n_items ∧ post (f_items x1.toNatClampNeg))))
abbrev rm_It_at : Room := { frames := 0, cells := 0, slots := 0, locals := 0 }
set_option maxHeartbeats 4000000 in
set_option maxRecDepth 100000 in
theorem met_It_at (l : Launch) (D : va_G) (Z : (Nat → Prop) → State → Heap → Prop) (hz : zk Z) (ad : Nat → Nat) (hk : zs Z ad) (a_this : Nat) (a_items : Nat) (k_items : ClassId) (n_items : Nat) (v_count : Int32) (f_items : Nat → Int32) (x1 : Int32) {post : Int32 → Prop} (hw : w_It_at post n_items v_count f_items x1) : Met l y_It_at ws_It_at rm_It_at (va_Pc [.ref a_this, .int x1] (ro_ D vwCl [(k_items, .int)] [(a_this, .inr (0, [.ref a_items, .int v_count])), (a_items, .inl (k_items, n_items, .inl f_items))] (Z))) (vp_Si post) 0 0 (fun _ => False) := by
  refine Met.ofW (cc := c_It_at) (maxL := 2) (ret := (some .int)) (by decide) rfl ?_
  intro p e s m args below meth c s₁ B hml hv
  obtain ⟨rfl, hP, hK, hZ⟩ := hv
  have hx := B.exec
  have hb := B.bytes
  have hr := B.returns
  have hts0 := atoms_spec (ws := ws_It_at) B.pre
  have hts := fun (w : Cond) (h : w ∈ tb) => hts0 w (List.mem_cons_of_mem _ h)
  have hown : s.vm.findClass R_It = some m.cls := findClass_of_methodNamed B.named
  have hlocks := B.notSynchronized
  have hS : va_S (fun _ => False) s.heap s.heap [] := va_S.rf
  have hl := lv_entry ([.ref a_this, .int x1]) (n := 2) (Nat.le_of_ble_eq_true rfl)
  rw [lg_entry_eq]
  generalize (lg_sl ([.ref a_this, .int x1]) ++ List.replicate (2 - (lg_sl ([.ref a_this, .int x1])).length) Slot.unset).toArray = ls at hl ⊢
  have hl : lv_has ls 2 [(0, .ref a_this), (1, .int x1)] := hl
  unfold w_It_at at hw
  refine lv_iload_n hx hb d_It_at_0 rfl (lv_at hl 1 rfl) ?_
  refine lv_if_lt (tgt := 30) hx hb d_It_at_1 (by decide) (fun c1 => ?_) (fun c1 => ?_)
  · have hw := hw.1 c1
    refine lv_iconst (v := (-1)) hx hb d_It_at_30 (by decide) ?_
    exact W.iret (v := (-1)) hx hb hr (fun t ht hW => ⟨(-1), rfl, hw, ht⟩) hS.2.2 d_It_at_31
  · have hw := hw.2 c1
    refine lv_iload_n hx hb d_It_at_4 rfl (lv_at hl 1 rfl) ?_
    refine lv_aload_n hx hb d_It_at_5 rfl (lv_at hl 0 rfl) ?_
    refine va_get (D := D) (ci := 0) (v := .int v_count) (C := R_It) (T := T_It) (N := 2) hx hb hts in_It hown hK hP 0 rfl rfl 1 (by decide) (hts _ mm_74) (fun _ h9 => h9) rfl d_It_at_6 ?_
    refine lv_icmp_ge (tgt := 30) hx hb d_It_at_9 (by decide) (fun c2 => ?_) (fun c2 => ?_)
    · have hw := hw.1 c2
      refine lv_iconst (v := (-1)) hx hb d_It_at_30 (by decide) ?_
      exact W.iret (v := (-1)) hx hb hr (fun t ht hW => ⟨(-1), rfl, hw, ht⟩) hS.2.2 d_It_at_31
    · have hw := hw.2 c2
      refine lv_iload_n hx hb d_It_at_12 rfl (lv_at hl 1 rfl) ?_
      refine lv_aload_n hx hb d_It_at_13 rfl (lv_at hl 0 rfl) ?_
      refine va_get (D := D) (ci := 0) (v := .ref a_items) (C := R_It) (T := T_It) (N := 2) hx hb hts in_It hown hK hP 0 rfl rfl 0 (by decide) (hts _ mm_73) (fun _ h9 => h9) rfl d_It_at_14 ?_
      refine va_alen (v := (nI n_items)) hx hb hK hP 1 0 rfl rfl rfl d_It_at_17 ?_
      refine lv_icmp_ge (tgt := 30) hx hb d_It_at_18 (by decide) (fun c3 => ?_) (fun c3 => ?_)
      · have hw := hw.1 c3
        refine lv_iconst (v := (-1)) hx hb d_It_at_30 (by decide) ?_
        exact W.iret (v := (-1)) hx hb hr (fun t ht hW => ⟨(-1), rfl, hw, ht⟩) hS.2.2 d_It_at_31
      · have hw := hw.2 c3
        refine lv_aload_n hx hb d_It_at_21 rfl (lv_at hl 0 rfl) ?_
        refine va_get (D := D) (ci := 0) (v := .ref a_items) (C := R_It) (T := T_It) (N := 2) hx hb hts in_It hown hK hP 0 rfl rfl 0 (by decide) (hts _ mm_73) (fun _ h9 => h9) rfl d_It_at_22 ?_
        refine lv_iload_n hx hb d_It_at_25 rfl (lv_at hl 1 rfl) ?_
        have hi26 := hw.1
        have hw := hw.2
        refine va_iald hx hb hK hP 1 0 rfl rfl hi26 d_It_at_26 ?_
        refine lv_goto (tgt := 31) hx hb d_It_at_27 (by decide) ?_
        exact W.iret (v := (f_items x1.toNatClampNeg)) hx hb hr (fun t ht hW => ⟨(f_items x1.toNatClampNeg), rfl, hw, ht⟩) hS.2.2 d_It_at_31
-- LineCodes$Items.replace(II)I
def w_It_replace (post : Int32 → (Nat → Int32) → Prop) (n_items : Nat) (v_count : Int32) (f_items : Nat → Int32) (x1 : Int32) (x2 : Int32) : Prop := (x1 < 0 → post (-1) f_items) ∧ (¬ x1 < 0 → (v_count ≤ x1 → post (-1) f_items) ∧ (¬ v_count ≤ x1 → (x1 < (nI n_items) → vp_in x1 n_items ∧ vp_in x1 n_items ∧ post (f_items x1.toNatClampNeg) (upd f_items x1.toNatClampNeg x2)) ∧ (¬ x1 < (nI n_items) → post (-1) f_items)))
abbrev rm_It_replace : Room := { frames := 0, cells := 0, slots := 0, locals := 0 }
set_option maxHeartbeats 4000000 in
set_option maxRecDepth 100000 in
theorem met_It_replace (l : Launch) (D : va_G) (Z : (Nat → Prop) → State → Heap → Prop) (hz : zk Z) (ad : Nat → Nat) (hk : zs Z ad) (a_this : Nat) (a_items : Nat) (k_items : ClassId) (n_items : Nat) (v_count : Int32) (f_items : Nat → Int32) (x1 : Int32) (x2 : Int32) (sz : Nat) {post : Int32 → (Nat → Int32) → Prop} (hw : w_It_replace post n_items v_count f_items x1 x2) : Met l y_It_replace ws_It_replace rm_It_replace (va_Pc [.ref a_this, .int x1, .int x2] (rw_ D vwCl [(k_items, .int)] [(a_this, .inr (0, [.ref a_items, .int v_count])), (a_items, .inl (k_items, n_items, .inl f_items))] (Z) sz)) (va_Qi (fun (r : Int32) (u : (Nat → Int32)) => post r u) (fun u t => at_ D vwCl [(k_items, .int)] (va_A [(a_this, .inr (0, [.ref a_items, .int v_count])), (a_items, .inl (k_items, n_items, .inl f_items))] sz) [(a_this, .inr (0, [.ref a_items, .int v_count])), (a_items, .inl (k_items, n_items, .inl u))] t) (va_A [(a_this, .inr (0, [.ref a_items, .int v_count])), (a_items, .inl (k_items, n_items, .inl f_items))] sz)) 0 0 (va_A [(a_this, .inr (0, [.ref a_items, .int v_count])), (a_items, .inl (k_items, n_items, .inl f_items))] sz) := by
  refine Met.ofW (cc := c_It_replace) (maxL := 4) (ret := (some .int)) (by decide) rfl ?_
  intro p e s m args below meth c s₁ B hml hv
  obtain ⟨rfl, hsz, hP, hK, hD0, hZ⟩ := hv
  have hx := B.exec
  have hb := B.bytes
  have hr := B.returns
  have hts0 := atoms_spec (ws := ws_It_replace) B.pre
  have hts := fun (w : Cond) (h : w ∈ tb) => hts0 w (List.mem_cons_of_mem _ h)
  have hown : s.vm.findClass R_It = some m.cls := findClass_of_methodNamed B.named
  have hlocks := B.notSynchronized
  subst hsz
  have hD := hD0.self (sz := s.heap.size)
  generalize hAe : va_A [(a_this, .inr (0, [.ref a_items, .int v_count])), (a_items, .inl (k_items, n_items, .inl f_items))] s.heap.size = A at hD hZ ⊢
  have hA : ∀ q : Nat, s.heap.size ≤ q → A q := fun q h => by rw [← hAe]; exact Or.inr h
  have hS : va_S A s.heap s.heap [] := va_S.rf
  have hl := lv_entry ([.ref a_this, .int x1, .int x2]) (n := 4) (Nat.le_of_ble_eq_true rfl)
  rw [lg_entry_eq]
  generalize (lg_sl ([.ref a_this, .int x1, .int x2]) ++ List.replicate (4 - (lg_sl ([.ref a_this, .int x1, .int x2])).length) Slot.unset).toArray = ls at hl ⊢
  have hl : lv_has ls 4 [(0, .ref a_this), (1, .int x1), (2, .int x2)] := hl
  unfold w_It_replace at hw
  refine lv_iload_n hx hb d_It_replace_0 rfl (lv_at hl 1 rfl) ?_
  refine lv_if_lt (tgt := 21) hx hb d_It_replace_1 (by decide) (fun c1 => ?_) (fun c1 => ?_)
  · have hw := hw.1 c1
    refine lv_iconst (v := (-1)) hx hb d_It_replace_21 (by decide) ?_
    have hP9 := hP.sub (ws' := [(a_this, .inr (0, [.ref a_items, .int v_count])), (a_items, .inl (k_items, n_items, .inl f_items))]) [0, 1] rfl
    have hD9 := hD.sub (ws' := [(a_this, .inr (0, [.ref a_items, .int v_count])), (a_items, .inl (k_items, n_items, .inl f_items))]) [0, 1] (by decide) rfl
    exact W.iret (v := (-1)) hx hb hr (fun t ht hW => ⟨⟨(-1), f_items, rfl, hw, by rw [ht]; exact hP9, va_K.moved hW.alike hK, hD9⟩, hS.F ht⟩) hS.2.2 d_It_replace_22
  · have hw := hw.2 c1
    refine lv_iload_n hx hb d_It_replace_4 rfl (lv_at hl 1 rfl) ?_
    refine lv_aload_n hx hb d_It_replace_5 rfl (lv_at hl 0 rfl) ?_
    refine va_get (D := D) (ci := 0) (v := .int v_count) (C := R_It) (T := T_It) (N := 2) hx hb hts in_It hown hK hP 0 rfl rfl 1 (by decide) (hts _ mm_74) (fun _ h9 => h9) rfl d_It_replace_6 ?_
    refine lv_icmp_ge (tgt := 21) hx hb d_It_replace_9 (by decide) (fun c2 => ?_) (fun c2 => ?_)
    · have hw := hw.1 c2
      refine lv_iconst (v := (-1)) hx hb d_It_replace_21 (by decide) ?_
      have hP9 := hP.sub (ws' := [(a_this, .inr (0, [.ref a_items, .int v_count])), (a_items, .inl (k_items, n_items, .inl f_items))]) [0, 1] rfl
      have hD9 := hD.sub (ws' := [(a_this, .inr (0, [.ref a_items, .int v_count])), (a_items, .inl (k_items, n_items, .inl f_items))]) [0, 1] (by decide) rfl
      exact W.iret (v := (-1)) hx hb hr (fun t ht hW => ⟨⟨(-1), f_items, rfl, hw, by rw [ht]; exact hP9, va_K.moved hW.alike hK, hD9⟩, hS.F ht⟩) hS.2.2 d_It_replace_22
    · have hw := hw.2 c2
      refine lv_iload_n hx hb d_It_replace_12 rfl (lv_at hl 1 rfl) ?_
      refine lv_aload_n hx hb d_It_replace_13 rfl (lv_at hl 0 rfl) ?_
      refine va_get (D := D) (ci := 0) (v := .ref a_items) (C := R_It) (T := T_It) (N := 2) hx hb hts in_It hown hK hP 0 rfl rfl 0 (by decide) (hts _ mm_73) (fun _ h9 => h9) rfl d_It_replace_14 ?_
      refine va_alen (v := (nI n_items)) hx hb hK hP 1 0 rfl rfl rfl d_It_replace_17 ?_
      refine lv_icmp_lt (tgt := 23) hx hb d_It_replace_18 (by decide) (fun c3 => ?_) (fun c3 => ?_)
      · have hw := hw.1 c3
        refine lv_aload_n hx hb d_It_replace_23 rfl (lv_at hl 0 rfl) ?_
        refine va_get (D := D) (ci := 0) (v := .ref a_items) (C := R_It) (T := T_It) (N := 2) hx hb hts in_It hown hK hP 0 rfl rfl 0 (by decide) (hts _ mm_73) (fun _ h9 => h9) rfl d_It_replace_24 ?_
        refine lv_iload_n hx hb d_It_replace_27 rfl (lv_at hl 1 rfl) ?_
        have hi28 := hw.1
        have hw := hw.2
        refine va_iald hx hb hK hP 1 0 rfl rfl hi28 d_It_replace_28 ?_
        refine lv_istore_n (lv' := [(3, .int (f_items x1.toNatClampNeg)), (0, .ref a_this), (1, .int x1), (2, .int x2)]) hx hb d_It_replace_29 rfl hl (by decide) rfl (fun ls hl => ?_)
        refine lv_aload_n hx hb d_It_replace_30 rfl (lv_at hl 1 rfl) ?_
        refine va_get (D := D) (ci := 0) (v := .ref a_items) (C := R_It) (T := T_It) (N := 2) hx hb hts in_It hown hK hP 0 rfl rfl 0 (by decide) (hts _ mm_73) (fun _ h9 => h9) rfl d_It_replace_31 ?_
        refine lv_iload_n hx hb d_It_replace_34 rfl (lv_at hl 2 rfl) ?_
        refine lv_iload_n hx hb d_It_replace_35 rfl (lv_at hl 3 rfl) ?_
        have hi36 := hw.1
        have hw := hw.2
        refine va_iast hx hb hK hP hD hS 1 0 rfl rfl hi36 d_It_replace_36 (fun H locs hP hD hS => ?_)
        have hP : va_P D vwCl [(a_this, .inr (0, [.ref a_items, .int v_count])), (a_items, .inl (k_items, n_items, .inl (upd f_items x1.toNatClampNeg x2)))] H := hP
        have hD : va_D A [(a_this, .inr (0, [.ref a_items, .int v_count])), (a_items, .inl (k_items, n_items, .inl (upd f_items x1.toNatClampNeg x2)))] := hD
        refine lv_iload_n hx hb d_It_replace_37 rfl (lv_at hl 0 rfl) ?_
        have hP9 := hP.sub (ws' := [(a_this, .inr (0, [.ref a_items, .int v_count])), (a_items, .inl (k_items, n_items, .inl (upd f_items x1.toNatClampNeg x2)))]) [0, 1] rfl
        have hD9 := hD.sub (ws' := [(a_this, .inr (0, [.ref a_items, .int v_count])), (a_items, .inl (k_items, n_items, .inl (upd f_items x1.toNatClampNeg x2)))]) [0, 1] (by decide) rfl
        exact W.iret (v := (f_items x1.toNatClampNeg)) hx hb hr (fun t ht hW => ⟨⟨(f_items x1.toNatClampNeg), (upd f_items x1.toNatClampNeg x2), rfl, hw, by rw [ht]; exact hP9, va_K.moved hW.alike hK, hD9⟩, hS.F ht⟩) hS.2.2 d_It_replace_38
      · have hw := hw.2 c3
        refine lv_iconst (v := (-1)) hx hb d_It_replace_21 (by decide) ?_
        have hP9 := hP.sub (ws' := [(a_this, .inr (0, [.ref a_items, .int v_count])), (a_items, .inl (k_items, n_items, .inl f_items))]) [0, 1] rfl
        have hD9 := hD.sub (ws' := [(a_this, .inr (0, [.ref a_items, .int v_count])), (a_items, .inl (k_items, n_items, .inl f_items))]) [0, 1] (by decide) rfl
        exact W.iret (v := (-1)) hx hb hr (fun t ht hW => ⟨⟨(-1), f_items, rfl, hw, by rw [ht]; exact hP9, va_K.moved hW.alike hK, hD9⟩, hS.F ht⟩) hS.2.2 d_It_replace_22
-- LineCodes$Items.reverse()V
def w_It_reverse_2 (post : (Nat → Int32) → Prop) (n_items : Nat) (v_count : Int32) : Nat → (Nat → Int32) → Int32 → Prop
  | 0, _, _ => False
  | n + 1, f_items, y1 => ((v_count / 2) ≤ y1 → post f_items) ∧ (¬ (v_count / 2) ≤ y1 → w_It_at (fun r2 => w_It_replace (fun r3 s4 => w_It_replace (fun r5 s6 => w_It_reverse_2 post n_items v_count n s6 (y1 + 1)) n_items v_count s4 y1 r3) n_items v_count f_items ((v_count - 1) - y1) r2) n_items v_count f_items y1)
def w_It_reverse (post : (Nat → Int32) → Prop) (n_items : Nat) (v_count : Int32) (f_items : Nat → Int32) : Prop := ∃ k2, w_It_reverse_2 post n_items v_count k2 f_items 0
abbrev rm_It_reverse : Room := { frames := 1, cells := 0, slots := 0, locals := 23 }
set_option maxHeartbeats 4000000 in
set_option maxRecDepth 100000 in
theorem lp_It_reverse_2 (l : Launch) (D : va_G) (Z : (Nat → Prop) → State → Heap → Prop) (hz : zk Z) (ad : Nat → Nat) (hk : zs Z ad) {p : Program} {e : Env} {s : State} {m : MethodId} {args : Array Value} {below : List Frame} {meth : Method} {c : Code} {A : Nat → Prop} (a_this : Nat) (a_items : Nat) (k_items : ClassId) (n_items : Nat) (v_count : Int32) {post : (Nat → Int32) → Prop} (hx : p.tables.exec = Jvm.exec) (hb : c.code = c_It_reverse) (hml : c.maxLocals = 2) (hr : meth.sig.returnType = (none)) (hts : ∀ w ∈ tb, w.before args s = true) (hown : s.vm.findClass R_It = some m.cls) (hlocks : meth.locks = false) (hK : va_K D vwCl [(k_items, .int)] s) (hZ : Z A s s.heap) (hA : ∀ q, s.heap.size ≤ q → A q) : ∀ (n : Nat) (f_items : Nat → Int32) (y1 : Int32), w_It_reverse_2 post n_items v_count n f_items y1 → ∀ (H : Heap) (locs : List Loc), va_P D vwCl [(a_this, .inr (0, [.ref a_items, .int v_count])), (a_items, .inl (k_items, n_items, .inl f_items))] H → va_D A [(a_this, .inr (0, [.ref a_items, .int v_count])), (a_items, .inl (k_items, n_items, .inl f_items))] → va_S A s.heap H locs → ∀ ls : Array Slot, lv_has ls 2 [(0, .ref a_this), (1, .int y1)] → W p l e (headSpec ws_It_reverse rm_It_reverse).room s m args below meth c H locs 0 0 (MQ below (va_Qv (fun u : (Nat → Int32) => post u) (fun u t => at_ D vwCl [(k_items, .int)] A [(a_this, .inr (0, [.ref a_items, .int v_count])), (a_items, .inl (k_items, n_items, .inl u))] t) A) args s 0 0 A) (F0 m 2 ls []) := by
  intro n
  induction n with
  | zero =>
    intro f_items y1 hw
    unfold w_It_reverse_2 at hw
    exact hw.elim
  | succ n ih =>
    intro f_items y1 hw H locs hP hD hS ls hl
    unfold w_It_reverse_2 at hw
    refine lv_iload_n hx hb d_It_reverse_2 rfl (lv_at hl 1 rfl) ?_
    refine lv_aload_n hx hb d_It_reverse_3 rfl (lv_at hl 0 rfl) ?_
    refine va_get (D := D) (ci := 0) (v := .int v_count) (C := R_It) (T := T_It) (N := 2) hx hb hts in_It hown hK hP 0 rfl rfl 1 (by decide) (hts _ mm_74) (fun _ h9 => h9) rfl d_It_reverse_4 ?_
    refine lv_iconst (v := 2) hx hb d_It_reverse_7 (by decide) ?_
    refine lv_idiv hx hb d_It_reverse_8 (by decide) ?_
    refine lv_icmp_ge (tgt := 41) hx hb d_It_reverse_9 (by decide) (fun c1 => ?_) (fun c1 => ?_)
    · have hw := hw.1 c1
      have hP9 := hP.sub (ws' := [(a_this, .inr (0, [.ref a_items, .int v_count])), (a_items, .inl (k_items, n_items, .inl f_items))]) [0, 1] rfl
      have hD9 := hD.sub (ws' := [(a_this, .inr (0, [.ref a_items, .int v_count])), (a_items, .inl (k_items, n_items, .inl f_items))]) [0, 1] (by decide) rfl
      exact W.vret hx hb hr (fun t ht hW => ⟨⟨f_items, rfl, hw, by rw [ht]; exact hP9, va_K.moved hW.alike hK, hD9⟩, hS.F ht⟩) hS.2.2 d_It_reverse_41
    · have hw := hw.2 c1
      refine lv_aload_n hx hb d_It_reverse_12 rfl (lv_at hl 0 rfl) ?_
      refine lv_iload_n hx hb d_It_reverse_13 rfl (lv_at hl 1 rfl) ?_
      refine lv_aload_n hx hb d_It_reverse_14 rfl (lv_at hl 0 rfl) ?_
      refine lv_aload_n hx hb d_It_reverse_15 rfl (lv_at hl 0 rfl) ?_
      refine va_get (D := D) (ci := 0) (v := .int v_count) (C := R_It) (T := T_It) (N := 2) hx hb hts in_It hown hK hP 0 rfl rfl 1 (by decide) (hts _ mm_74) (fun _ h9 => h9) rfl d_It_reverse_16 ?_
      refine lv_iconst (v := 1) hx hb d_It_reverse_19 (by decide) ?_
      refine lv_isub hx hb d_It_reverse_20 ?_
      refine lv_iload_n hx hb d_It_reverse_21 rfl (lv_at hl 1 rfl) ?_
      refine lv_isub hx hb d_It_reverse_22 ?_
      refine lv_aload_n hx hb d_It_reverse_23 rfl (lv_at hl 0 rfl) ?_
      refine lv_iload_n hx hb d_It_reverse_24 rfl (lv_at hl 1 rfl) ?_
      refine k_roVi (As := [.int y1]) (rest := [.int ((v_count - 1) - y1), .ref a_this, .int y1, .ref a_this]) hz [0, 1] [0] 0 0 ⟨hx, hb, hml, hown, hts⟩ (met_It_at l D Z hz ad hk a_this a_items k_items n_items v_count f_items y1 hw) (cwV 1 hts (g_V mm_246 mm_167 mm_168 mm_42 mm_169) rfl rfl rfl hd_It_at ⟨Nat.le_of_ble_eq_true rfl, Nat.le_of_ble_eq_true rfl⟩) hP hK hZ hS rfl rfl rfl rfl rfl hl.1 rfl (Nat.le_of_ble_eq_true rfl) d_It_reverse_25 ⟨Nat.le_of_ble_eq_true rfl, Nat.le_of_ble_eq_true rfl⟩ (fun r2 hw => ?_)
      refine k_rwVi (As := [.int ((v_count - 1) - y1), .int r2]) (rest := [.int y1, .ref a_this]) (wr := []) hz [0, 1] [] [0] 0 0 ⟨hx, hb, hml, hown, hts⟩ (met_It_replace l D Z hz ad hk a_this a_items k_items n_items v_count f_items ((v_count - 1) - y1) r2 _ hw) (cwV 2 hts (g_V mm_247 mm_248 mm_249 mm_42 mm_250) rfl rfl rfl hd_It_replace ⟨Nat.le_of_ble_eq_true rfl, Nat.le_of_ble_eq_true rfl⟩) hP hD hK hZ hS hA rfl rfl rfl rfl rfl (by decide) rfl rfl rfl rfl hl.1 rfl (Nat.le_of_ble_eq_true rfl) d_It_reverse_28 ⟨Nat.le_of_ble_eq_true rfl, Nat.le_of_ble_eq_true rfl⟩ (fun r3 s4 H locs hw hP hD hS => ?_)
      try dsimp only at hw
      have hP : va_P D vwCl [(a_this, .inr (0, [.ref a_items, .int v_count])), (a_items, .inl (k_items, n_items, .inl s4))] H := hP
      have hD : va_D A [(a_this, .inr (0, [.ref a_items, .int v_count])), (a_items, .inl (k_items, n_items, .inl s4))] := hD
      refine k_rwVi (As := [.int y1, .int r3]) (rest := []) (wr := []) hz [0, 1] [] [0] 0 0 ⟨hx, hb, hml, hown, hts⟩ (met_It_replace l D Z hz ad hk a_this a_items k_items n_items v_count s4 y1 r3 _ hw) (cwV 2 hts (g_V mm_247 mm_248 mm_249 mm_42 mm_250) rfl rfl rfl hd_It_replace ⟨Nat.le_of_ble_eq_true rfl, Nat.le_of_ble_eq_true rfl⟩) hP hD hK hZ hS hA rfl rfl rfl rfl rfl (by decide) rfl rfl rfl rfl hl.1 rfl (Nat.le_of_ble_eq_true rfl) d_It_reverse_31 ⟨Nat.le_of_ble_eq_true rfl, Nat.le_of_ble_eq_true rfl⟩ (fun r5 s6 H locs hw hP hD hS => ?_)
      try dsimp only at hw
      have hP : va_P D vwCl [(a_this, .inr (0, [.ref a_items, .int v_count])), (a_items, .inl (k_items, n_items, .inl s6))] H := hP
      have hD : va_D A [(a_this, .inr (0, [.ref a_items, .int v_count])), (a_items, .inl (k_items, n_items, .inl s6))] := hD
      refine lv_pop hx hb d_It_reverse_34 rfl ?_
      refine lv_iinc (v := (y1 + 1)) (lv' := [(1, .int (y1 + 1)), (0, .ref a_this)]) hx hb d_It_reverse_35 hl (k := 1) rfl rfl (by decide) rfl (fun ls hl => ?_)
      refine lv_goto (tgt := 2) hx hb d_It_reverse_38 (by decide) ?_
      exact ih s6 (y1 + 1) hw _ _ (hP.sub [0, 1] rfl) (hD.sub [0, 1] (by decide) rfl) hS ls (lv_sub hl [1, 0] rfl)
set_option maxHeartbeats 4000000 in
set_option maxRecDepth 100000 in
theorem met_It_reverse (l : Launch) (D : va_G) (Z : (Nat → Prop) → State → Heap → Prop) (hz : zk Z) (ad : Nat → Nat) (hk : zs Z ad) (a_this : Nat) (a_items : Nat) (k_items : ClassId) (n_items : Nat) (v_count : Int32) (f_items : Nat → Int32) (sz : Nat) {post : (Nat → Int32) → Prop} (hw : w_It_reverse post n_items v_count f_items) : Met l y_It_reverse ws_It_reverse rm_It_reverse (va_Pc [.ref a_this] (rw_ D vwCl [(k_items, .int)] [(a_this, .inr (0, [.ref a_items, .int v_count])), (a_items, .inl (k_items, n_items, .inl f_items))] (Z) sz)) (va_Qv (fun u : (Nat → Int32) => post u) (fun u t => at_ D vwCl [(k_items, .int)] (va_A [(a_this, .inr (0, [.ref a_items, .int v_count])), (a_items, .inl (k_items, n_items, .inl f_items))] sz) [(a_this, .inr (0, [.ref a_items, .int v_count])), (a_items, .inl (k_items, n_items, .inl u))] t) (va_A [(a_this, .inr (0, [.ref a_items, .int v_count])), (a_items, .inl (k_items, n_items, .inl f_items))] sz)) 0 0 (va_A [(a_this, .inr (0, [.ref a_items, .int v_count])), (a_items, .inl (k_items, n_items, .inl f_items))] sz) := by
  refine Met.ofW (cc := c_It_reverse) (maxL := 2) (ret := (none)) (by decide) rfl ?_
  intro p e s m args below meth c s₁ B hml hv
  obtain ⟨rfl, hsz, hP, hK, hD0, hZ⟩ := hv
  have hx := B.exec
  have hb := B.bytes
  have hr := B.returns
  have hts0 := atoms_spec (ws := ws_It_reverse) B.pre
  have hts := fun (w : Cond) (h : w ∈ tb) => hts0 w (List.mem_cons_of_mem _ h)
  have hown : s.vm.findClass R_It = some m.cls := findClass_of_methodNamed B.named
  have hlocks := B.notSynchronized
  subst hsz
  have hD := hD0.self (sz := s.heap.size)
  generalize hAe : va_A [(a_this, .inr (0, [.ref a_items, .int v_count])), (a_items, .inl (k_items, n_items, .inl f_items))] s.heap.size = A at hD hZ ⊢
  have hA : ∀ q : Nat, s.heap.size ≤ q → A q := fun q h => by rw [← hAe]; exact Or.inr h
  have hS : va_S A s.heap s.heap [] := va_S.rf
  have hl := lv_entry ([.ref a_this]) (n := 2) (Nat.le_of_ble_eq_true rfl)
  rw [lg_entry_eq]
  generalize (lg_sl ([.ref a_this]) ++ List.replicate (2 - (lg_sl ([.ref a_this])).length) Slot.unset).toArray = ls at hl ⊢
  have hl : lv_has ls 2 [(0, .ref a_this)] := hl
  unfold w_It_reverse at hw
  refine lv_iconst (v := 0) hx hb d_It_reverse_0 (by decide) ?_
  refine lv_istore_n (lv' := [(1, .int 0), (0, .ref a_this)]) hx hb d_It_reverse_1 rfl hl (by decide) rfl (fun ls hl => ?_)
  obtain ⟨n9, hw⟩ := hw
  exact lp_It_reverse_2 l D Z hz ad hk a_this a_items k_items n_items v_count hx hb hml hr hts hown hlocks hK hZ hA n9 f_items 0 hw _ _ (hP.sub [0, 1] rfl) (hD.sub [0, 1] (by decide) rfl) hS ls (lv_sub hl [1, 0] rfl)
