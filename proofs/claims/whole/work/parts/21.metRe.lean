-- LineCodes$Reader.sumOf(II)I
def w_Re_sumOf_5 (post : Int32 → Prop) (v_strip_count : Int32) (f_strip_items : Nat → Int32) (x1 : Int32) (x2 : Int32) : Nat → Int32 → Int32 → Prop
  | 0, _, _ => False
  | n + 1, y3, y4 => (x2 ≤ y4 → post y3) ∧ (¬ x2 ≤ y4 → w_It_at (fun r2 => w_Re_sumOf_5 post v_strip_count f_strip_items x1 x2 n (y3 + r2) (y4 + 1)) 800 v_strip_count f_strip_items (x1 + y4))
def w_Re_sumOf (post : Int32 → Prop) (v_strip_count : Int32) (f_strip_items : Nat → Int32) (x1 : Int32) (x2 : Int32) : Prop := ∃ k5, w_Re_sumOf_5 post v_strip_count f_strip_items x1 x2 k5 0 0
abbrev rm_Re_sumOf : Room := { frames := 1, cells := 0, slots := 0, locals := 21 }
set_option maxHeartbeats 4000000 in
set_option maxRecDepth 100000 in
theorem lp_Re_sumOf_5 (l : Launch) (D : va_G) (Z : (Nat → Prop) → State → Heap → Prop) (hz : zk Z) (ad : Nat → Nat) (hk : zs Z ad) {p : Program} {e : Env} {s : State} {m : MethodId} {args : Array Value} {below : List Frame} {meth : Method} {c : Code} (a_this : Nat) (a_strip : Nat) (a_strip_items : Nat) (a_told : Nat) (a_told_items : Nat) (k_strip_items : ClassId) (k_told_items : ClassId) (v_fromBack : Int32) (v_set : Int32) (v_shifted : Int32) (v_strip_count : Int32) (f_strip_items : Nat → Int32) (v_told_count : Int32) (f_told_items : Nat → Int32) (x1 : Int32) (x2 : Int32) {post : Int32 → Prop} (hx : p.tables.exec = Jvm.exec) (hb : c.code = c_Re_sumOf) (hml : c.maxLocals = 5) (hr : meth.sig.returnType = (some .int)) (hts : ∀ w ∈ tb, w.before args s = true) (hown : s.vm.findClass R_Re = some m.cls) (hlocks : meth.locks = false) (hK : va_K D vwCl [(k_strip_items, .int), (k_told_items, .int)] s) (hZ : Z (fun _ => False) s s.heap) (hP : va_P D vwCl [(a_this, .inr (2, [.ref a_strip, .ref a_told, .int v_fromBack, .int v_set, .int v_shifted])), (a_strip, .inr (0, [.ref a_strip_items, .int v_strip_count])), (a_strip_items, .inl (k_strip_items, 800, .inl f_strip_items)), (a_told, .inr (0, [.ref a_told_items, .int v_told_count])), (a_told_items, .inl (k_told_items, 260, .inl f_told_items))] s.heap) (hS : va_S (fun _ => False) s.heap s.heap []) : ∀ (n : Nat) (y3 : Int32) (y4 : Int32), w_Re_sumOf_5 post v_strip_count f_strip_items x1 x2 n y3 y4 → ∀ ls : Array Slot, lv_has ls 5 [(0, .ref a_this), (1, .int x1), (2, .int x2), (3, .int y3), (4, .int y4)] → W p l e (headSpec ws_Re_sumOf rm_Re_sumOf).room s m args below meth c s.heap [] 0 0 (MQ below (vp_Si post) args s 0 0 (fun _ => False)) (F0 m 5 ls []) := by
  intro n
  induction n with
  | zero =>
    intro y3 y4 hw
    unfold w_Re_sumOf_5 at hw
    exact hw.elim
  | succ n ih =>
    intro y3 y4 hw ls hl
    unfold w_Re_sumOf_5 at hw
    refine lv_iload hx hb d_Re_sumOf_5 (lv_at hl 4 rfl) ?_
    refine lv_iload_n hx hb d_Re_sumOf_7 rfl (lv_at hl 2 rfl) ?_
    refine lv_icmp_ge (tgt := 31) hx hb d_Re_sumOf_8 (by decide) (fun c1 => ?_) (fun c1 => ?_)
    · have hw := hw.1 c1
      refine lv_iload_n hx hb d_Re_sumOf_31 rfl (lv_at hl 3 rfl) ?_
      exact W.iret (v := y3) hx hb hr (fun t ht hW => ⟨y3, rfl, hw, ht⟩) hS.2.2 d_Re_sumOf_32
    · have hw := hw.2 c1
      refine lv_iload_n hx hb d_Re_sumOf_11 rfl (lv_at hl 3 rfl) ?_
      refine lv_aload_n hx hb d_Re_sumOf_12 rfl (lv_at hl 0 rfl) ?_
      refine va_get (D := D) (ci := 2) (v := .ref a_strip) (C := R_Re) (T := T_Re) (N := 5) hx hb hts in_Re hown hK hP 0 rfl rfl 0 (by decide) (hts _ mm_105) (fun _ h9 => h9) rfl d_Re_sumOf_13 ?_
      refine lv_iload_n hx hb d_Re_sumOf_16 rfl (lv_at hl 1 rfl) ?_
      refine lv_iload hx hb d_Re_sumOf_17 (lv_at hl 4 rfl) ?_
      refine lv_iadd hx hb d_Re_sumOf_19 ?_
      refine k_roVi (As := [.int (x1 + y4)]) (rest := [.int y3]) hz [1, 2] [0] 1 0 ⟨hx, hb, hml, hown, hts⟩ (met_It_at l D Z hz ad hk a_strip a_strip_items k_strip_items 800 v_strip_count f_strip_items (x1 + y4) hw) (cwV 1 hts (g_V mm_273 mm_167 mm_168 mm_42 mm_169) rfl rfl rfl hd_It_at ⟨Nat.le_of_ble_eq_true rfl, Nat.le_of_ble_eq_true rfl⟩) hP hK hZ hS rfl rfl rfl rfl rfl hl.1 rfl (Nat.le_of_ble_eq_true rfl) d_Re_sumOf_20 ⟨Nat.le_of_ble_eq_true rfl, Nat.le_of_ble_eq_true rfl⟩ (fun r2 hw => ?_)
      refine lv_iadd hx hb d_Re_sumOf_23 ?_
      refine lv_istore_n (lv' := [(3, .int (y3 + r2)), (0, .ref a_this), (1, .int x1), (2, .int x2), (4, .int y4)]) hx hb d_Re_sumOf_24 rfl hl (by decide) rfl (fun ls hl => ?_)
      refine lv_iinc (v := (y4 + 1)) (lv' := [(4, .int (y4 + 1)), (3, .int (y3 + r2)), (0, .ref a_this), (1, .int x1), (2, .int x2)]) hx hb d_Re_sumOf_25 hl (k := 4) rfl rfl (by decide) rfl (fun ls hl => ?_)
      refine lv_goto (tgt := 5) hx hb d_Re_sumOf_28 (by decide) ?_
      exact ih (y3 + r2) (y4 + 1) hw ls (lv_sub hl [2, 3, 4, 1, 0] rfl)
set_option maxHeartbeats 4000000 in
set_option maxRecDepth 100000 in
theorem met_Re_sumOf (l : Launch) (D : va_G) (Z : (Nat → Prop) → State → Heap → Prop) (hz : zk Z) (ad : Nat → Nat) (hk : zs Z ad) (a_this : Nat) (a_strip : Nat) (a_strip_items : Nat) (a_told : Nat) (a_told_items : Nat) (k_strip_items : ClassId) (k_told_items : ClassId) (v_fromBack : Int32) (v_set : Int32) (v_shifted : Int32) (v_strip_count : Int32) (f_strip_items : Nat → Int32) (v_told_count : Int32) (f_told_items : Nat → Int32) (x1 : Int32) (x2 : Int32) {post : Int32 → Prop} (hw : w_Re_sumOf post v_strip_count f_strip_items x1 x2) : Met l y_Re_sumOf ws_Re_sumOf rm_Re_sumOf (va_Pc [.ref a_this, .int x1, .int x2] (ro_ D vwCl [(k_strip_items, .int), (k_told_items, .int)] [(a_this, .inr (2, [.ref a_strip, .ref a_told, .int v_fromBack, .int v_set, .int v_shifted])), (a_strip, .inr (0, [.ref a_strip_items, .int v_strip_count])), (a_strip_items, .inl (k_strip_items, 800, .inl f_strip_items)), (a_told, .inr (0, [.ref a_told_items, .int v_told_count])), (a_told_items, .inl (k_told_items, 260, .inl f_told_items))] (Z))) (vp_Si post) 0 0 (fun _ => False) := by
  refine Met.ofW (cc := c_Re_sumOf) (maxL := 5) (ret := (some .int)) (by decide) rfl ?_
  intro p e s m args below meth c s₁ B hml hv
  obtain ⟨rfl, hP, hK, hZ⟩ := hv
  have hx := B.exec
  have hb := B.bytes
  have hr := B.returns
  have hts0 := atoms_spec (ws := ws_Re_sumOf) B.pre
  have hts := fun (w : Cond) (h : w ∈ tb) => hts0 w (List.mem_cons_of_mem _ h)
  have hown : s.vm.findClass R_Re = some m.cls := findClass_of_methodNamed B.named
  have hlocks := B.notSynchronized
  have hS : va_S (fun _ => False) s.heap s.heap [] := va_S.rf
  have hl := lv_entry ([.ref a_this, .int x1, .int x2]) (n := 5) (Nat.le_of_ble_eq_true rfl)
  rw [lg_entry_eq]
  generalize (lg_sl ([.ref a_this, .int x1, .int x2]) ++ List.replicate (5 - (lg_sl ([.ref a_this, .int x1, .int x2])).length) Slot.unset).toArray = ls at hl ⊢
  have hl : lv_has ls 5 [(0, .ref a_this), (1, .int x1), (2, .int x2)] := hl
  unfold w_Re_sumOf at hw
  refine lv_iconst (v := 0) hx hb d_Re_sumOf_0 (by decide) ?_
  refine lv_istore_n (lv' := [(3, .int 0), (0, .ref a_this), (1, .int x1), (2, .int x2)]) hx hb d_Re_sumOf_1 rfl hl (by decide) rfl (fun ls hl => ?_)
  refine lv_iconst (v := 0) hx hb d_Re_sumOf_2 (by decide) ?_
  refine lv_istore (lv' := [(4, .int 0), (3, .int 0), (0, .ref a_this), (1, .int x1), (2, .int x2)]) hx hb d_Re_sumOf_3 hl (by decide) rfl (fun ls hl => ?_)
  obtain ⟨n9, hw⟩ := hw
  exact lp_Re_sumOf_5 l D Z hz ad hk a_this a_strip a_strip_items a_told a_told_items k_strip_items k_told_items v_fromBack v_set v_shifted v_strip_count f_strip_items v_told_count f_told_items x1 x2 hx hb hml hr hts hown hlocks hK hZ hP hS n9 0 0 hw ls (lv_sub hl [2, 3, 4, 1, 0] rfl)
-- LineCodes$Reader.countsOf(IIII)I
def w_Re_countsOf_14 (post : Int32 → Prop) (v_strip_count : Int32) (f_strip_items : Nat → Int32) (x1 : Int32) (x2 : Int32) (x3 : Int32) (x4 : Int32) : Nat → Int32 → Int32 → Prop
  | 0, _, _ => False
  | n + 1, y5, y6 => (x2 ≤ y6 → post y5) ∧ (¬ x2 ≤ y6 → w_It_at (fun r3 => ¬ (2 * x4) = 0 ∧ (((((2 * x3) * r3) + x4) / (2 * x4)) < 1 → post 0) ∧ (¬ ((((2 * x3) * r3) + x4) / (2 * x4)) < 1 → (((((2 * x3) * r3) + x4) / (2 * x4)) ≤ 4 → w_Re_countsOf_14 post v_strip_count f_strip_items x1 x2 x3 x4 n ((10 * y5) + ((((2 * x3) * r3) + x4) / (2 * x4))) (y6 + 1)) ∧ (¬ ((((2 * x3) * r3) + x4) / (2 * x4)) ≤ 4 → post 0))) 800 v_strip_count f_strip_items (x1 + y6))
def w_Re_countsOf (post : Int32 → Prop) (v_strip_count : Int32) (f_strip_items : Nat → Int32) (x1 : Int32) (x2 : Int32) (x3 : Int32) (x4 : Int32) : Prop := (1 ≤ x4 → ∃ k14, w_Re_countsOf_14 post v_strip_count f_strip_items x1 x2 x3 x4 k14 0 0) ∧ (¬ 1 ≤ x4 → post 0)
abbrev rm_Re_countsOf : Room := { frames := 1, cells := 0, slots := 0, locals := 21 }
set_option maxHeartbeats 4000000 in
set_option maxRecDepth 100000 in
theorem lp_Re_countsOf_14 (l : Launch) (D : va_G) (Z : (Nat → Prop) → State → Heap → Prop) (hz : zk Z) (ad : Nat → Nat) (hk : zs Z ad) {p : Program} {e : Env} {s : State} {m : MethodId} {args : Array Value} {below : List Frame} {meth : Method} {c : Code} (a_this : Nat) (a_strip : Nat) (a_strip_items : Nat) (a_told : Nat) (a_told_items : Nat) (k_strip_items : ClassId) (k_told_items : ClassId) (v_fromBack : Int32) (v_set : Int32) (v_shifted : Int32) (v_strip_count : Int32) (f_strip_items : Nat → Int32) (v_told_count : Int32) (f_told_items : Nat → Int32) (x1 : Int32) (x2 : Int32) (x3 : Int32) (x4 : Int32) {post : Int32 → Prop} (hx : p.tables.exec = Jvm.exec) (hb : c.code = c_Re_countsOf) (hml : c.maxLocals = 8) (hr : meth.sig.returnType = (some .int)) (hts : ∀ w ∈ tb, w.before args s = true) (hown : s.vm.findClass R_Re = some m.cls) (hlocks : meth.locks = false) (hK : va_K D vwCl [(k_strip_items, .int), (k_told_items, .int)] s) (hZ : Z (fun _ => False) s s.heap) (hP : va_P D vwCl [(a_this, .inr (2, [.ref a_strip, .ref a_told, .int v_fromBack, .int v_set, .int v_shifted])), (a_strip, .inr (0, [.ref a_strip_items, .int v_strip_count])), (a_strip_items, .inl (k_strip_items, 800, .inl f_strip_items)), (a_told, .inr (0, [.ref a_told_items, .int v_told_count])), (a_told_items, .inl (k_told_items, 260, .inl f_told_items))] s.heap) (hS : va_S (fun _ => False) s.heap s.heap []) : ∀ (n : Nat) (y5 : Int32) (y6 : Int32), w_Re_countsOf_14 post v_strip_count f_strip_items x1 x2 x3 x4 n y5 y6 → ∀ ls : Array Slot, lv_has ls 8 [(0, .ref a_this), (1, .int x1), (2, .int x2), (3, .int x3), (4, .int x4), (5, .int y5), (6, .int y6)] → W p l e (headSpec ws_Re_countsOf rm_Re_countsOf).room s m args below meth c s.heap [] 0 0 (MQ below (vp_Si post) args s 0 0 (fun _ => False)) (F0 m 14 ls []) := by
  intro n
  induction n with
  | zero =>
    intro y5 y6 hw
    unfold w_Re_countsOf_14 at hw
    exact hw.elim
  | succ n ih =>
    intro y5 y6 hw ls hl
    unfold w_Re_countsOf_14 at hw
    refine lv_iload hx hb d_Re_countsOf_14 (lv_at hl 6 rfl) ?_
    refine lv_iload_n hx hb d_Re_countsOf_16 rfl (lv_at hl 2 rfl) ?_
    refine lv_icmp_ge (tgt := 75) hx hb d_Re_countsOf_17 (by decide) (fun c2 => ?_) (fun c2 => ?_)
    · have hw := hw.1 c2
      refine lv_iload hx hb d_Re_countsOf_75 (lv_at hl 5 rfl) ?_
      exact W.iret (v := y5) hx hb hr (fun t ht hW => ⟨y5, rfl, hw, ht⟩) hS.2.2 d_Re_countsOf_77
    · have hw := hw.2 c2
      refine lv_iconst (v := 2) hx hb d_Re_countsOf_20 (by decide) ?_
      refine lv_iload_n hx hb d_Re_countsOf_21 rfl (lv_at hl 3 rfl) ?_
      refine lv_imul hx hb d_Re_countsOf_22 ?_
      refine lv_aload_n hx hb d_Re_countsOf_23 rfl (lv_at hl 0 rfl) ?_
      refine va_get (D := D) (ci := 2) (v := .ref a_strip) (C := R_Re) (T := T_Re) (N := 5) hx hb hts in_Re hown hK hP 0 rfl rfl 0 (by decide) (hts _ mm_105) (fun _ h9 => h9) rfl d_Re_countsOf_24 ?_
      refine lv_iload_n hx hb d_Re_countsOf_27 rfl (lv_at hl 1 rfl) ?_
      refine lv_iload hx hb d_Re_countsOf_28 (lv_at hl 6 rfl) ?_
      refine lv_iadd hx hb d_Re_countsOf_30 ?_
      refine k_roVi (As := [.int (x1 + y6)]) (rest := [.int (2 * x3)]) hz [1, 2] [0] 1 0 ⟨hx, hb, hml, hown, hts⟩ (met_It_at l D Z hz ad hk a_strip a_strip_items k_strip_items 800 v_strip_count f_strip_items (x1 + y6) hw) (cwV 1 hts (g_V mm_273 mm_167 mm_168 mm_42 mm_169) rfl rfl rfl hd_It_at ⟨Nat.le_of_ble_eq_true rfl, Nat.le_of_ble_eq_true rfl⟩) hP hK hZ hS rfl rfl rfl rfl rfl hl.1 rfl (Nat.le_of_ble_eq_true rfl) d_Re_countsOf_31 ⟨Nat.le_of_ble_eq_true rfl, Nat.le_of_ble_eq_true rfl⟩ (fun r3 hw => ?_)
      refine lv_imul hx hb d_Re_countsOf_34 ?_
      refine lv_iload hx hb d_Re_countsOf_35 (lv_at hl 4 rfl) ?_
      refine lv_iadd hx hb d_Re_countsOf_37 ?_
      refine lv_iconst (v := 2) hx hb d_Re_countsOf_38 (by decide) ?_
      refine lv_iload hx hb d_Re_countsOf_39 (lv_at hl 4 rfl) ?_
      refine lv_imul hx hb d_Re_countsOf_41 ?_
      have hn42 := hw.1
      have hw := hw.2
      refine lv_idiv hx hb d_Re_countsOf_42 hn42 ?_
      refine lv_istore (lv' := [(7, .int ((((2 * x3) * r3) + x4) / (2 * x4))), (0, .ref a_this), (1, .int x1), (2, .int x2), (3, .int x3), (4, .int x4), (5, .int y5), (6, .int y6)]) hx hb d_Re_countsOf_43 hl (by decide) rfl (fun ls hl => ?_)
      refine lv_iload hx hb d_Re_countsOf_45 (lv_at hl 0 rfl) ?_
      refine lv_iconst (v := 1) hx hb d_Re_countsOf_47 (by decide) ?_
      refine lv_icmp_lt (tgt := 57) hx hb d_Re_countsOf_48 (by decide) (fun c4 => ?_) (fun c4 => ?_)
      · have hw := hw.1 c4
        refine lv_iconst (v := 0) hx hb d_Re_countsOf_57 (by decide) ?_
        exact W.iret (v := 0) hx hb hr (fun t ht hW => ⟨0, rfl, hw, ht⟩) hS.2.2 d_Re_countsOf_58
      · have hw := hw.2 c4
        refine lv_iload hx hb d_Re_countsOf_51 (lv_at hl 0 rfl) ?_
        refine lv_iconst (v := 4) hx hb d_Re_countsOf_53 (by decide) ?_
        refine lv_icmp_le (tgt := 59) hx hb d_Re_countsOf_54 (by decide) (fun c5 => ?_) (fun c5 => ?_)
        · have hw := hw.1 c5
          refine lv_bipush (v := 10) hx hb d_Re_countsOf_59 (by decide) ?_
          refine lv_iload hx hb d_Re_countsOf_61 (lv_at hl 6 rfl) ?_
          refine lv_imul hx hb d_Re_countsOf_63 ?_
          refine lv_iload hx hb d_Re_countsOf_64 (lv_at hl 0 rfl) ?_
          refine lv_iadd hx hb d_Re_countsOf_66 ?_
          refine lv_istore (lv' := [(5, .int ((10 * y5) + ((((2 * x3) * r3) + x4) / (2 * x4)))), (7, .int ((((2 * x3) * r3) + x4) / (2 * x4))), (0, .ref a_this), (1, .int x1), (2, .int x2), (3, .int x3), (4, .int x4), (6, .int y6)]) hx hb d_Re_countsOf_67 hl (by decide) rfl (fun ls hl => ?_)
          refine lv_iinc (v := (y6 + 1)) (lv' := [(6, .int (y6 + 1)), (5, .int ((10 * y5) + ((((2 * x3) * r3) + x4) / (2 * x4)))), (7, .int ((((2 * x3) * r3) + x4) / (2 * x4))), (0, .ref a_this), (1, .int x1), (2, .int x2), (3, .int x3), (4, .int x4)]) hx hb d_Re_countsOf_69 hl (k := 7) rfl rfl (by decide) rfl (fun ls hl => ?_)
          refine lv_goto (tgt := 14) hx hb d_Re_countsOf_72 (by decide) ?_
          exact ih ((10 * y5) + ((((2 * x3) * r3) + x4) / (2 * x4))) (y6 + 1) hw ls (lv_sub hl [3, 4, 5, 6, 7, 1, 0] rfl)
        · have hw := hw.2 c5
          refine lv_iconst (v := 0) hx hb d_Re_countsOf_57 (by decide) ?_
          exact W.iret (v := 0) hx hb hr (fun t ht hW => ⟨0, rfl, hw, ht⟩) hS.2.2 d_Re_countsOf_58
set_option maxHeartbeats 4000000 in
set_option maxRecDepth 100000 in
theorem met_Re_countsOf (l : Launch) (D : va_G) (Z : (Nat → Prop) → State → Heap → Prop) (hz : zk Z) (ad : Nat → Nat) (hk : zs Z ad) (a_this : Nat) (a_strip : Nat) (a_strip_items : Nat) (a_told : Nat) (a_told_items : Nat) (k_strip_items : ClassId) (k_told_items : ClassId) (v_fromBack : Int32) (v_set : Int32) (v_shifted : Int32) (v_strip_count : Int32) (f_strip_items : Nat → Int32) (v_told_count : Int32) (f_told_items : Nat → Int32) (x1 : Int32) (x2 : Int32) (x3 : Int32) (x4 : Int32) {post : Int32 → Prop} (hw : w_Re_countsOf post v_strip_count f_strip_items x1 x2 x3 x4) : Met l y_Re_countsOf ws_Re_countsOf rm_Re_countsOf (va_Pc [.ref a_this, .int x1, .int x2, .int x3, .int x4] (ro_ D vwCl [(k_strip_items, .int), (k_told_items, .int)] [(a_this, .inr (2, [.ref a_strip, .ref a_told, .int v_fromBack, .int v_set, .int v_shifted])), (a_strip, .inr (0, [.ref a_strip_items, .int v_strip_count])), (a_strip_items, .inl (k_strip_items, 800, .inl f_strip_items)), (a_told, .inr (0, [.ref a_told_items, .int v_told_count])), (a_told_items, .inl (k_told_items, 260, .inl f_told_items))] (Z))) (vp_Si post) 0 0 (fun _ => False) := by
  refine Met.ofW (cc := c_Re_countsOf) (maxL := 8) (ret := (some .int)) (by decide) rfl ?_
  intro p e s m args below meth c s₁ B hml hv
  obtain ⟨rfl, hP, hK, hZ⟩ := hv
  have hx := B.exec
  have hb := B.bytes
  have hr := B.returns
  have hts0 := atoms_spec (ws := ws_Re_countsOf) B.pre
  have hts := fun (w : Cond) (h : w ∈ tb) => hts0 w (List.mem_cons_of_mem _ h)
  have hown : s.vm.findClass R_Re = some m.cls := findClass_of_methodNamed B.named
  have hlocks := B.notSynchronized
  have hS : va_S (fun _ => False) s.heap s.heap [] := va_S.rf
  have hl := lv_entry ([.ref a_this, .int x1, .int x2, .int x3, .int x4]) (n := 8) (Nat.le_of_ble_eq_true rfl)
  rw [lg_entry_eq]
  generalize (lg_sl ([.ref a_this, .int x1, .int x2, .int x3, .int x4]) ++ List.replicate (8 - (lg_sl ([.ref a_this, .int x1, .int x2, .int x3, .int x4])).length) Slot.unset).toArray = ls at hl ⊢
  have hl : lv_has ls 8 [(0, .ref a_this), (1, .int x1), (2, .int x2), (3, .int x3), (4, .int x4)] := hl
  unfold w_Re_countsOf at hw
  refine lv_iload hx hb d_Re_countsOf_0 (lv_at hl 4 rfl) ?_
  refine lv_iconst (v := 1) hx hb d_Re_countsOf_2 (by decide) ?_
  refine lv_icmp_ge (tgt := 8) hx hb d_Re_countsOf_3 (by decide) (fun c1 => ?_) (fun c1 => ?_)
  · have hw := hw.1 c1
    refine lv_iconst (v := 0) hx hb d_Re_countsOf_8 (by decide) ?_
    refine lv_istore (lv' := [(5, .int 0), (0, .ref a_this), (1, .int x1), (2, .int x2), (3, .int x3), (4, .int x4)]) hx hb d_Re_countsOf_9 hl (by decide) rfl (fun ls hl => ?_)
    refine lv_iconst (v := 0) hx hb d_Re_countsOf_11 (by decide) ?_
    refine lv_istore (lv' := [(6, .int 0), (5, .int 0), (0, .ref a_this), (1, .int x1), (2, .int x2), (3, .int x3), (4, .int x4)]) hx hb d_Re_countsOf_12 hl (by decide) rfl (fun ls hl => ?_)
    obtain ⟨n9, hw⟩ := hw
    exact lp_Re_countsOf_14 l D Z hz ad hk a_this a_strip a_strip_items a_told a_told_items k_strip_items k_told_items v_fromBack v_set v_shifted v_strip_count f_strip_items v_told_count f_told_items x1 x2 x3 x4 hx hb hml hr hts hown hlocks hK hZ hP hS n9 0 0 hw ls (lv_sub hl [2, 3, 4, 5, 6, 1, 0] rfl)
  · have hw := hw.2 c1
    refine lv_iconst (v := 0) hx hb d_Re_countsOf_6 (by decide) ?_
    exact W.iret (v := 0) hx hb hr (fun t ht hW => ⟨0, rfl, hw, ht⟩) hS.2.2 d_Re_countsOf_7
-- LineCodes$Reader.areSidesAndMiddleRight()Z
def w_Re_areSidesAndMiddleRight (post : Int32 → Prop) (v_strip_count : Int32) (f_strip_items : Nat → Int32) : Prop := w_Re_sumOf (fun r1 => w_Re_countsOf (fun r2 => (¬ r2 = 111 → post 0) ∧ (r2 = 111 → w_Re_countsOf (fun r4 => (¬ r4 = 11111 → post 0) ∧ (r4 = 11111 → w_Re_countsOf (fun r6 => (¬ r6 = 111 → post 0) ∧ (r6 = 111 → post 1)) v_strip_count f_strip_items 56 3 95 r1)) v_strip_count f_strip_items 27 5 95 r1)) v_strip_count f_strip_items 0 3 95 r1) v_strip_count f_strip_items 0 59
abbrev rm_Re_areSidesAndMiddleRight : Room := { frames := 2, cells := 0, slots := 0, locals := 48 }
set_option maxHeartbeats 4000000 in
set_option maxRecDepth 100000 in
theorem met_Re_areSidesAndMiddleRight (l : Launch) (D : va_G) (Z : (Nat → Prop) → State → Heap → Prop) (hz : zk Z) (ad : Nat → Nat) (hk : zs Z ad) (a_this : Nat) (a_strip : Nat) (a_strip_items : Nat) (a_told : Nat) (a_told_items : Nat) (k_strip_items : ClassId) (k_told_items : ClassId) (v_fromBack : Int32) (v_set : Int32) (v_shifted : Int32) (v_strip_count : Int32) (f_strip_items : Nat → Int32) (v_told_count : Int32) (f_told_items : Nat → Int32) {post : Int32 → Prop} (hw : w_Re_areSidesAndMiddleRight post v_strip_count f_strip_items) : Met l y_Re_areSidesAndMiddleRight ws_Re_areSidesAndMiddleRight rm_Re_areSidesAndMiddleRight (va_Pc [.ref a_this] (ro_ D vwCl [(k_strip_items, .int), (k_told_items, .int)] [(a_this, .inr (2, [.ref a_strip, .ref a_told, .int v_fromBack, .int v_set, .int v_shifted])), (a_strip, .inr (0, [.ref a_strip_items, .int v_strip_count])), (a_strip_items, .inl (k_strip_items, 800, .inl f_strip_items)), (a_told, .inr (0, [.ref a_told_items, .int v_told_count])), (a_told_items, .inl (k_told_items, 260, .inl f_told_items))] (Z))) (vp_Si post) 0 0 (fun _ => False) := by
  refine Met.ofW (cc := c_Re_areSidesAndMiddleRight) (maxL := 2) (ret := (some .boolean)) (by decide) rfl ?_
  intro p e s m args below meth c s₁ B hml hv
  obtain ⟨rfl, hP, hK, hZ⟩ := hv
  have hx := B.exec
  have hb := B.bytes
  have hr := B.returns
  have hts0 := atoms_spec (ws := ws_Re_areSidesAndMiddleRight) B.pre
  have hts := fun (w : Cond) (h : w ∈ tb) => hts0 w (List.mem_cons_of_mem _ h)
  have hown : s.vm.findClass R_Re = some m.cls := findClass_of_methodNamed B.named
  have hlocks := B.notSynchronized
  have hS : va_S (fun _ => False) s.heap s.heap [] := va_S.rf
  have hl := lv_entry ([.ref a_this]) (n := 2) (Nat.le_of_ble_eq_true rfl)
  rw [lg_entry_eq]
  generalize (lg_sl ([.ref a_this]) ++ List.replicate (2 - (lg_sl ([.ref a_this])).length) Slot.unset).toArray = ls at hl ⊢
  have hl : lv_has ls 2 [(0, .ref a_this)] := hl
  unfold w_Re_areSidesAndMiddleRight at hw
  refine lv_aload_n hx hb d_Re_areSidesAndMiddleRight_0 rfl (lv_at hl 0 rfl) ?_
  refine lv_iconst (v := 0) hx hb d_Re_areSidesAndMiddleRight_1 (by decide) ?_
  refine lv_bipush (v := 59) hx hb d_Re_areSidesAndMiddleRight_2 (by decide) ?_
  refine k_roVi (As := [.int 0, .int 59]) (rest := []) hz [0, 1, 2, 3, 4] [0, 1] 0 2 ⟨hx, hb, hml, hown, hts⟩ (met_Re_sumOf l D Z hz ad hk a_this a_strip a_strip_items a_told a_told_items k_strip_items k_told_items v_fromBack v_set v_shifted v_strip_count f_strip_items v_told_count f_told_items 0 59 hw) (cwV 2 hts (g_V mm_269 mm_271 mm_11 mm_45 mm_272) rfl rfl rfl hd_Re_sumOf ⟨Nat.le_of_ble_eq_true rfl, Nat.le_of_ble_eq_true rfl⟩) hP hK hZ hS rfl rfl rfl rfl rfl hl.1 rfl (Nat.le_of_ble_eq_true rfl) d_Re_areSidesAndMiddleRight_4 ⟨Nat.le_of_ble_eq_true rfl, Nat.le_of_ble_eq_true rfl⟩ (fun r1 hw => ?_)
  refine lv_istore_n (lv' := [(1, .int r1), (0, .ref a_this)]) hx hb d_Re_areSidesAndMiddleRight_7 rfl hl (by decide) rfl (fun ls hl => ?_)
  refine lv_aload_n hx hb d_Re_areSidesAndMiddleRight_8 rfl (lv_at hl 1 rfl) ?_
  refine lv_iconst (v := 0) hx hb d_Re_areSidesAndMiddleRight_9 (by decide) ?_
  refine lv_iconst (v := 3) hx hb d_Re_areSidesAndMiddleRight_10 (by decide) ?_
  refine lv_bipush (v := 95) hx hb d_Re_areSidesAndMiddleRight_11 (by decide) ?_
  refine lv_iload_n hx hb d_Re_areSidesAndMiddleRight_13 rfl (lv_at hl 0 rfl) ?_
  refine k_roVi (As := [.int 0, .int 3, .int 95, .int r1]) (rest := []) hz [0, 1, 2, 3, 4] [0, 1] 0 2 ⟨hx, hb, hml, hown, hts⟩ (met_Re_countsOf l D Z hz ad hk a_this a_strip a_strip_items a_told a_told_items k_strip_items k_told_items v_fromBack v_set v_shifted v_strip_count f_strip_items v_told_count f_told_items 0 3 95 r1 hw) (cwV 4 hts (g_V mm_274 mm_276 mm_12 mm_45 mm_277) rfl rfl rfl hd_Re_countsOf ⟨Nat.le_of_ble_eq_true rfl, Nat.le_of_ble_eq_true rfl⟩) hP hK hZ hS rfl rfl rfl rfl rfl hl.1 rfl (Nat.le_of_ble_eq_true rfl) d_Re_areSidesAndMiddleRight_14 ⟨Nat.le_of_ble_eq_true rfl, Nat.le_of_ble_eq_true rfl⟩ (fun r2 hw => ?_)
  refine lv_bipush (v := 111) hx hb d_Re_areSidesAndMiddleRight_17 (by decide) ?_
  refine lv_icmp_ne (tgt := 57) hx hb d_Re_areSidesAndMiddleRight_19 (by decide) (fun c3 => ?_) (fun c3 => ?_)
  · have hw := hw.1 c3
    refine lv_iconst (v := 0) hx hb d_Re_areSidesAndMiddleRight_57 (by decide) ?_
    exact W.zret (v := 0) (ty := .boolean) hx hb hr rfl (fun t ht hW => ⟨0, rfl, hw, ht⟩) hS.2.2 d_Re_areSidesAndMiddleRight_58
  · have hw := hw.2 c3
    refine lv_aload_n hx hb d_Re_areSidesAndMiddleRight_22 rfl (lv_at hl 1 rfl) ?_
    refine lv_bipush (v := 27) hx hb d_Re_areSidesAndMiddleRight_23 (by decide) ?_
    refine lv_iconst (v := 5) hx hb d_Re_areSidesAndMiddleRight_25 (by decide) ?_
    refine lv_bipush (v := 95) hx hb d_Re_areSidesAndMiddleRight_26 (by decide) ?_
    refine lv_iload_n hx hb d_Re_areSidesAndMiddleRight_28 rfl (lv_at hl 0 rfl) ?_
    refine k_roVi (As := [.int 27, .int 5, .int 95, .int r1]) (rest := []) hz [0, 1, 2, 3, 4] [0, 1] 0 2 ⟨hx, hb, hml, hown, hts⟩ (met_Re_countsOf l D Z hz ad hk a_this a_strip a_strip_items a_told a_told_items k_strip_items k_told_items v_fromBack v_set v_shifted v_strip_count f_strip_items v_told_count f_told_items 27 5 95 r1 hw) (cwV 4 hts (g_V mm_274 mm_276 mm_12 mm_45 mm_277) rfl rfl rfl hd_Re_countsOf ⟨Nat.le_of_ble_eq_true rfl, Nat.le_of_ble_eq_true rfl⟩) hP hK hZ hS rfl rfl rfl rfl rfl hl.1 rfl (Nat.le_of_ble_eq_true rfl) d_Re_areSidesAndMiddleRight_29 ⟨Nat.le_of_ble_eq_true rfl, Nat.le_of_ble_eq_true rfl⟩ (fun r4 hw => ?_)
    refine lv_sipush (v := 11111) hx hb d_Re_areSidesAndMiddleRight_32 (by decide) ?_
    refine lv_icmp_ne (tgt := 57) hx hb d_Re_areSidesAndMiddleRight_35 (by decide) (fun c5 => ?_) (fun c5 => ?_)
    · have hw := hw.1 c5
      refine lv_iconst (v := 0) hx hb d_Re_areSidesAndMiddleRight_57 (by decide) ?_
      exact W.zret (v := 0) (ty := .boolean) hx hb hr rfl (fun t ht hW => ⟨0, rfl, hw, ht⟩) hS.2.2 d_Re_areSidesAndMiddleRight_58
    · have hw := hw.2 c5
      refine lv_aload_n hx hb d_Re_areSidesAndMiddleRight_38 rfl (lv_at hl 1 rfl) ?_
      refine lv_bipush (v := 56) hx hb d_Re_areSidesAndMiddleRight_39 (by decide) ?_
      refine lv_iconst (v := 3) hx hb d_Re_areSidesAndMiddleRight_41 (by decide) ?_
      refine lv_bipush (v := 95) hx hb d_Re_areSidesAndMiddleRight_42 (by decide) ?_
      refine lv_iload_n hx hb d_Re_areSidesAndMiddleRight_44 rfl (lv_at hl 0 rfl) ?_
      refine k_roVi (As := [.int 56, .int 3, .int 95, .int r1]) (rest := []) hz [0, 1, 2, 3, 4] [0, 1] 0 2 ⟨hx, hb, hml, hown, hts⟩ (met_Re_countsOf l D Z hz ad hk a_this a_strip a_strip_items a_told a_told_items k_strip_items k_told_items v_fromBack v_set v_shifted v_strip_count f_strip_items v_told_count f_told_items 56 3 95 r1 hw) (cwV 4 hts (g_V mm_274 mm_276 mm_12 mm_45 mm_277) rfl rfl rfl hd_Re_countsOf ⟨Nat.le_of_ble_eq_true rfl, Nat.le_of_ble_eq_true rfl⟩) hP hK hZ hS rfl rfl rfl rfl rfl hl.1 rfl (Nat.le_of_ble_eq_true rfl) d_Re_areSidesAndMiddleRight_45 ⟨Nat.le_of_ble_eq_true rfl, Nat.le_of_ble_eq_true rfl⟩ (fun r6 hw => ?_)
      refine lv_bipush (v := 111) hx hb d_Re_areSidesAndMiddleRight_48 (by decide) ?_
      refine lv_icmp_ne (tgt := 57) hx hb d_Re_areSidesAndMiddleRight_50 (by decide) (fun c7 => ?_) (fun c7 => ?_)
      · have hw := hw.1 c7
        refine lv_iconst (v := 0) hx hb d_Re_areSidesAndMiddleRight_57 (by decide) ?_
        exact W.zret (v := 0) (ty := .boolean) hx hb hr rfl (fun t ht hW => ⟨0, rfl, hw, ht⟩) hS.2.2 d_Re_areSidesAndMiddleRight_58
      · have hw := hw.2 c7
        refine lv_iconst (v := 1) hx hb d_Re_areSidesAndMiddleRight_53 (by decide) ?_
        refine lv_goto (tgt := 58) hx hb d_Re_areSidesAndMiddleRight_54 (by decide) ?_
        exact W.zret (v := 1) (ty := .boolean) hx hb hr rfl (fun t ht hW => ⟨1, rfl, hw, ht⟩) hS.2.2 d_Re_areSidesAndMiddleRight_58
-- LineCodes$Reader.figureCountsAt(I)I
def w_Re_figureCountsAt (post : Int32 → Prop) (v_strip_count : Int32) (f_strip_items : Nat → Int32) (x1 : Int32) : Prop := w_Re_sumOf (fun r1 => w_Re_countsOf (fun r2 => post r2) v_strip_count f_strip_items x1 4 7 r1) v_strip_count f_strip_items x1 4
abbrev rm_Re_figureCountsAt : Room := { frames := 2, cells := 0, slots := 0, locals := 48 }
set_option maxHeartbeats 4000000 in
set_option maxRecDepth 100000 in
theorem met_Re_figureCountsAt (l : Launch) (D : va_G) (Z : (Nat → Prop) → State → Heap → Prop) (hz : zk Z) (ad : Nat → Nat) (hk : zs Z ad) (a_this : Nat) (a_strip : Nat) (a_strip_items : Nat) (a_told : Nat) (a_told_items : Nat) (k_strip_items : ClassId) (k_told_items : ClassId) (v_fromBack : Int32) (v_set : Int32) (v_shifted : Int32) (v_strip_count : Int32) (f_strip_items : Nat → Int32) (v_told_count : Int32) (f_told_items : Nat → Int32) (x1 : Int32) {post : Int32 → Prop} (hw : w_Re_figureCountsAt post v_strip_count f_strip_items x1) : Met l y_Re_figureCountsAt ws_Re_figureCountsAt rm_Re_figureCountsAt (va_Pc [.ref a_this, .int x1] (ro_ D vwCl [(k_strip_items, .int), (k_told_items, .int)] [(a_this, .inr (2, [.ref a_strip, .ref a_told, .int v_fromBack, .int v_set, .int v_shifted])), (a_strip, .inr (0, [.ref a_strip_items, .int v_strip_count])), (a_strip_items, .inl (k_strip_items, 800, .inl f_strip_items)), (a_told, .inr (0, [.ref a_told_items, .int v_told_count])), (a_told_items, .inl (k_told_items, 260, .inl f_told_items))] (Z))) (vp_Si post) 0 0 (fun _ => False) := by
  refine Met.ofW (cc := c_Re_figureCountsAt) (maxL := 3) (ret := (some .int)) (by decide) rfl ?_
  intro p e s m args below meth c s₁ B hml hv
  obtain ⟨rfl, hP, hK, hZ⟩ := hv
  have hx := B.exec
  have hb := B.bytes
  have hr := B.returns
  have hts0 := atoms_spec (ws := ws_Re_figureCountsAt) B.pre
  have hts := fun (w : Cond) (h : w ∈ tb) => hts0 w (List.mem_cons_of_mem _ h)
  have hown : s.vm.findClass R_Re = some m.cls := findClass_of_methodNamed B.named
  have hlocks := B.notSynchronized
  have hS : va_S (fun _ => False) s.heap s.heap [] := va_S.rf
  have hl := lv_entry ([.ref a_this, .int x1]) (n := 3) (Nat.le_of_ble_eq_true rfl)
  rw [lg_entry_eq]
  generalize (lg_sl ([.ref a_this, .int x1]) ++ List.replicate (3 - (lg_sl ([.ref a_this, .int x1])).length) Slot.unset).toArray = ls at hl ⊢
  have hl : lv_has ls 3 [(0, .ref a_this), (1, .int x1)] := hl
  unfold w_Re_figureCountsAt at hw
  refine lv_aload_n hx hb d_Re_figureCountsAt_0 rfl (lv_at hl 0 rfl) ?_
  refine lv_iload_n hx hb d_Re_figureCountsAt_1 rfl (lv_at hl 1 rfl) ?_
  refine lv_iconst (v := 4) hx hb d_Re_figureCountsAt_2 (by decide) ?_
  refine k_roVi (As := [.int x1, .int 4]) (rest := []) hz [0, 1, 2, 3, 4] [0, 1] 0 2 ⟨hx, hb, hml, hown, hts⟩ (met_Re_sumOf l D Z hz ad hk a_this a_strip a_strip_items a_told a_told_items k_strip_items k_told_items v_fromBack v_set v_shifted v_strip_count f_strip_items v_told_count f_told_items x1 4 hw) (cwV 2 hts (g_V mm_269 mm_271 mm_11 mm_45 mm_272) rfl rfl rfl hd_Re_sumOf ⟨Nat.le_of_ble_eq_true rfl, Nat.le_of_ble_eq_true rfl⟩) hP hK hZ hS rfl rfl rfl rfl rfl hl.1 rfl (Nat.le_of_ble_eq_true rfl) d_Re_figureCountsAt_3 ⟨Nat.le_of_ble_eq_true rfl, Nat.le_of_ble_eq_true rfl⟩ (fun r1 hw => ?_)
  refine lv_istore_n (lv' := [(2, .int r1), (0, .ref a_this), (1, .int x1)]) hx hb d_Re_figureCountsAt_6 rfl hl (by decide) rfl (fun ls hl => ?_)
  refine lv_aload_n hx hb d_Re_figureCountsAt_7 rfl (lv_at hl 1 rfl) ?_
  refine lv_iload_n hx hb d_Re_figureCountsAt_8 rfl (lv_at hl 2 rfl) ?_
  refine lv_iconst (v := 4) hx hb d_Re_figureCountsAt_9 (by decide) ?_
  refine lv_bipush (v := 7) hx hb d_Re_figureCountsAt_10 (by decide) ?_
  refine lv_iload_n hx hb d_Re_figureCountsAt_12 rfl (lv_at hl 0 rfl) ?_
  refine k_roVi (As := [.int x1, .int 4, .int 7, .int r1]) (rest := []) hz [0, 1, 2, 3, 4] [0, 1] 0 2 ⟨hx, hb, hml, hown, hts⟩ (met_Re_countsOf l D Z hz ad hk a_this a_strip a_strip_items a_told a_told_items k_strip_items k_told_items v_fromBack v_set v_shifted v_strip_count f_strip_items v_told_count f_told_items x1 4 7 r1 hw) (cwV 4 hts (g_V mm_274 mm_276 mm_12 mm_45 mm_277) rfl rfl rfl hd_Re_countsOf ⟨Nat.le_of_ble_eq_true rfl, Nat.le_of_ble_eq_true rfl⟩) hP hK hZ hS rfl rfl rfl rfl rfl hl.1 rfl (Nat.le_of_ble_eq_true rfl) d_Re_figureCountsAt_13 ⟨Nat.le_of_ble_eq_true rfl, Nat.le_of_ble_eq_true rfl⟩ (fun r2 hw => ?_)
  exact W.iret (v := r2) hx hb hr (fun t ht hW => ⟨r2, rfl, hw, ht⟩) hS.2.2 d_Re_figureCountsAt_16
-- LineCodes$Reader.isLeftHalf()Z
def w_Re_isLeftHalf_13 (post : Int32 → Int32 → (Nat → Int32) → Prop) (v_strip_count : Int32) (f_strip_items : Nat → Int32) : Nat → Int32 → (Nat → Int32) → Int32 → Int32 → Prop
  | 0, _, _, _, _ => False
  | n + 1, v_told_count, f_told_items, y1, y2 => (6 ≤ y2 → w_Wi_firstFigureWith (fun r5 => w_It_replace (fun r6 s7 => (r5 = (-1) → post 0 v_told_count s7) ∧ (¬ r5 = (-1) → post 1 v_told_count s7)) 260 v_told_count f_told_items 0 (48 + r5)) y1) ∧ (¬ 6 ≤ y2 → w_Re_figureCountsAt (fun r9 => w_Wi_figureWith (fun r10 => (¬ r10 = (-1) → (¬ r10 = (-1) → w_It_add (fun r13 s14 s15 => w_Re_isLeftHalf_13 post v_strip_count f_strip_items n s14 s15 ((2 * y1) + 0) (y2 + 1)) 260 v_told_count f_told_items (48 + r10)) ∧ (r10 = (-1) → post 0 v_told_count f_told_items)) ∧ (r10 = (-1) → w_Wi_turned (fun r16 => w_Wi_figureWith (fun r17 => (¬ r17 = (-1) → w_It_add (fun r19 s20 s21 => w_Re_isLeftHalf_13 post v_strip_count f_strip_items n s20 s21 ((2 * y1) + 1) (y2 + 1)) 260 v_told_count f_told_items (48 + r17)) ∧ (r17 = (-1) → post 0 v_told_count f_told_items)) r16) r9)) r9) v_strip_count f_strip_items (3 + (4 * y2)))
def w_Re_isLeftHalf (post : Int32 → Int32 → (Nat → Int32) → Prop) (v_strip_count : Int32) (f_strip_items : Nat → Int32) (v_told_count : Int32) (f_told_items : Nat → Int32) : Prop := w_It_add (fun r1 s2 s3 => ∃ k13, w_Re_isLeftHalf_13 post v_strip_count f_strip_items k13 s2 s3 0 0) 260 v_told_count f_told_items (-1)
abbrev rm_Re_isLeftHalf : Room := { frames := 3, cells := 0, slots := 0, locals := 70 }
set_option maxHeartbeats 4000000 in
set_option maxRecDepth 100000 in
theorem lp_Re_isLeftHalf_13 (l : Launch) (D : va_G) (Z : (Nat → Prop) → State → Heap → Prop) (hz : zk Z) (ad : Nat → Nat) (hk : zs Z ad) {p : Program} {e : Env} {s : State} {m : MethodId} {args : Array Value} {below : List Frame} {meth : Method} {c : Code} {A : Nat → Prop} (a_this : Nat) (a_strip : Nat) (a_strip_items : Nat) (a_told : Nat) (a_told_items : Nat) (k_strip_items : ClassId) (k_told_items : ClassId) (v_fromBack : Int32) (v_set : Int32) (v_shifted : Int32) (v_strip_count : Int32) (f_strip_items : Nat → Int32) {post : Int32 → Int32 → (Nat → Int32) → Prop} (hx : p.tables.exec = Jvm.exec) (hb : c.code = c_Re_isLeftHalf) (hml : c.maxLocals = 6) (hr : meth.sig.returnType = (some .boolean)) (hts : ∀ w ∈ tb, w.before args s = true) (hown : s.vm.findClass R_Re = some m.cls) (hlocks : meth.locks = false) (hK : va_K D vwCl [(k_strip_items, .int), (k_told_items, .int)] s) (hZ : Z A s s.heap) (hA : ∀ q, s.heap.size ≤ q → A q) : ∀ (n : Nat) (v_told_count : Int32) (f_told_items : Nat → Int32) (y1 : Int32) (y2 : Int32), w_Re_isLeftHalf_13 post v_strip_count f_strip_items n v_told_count f_told_items y1 y2 → ∀ (H : Heap) (locs : List Loc), va_P D vwCl [(a_this, .inr (2, [.ref a_strip, .ref a_told, .int v_fromBack, .int v_set, .int v_shifted])), (a_strip, .inr (0, [.ref a_strip_items, .int v_strip_count])), (a_strip_items, .inl (k_strip_items, 800, .inl f_strip_items)), (a_told, .inr (0, [.ref a_told_items, .int v_told_count])), (a_told_items, .inl (k_told_items, 260, .inl f_told_items))] H → va_D A [(a_this, .inr (2, [.ref a_strip, .ref a_told, .int v_fromBack, .int v_set, .int v_shifted])), (a_strip, .inr (0, [.ref a_strip_items, .int v_strip_count])), (a_strip_items, .inl (k_strip_items, 800, .inl f_strip_items)), (a_told, .inr (0, [.ref a_told_items, .int v_told_count])), (a_told_items, .inl (k_told_items, 260, .inl f_told_items))] → va_S A s.heap H locs → ∀ ls : Array Slot, lv_has ls 6 [(0, .ref a_this), (1, .int y1), (2, .int y2)] → W p l e (headSpec ws_Re_isLeftHalf rm_Re_isLeftHalf).room s m args below meth c H locs 0 0 (MQ below (va_Qi (fun (r : Int32) (u : Int32 × (Nat → Int32)) => post r u.1 u.2) (fun u t => at_ D vwCl [(k_strip_items, .int), (k_told_items, .int)] A [(a_this, .inr (2, [.ref a_strip, .ref a_told, .int v_fromBack, .int v_set, .int v_shifted])), (a_strip, .inr (0, [.ref a_strip_items, .int v_strip_count])), (a_strip_items, .inl (k_strip_items, 800, .inl f_strip_items)), (a_told, .inr (0, [.ref a_told_items, .int u.1])), (a_told_items, .inl (k_told_items, 260, .inl u.2))] t) A) args s 0 0 A) (F0 m 13 ls []) := by
  intro n
  induction n with
  | zero =>
    intro v_told_count f_told_items y1 y2 hw
    unfold w_Re_isLeftHalf_13 at hw
    exact hw.elim
  | succ n ih =>
    intro v_told_count f_told_items y1 y2 hw H locs hP hD hS ls hl
    unfold w_Re_isLeftHalf_13 at hw
    refine lv_iload_n hx hb d_Re_isLeftHalf_13 rfl (lv_at hl 2 rfl) ?_
    refine lv_bipush (v := 6) hx hb d_Re_isLeftHalf_14 (by decide) ?_
    refine lv_icmp_ge (tgt := 104) hx hb d_Re_isLeftHalf_16 (by decide) (fun c4 => ?_) (fun c4 => ?_)
    · have hw := hw.1 c4
      refine lv_iload_n hx hb d_Re_isLeftHalf_104 rfl (lv_at hl 1 rfl) ?_
      refine k_roSi (As := [.int y1]) (rest := []) hz [] [] ⟨hx, hb, hml, hown, hts⟩ (met_Wi_firstFigureWith l D Z hz ad hk y1 hw) (va_cwS 1 hts (g_S mm_298 mm_299 mm_53 mm_300) rfl rfl rfl hd_Wi_firstFigureWith.2 ⟨Nat.le_of_ble_eq_true rfl, Nat.le_of_ble_eq_true rfl⟩) hP hK hZ hS rfl rfl rfl hl.1 rfl (Nat.le_of_ble_eq_true rfl) d_Re_isLeftHalf_105 ⟨Nat.le_of_ble_eq_true rfl, Nat.le_of_ble_eq_true rfl⟩ (fun r5 hw => ?_)
      refine lv_istore_n (lv' := [(2, .int r5), (0, .ref a_this), (1, .int y1)]) hx hb d_Re_isLeftHalf_108 rfl hl (by decide) rfl (fun ls hl => ?_)
      refine lv_aload_n hx hb d_Re_isLeftHalf_109 rfl (lv_at hl 1 rfl) ?_
      refine va_get (D := D) (ci := 2) (v := .ref a_told) (C := R_Re) (T := T_Re) (N := 5) hx hb hts in_Re hown hK hP 0 rfl rfl 1 (by decide) (hts _ mm_106) (fun _ h9 => h9) rfl d_Re_isLeftHalf_110 ?_
      refine lv_iconst (v := 0) hx hb d_Re_isLeftHalf_113 (by decide) ?_
      refine lv_bipush (v := 48) hx hb d_Re_isLeftHalf_114 (by decide) ?_
      refine lv_iload_n hx hb d_Re_isLeftHalf_116 rfl (lv_at hl 0 rfl) ?_
      refine lv_iadd hx hb d_Re_isLeftHalf_117 ?_
      refine k_rwVi (As := [.int 0, .int (48 + r5)]) (rest := []) (wr := [(a_this, .inr (2, [.ref a_strip, .ref a_told, .int v_fromBack, .int v_set, .int v_shifted])), (a_strip, .inr (0, [.ref a_strip_items, .int v_strip_count])), (a_strip_items, .inl (k_strip_items, 800, .inl f_strip_items))]) hz [3, 4] [0, 1, 2] [1] 3 0 ⟨hx, hb, hml, hown, hts⟩ (met_It_replace l D Z hz ad hk a_told a_told_items k_told_items 260 v_told_count f_told_items 0 (48 + r5) _ hw) (cwV 2 hts (g_V mm_303 mm_248 mm_249 mm_42 mm_250) rfl rfl rfl hd_It_replace ⟨Nat.le_of_ble_eq_true rfl, Nat.le_of_ble_eq_true rfl⟩) hP hD hK hZ hS hA rfl rfl rfl rfl rfl (by decide) rfl rfl rfl rfl hl.1 rfl (Nat.le_of_ble_eq_true rfl) d_Re_isLeftHalf_118 ⟨Nat.le_of_ble_eq_true rfl, Nat.le_of_ble_eq_true rfl⟩ (fun r6 s7 H locs hw hP hD hS => ?_)
      try dsimp only at hw
      have hP : va_P D vwCl [(a_this, .inr (2, [.ref a_strip, .ref a_told, .int v_fromBack, .int v_set, .int v_shifted])), (a_strip, .inr (0, [.ref a_strip_items, .int v_strip_count])), (a_strip_items, .inl (k_strip_items, 800, .inl f_strip_items)), (a_told, .inr (0, [.ref a_told_items, .int v_told_count])), (a_told_items, .inl (k_told_items, 260, .inl s7))] H := hP
      have hD : va_D A [(a_this, .inr (2, [.ref a_strip, .ref a_told, .int v_fromBack, .int v_set, .int v_shifted])), (a_strip, .inr (0, [.ref a_strip_items, .int v_strip_count])), (a_strip_items, .inl (k_strip_items, 800, .inl f_strip_items)), (a_told, .inr (0, [.ref a_told_items, .int v_told_count])), (a_told_items, .inl (k_told_items, 260, .inl s7))] := hD
      refine lv_pop hx hb d_Re_isLeftHalf_121 rfl ?_
      refine lv_iload_n hx hb d_Re_isLeftHalf_122 rfl (lv_at hl 0 rfl) ?_
      refine lv_iconst (v := (-1)) hx hb d_Re_isLeftHalf_123 (by decide) ?_
      refine lv_icmp_eq (tgt := 131) hx hb d_Re_isLeftHalf_124 (by decide) (fun c8 => ?_) (fun c8 => ?_)
      · have hw := hw.1 c8
        refine lv_iconst (v := 0) hx hb d_Re_isLeftHalf_131 (by decide) ?_
        have hP9 := hP.sub (ws' := [(a_this, .inr (2, [.ref a_strip, .ref a_told, .int v_fromBack, .int v_set, .int v_shifted])), (a_strip, .inr (0, [.ref a_strip_items, .int v_strip_count])), (a_strip_items, .inl (k_strip_items, 800, .inl f_strip_items)), (a_told, .inr (0, [.ref a_told_items, .int v_told_count])), (a_told_items, .inl (k_told_items, 260, .inl s7))]) [0, 1, 2, 3, 4] rfl
        have hD9 := hD.sub (ws' := [(a_this, .inr (2, [.ref a_strip, .ref a_told, .int v_fromBack, .int v_set, .int v_shifted])), (a_strip, .inr (0, [.ref a_strip_items, .int v_strip_count])), (a_strip_items, .inl (k_strip_items, 800, .inl f_strip_items)), (a_told, .inr (0, [.ref a_told_items, .int v_told_count])), (a_told_items, .inl (k_told_items, 260, .inl s7))]) [0, 1, 2, 3, 4] (by decide) rfl
        exact W.zret (v := 0) (ty := .boolean) hx hb hr rfl (fun t ht hW => ⟨⟨0, (v_told_count, s7), rfl, hw, by rw [ht]; exact hP9, va_K.moved hW.alike hK, hD9⟩, hS.F ht⟩) hS.2.2 d_Re_isLeftHalf_132
      · have hw := hw.2 c8
        refine lv_iconst (v := 1) hx hb d_Re_isLeftHalf_127 (by decide) ?_
        refine lv_goto (tgt := 132) hx hb d_Re_isLeftHalf_128 (by decide) ?_
        have hP9 := hP.sub (ws' := [(a_this, .inr (2, [.ref a_strip, .ref a_told, .int v_fromBack, .int v_set, .int v_shifted])), (a_strip, .inr (0, [.ref a_strip_items, .int v_strip_count])), (a_strip_items, .inl (k_strip_items, 800, .inl f_strip_items)), (a_told, .inr (0, [.ref a_told_items, .int v_told_count])), (a_told_items, .inl (k_told_items, 260, .inl s7))]) [0, 1, 2, 3, 4] rfl
        have hD9 := hD.sub (ws' := [(a_this, .inr (2, [.ref a_strip, .ref a_told, .int v_fromBack, .int v_set, .int v_shifted])), (a_strip, .inr (0, [.ref a_strip_items, .int v_strip_count])), (a_strip_items, .inl (k_strip_items, 800, .inl f_strip_items)), (a_told, .inr (0, [.ref a_told_items, .int v_told_count])), (a_told_items, .inl (k_told_items, 260, .inl s7))]) [0, 1, 2, 3, 4] (by decide) rfl
        exact W.zret (v := 1) (ty := .boolean) hx hb hr rfl (fun t ht hW => ⟨⟨1, (v_told_count, s7), rfl, hw, by rw [ht]; exact hP9, va_K.moved hW.alike hK, hD9⟩, hS.F ht⟩) hS.2.2 d_Re_isLeftHalf_132
    · have hw := hw.2 c4
      refine lv_aload_n hx hb d_Re_isLeftHalf_19 rfl (lv_at hl 0 rfl) ?_
      refine lv_iconst (v := 3) hx hb d_Re_isLeftHalf_20 (by decide) ?_
      refine lv_iconst (v := 4) hx hb d_Re_isLeftHalf_21 (by decide) ?_
      refine lv_iload_n hx hb d_Re_isLeftHalf_22 rfl (lv_at hl 2 rfl) ?_
      refine lv_imul hx hb d_Re_isLeftHalf_23 ?_
      refine lv_iadd hx hb d_Re_isLeftHalf_24 ?_
      refine k_roVi (As := [.int (3 + (4 * y2))]) (rest := []) hz [0, 1, 2, 3, 4] [0, 1] 0 2 ⟨hx, hb, hml, hown, hts⟩ (met_Re_figureCountsAt l D Z hz ad hk a_this a_strip a_strip_items a_told a_told_items k_strip_items k_told_items v_fromBack v_set v_shifted v_strip_count f_strip_items v_told_count f_told_items (3 + (4 * y2)) hw) (cwV 1 hts (g_V mm_283 mm_285 mm_14 mm_45 mm_286) rfl rfl rfl hd_Re_figureCountsAt ⟨Nat.le_of_ble_eq_true rfl, Nat.le_of_ble_eq_true rfl⟩) hP hK hZ hS rfl rfl rfl rfl rfl hl.1 rfl (Nat.le_of_ble_eq_true rfl) d_Re_isLeftHalf_25 ⟨Nat.le_of_ble_eq_true rfl, Nat.le_of_ble_eq_true rfl⟩ (fun r9 hw => ?_)
      refine lv_istore_n (lv' := [(3, .int r9), (0, .ref a_this), (1, .int y1), (2, .int y2)]) hx hb d_Re_isLeftHalf_28 rfl hl (by decide) rfl (fun ls hl => ?_)
      refine lv_iload_n hx hb d_Re_isLeftHalf_29 rfl (lv_at hl 0 rfl) ?_
      refine k_roSi (As := [.int r9]) (rest := []) hz [] [] ⟨hx, hb, hml, hown, hts⟩ (met_Wi_figureWith l D Z hz ad hk r9 hw) (va_cwS 1 hts (g_S mm_287 mm_288 mm_53 mm_289) rfl rfl rfl hd_Wi_figureWith.2 ⟨Nat.le_of_ble_eq_true rfl, Nat.le_of_ble_eq_true rfl⟩) hP hK hZ hS rfl rfl rfl hl.1 rfl (Nat.le_of_ble_eq_true rfl) d_Re_isLeftHalf_30 ⟨Nat.le_of_ble_eq_true rfl, Nat.le_of_ble_eq_true rfl⟩ (fun r10 hw => ?_)
      refine lv_istore (lv' := [(4, .int r10), (3, .int r9), (0, .ref a_this), (1, .int y1), (2, .int y2)]) hx hb d_Re_isLeftHalf_33 hl (by decide) rfl (fun ls hl => ?_)
      refine lv_iload hx hb d_Re_isLeftHalf_35 (lv_at hl 0 rfl) ?_
      refine lv_iconst (v := (-1)) hx hb d_Re_isLeftHalf_37 (by decide) ?_
      refine lv_icmp_ne (tgt := 45) hx hb d_Re_isLeftHalf_38 (by decide) (fun c11 => ?_) (fun c11 => ?_)
      · have hw := hw.1 c11
        refine lv_iconst (v := 0) hx hb d_Re_isLeftHalf_45 (by decide) ?_
        refine lv_istore (lv' := [(5, .int 0), (4, .int r10), (3, .int r9), (0, .ref a_this), (1, .int y1), (2, .int y2)]) hx hb d_Re_isLeftHalf_46 hl (by decide) rfl (fun ls hl => ?_)
        refine lv_iload hx hb d_Re_isLeftHalf_48 (lv_at hl 0 rfl) ?_
        refine lv_if_eq (tgt := 62) hx hb d_Re_isLeftHalf_50 (by decide) (fun _ => ?_) (fun c9 => absurd c9 (by decide))
        refine lv_iload hx hb d_Re_isLeftHalf_62 (lv_at hl 1 rfl) ?_
        refine lv_iconst (v := (-1)) hx hb d_Re_isLeftHalf_64 (by decide) ?_
        refine lv_icmp_ne (tgt := 70) hx hb d_Re_isLeftHalf_65 (by decide) (fun c12 => ?_) (fun c12 => ?_)
        · have hw := hw.1 c12
          refine lv_iconst (v := 2) hx hb d_Re_isLeftHalf_70 (by decide) ?_
          refine lv_iload_n hx hb d_Re_isLeftHalf_71 rfl (lv_at hl 4 rfl) ?_
          refine lv_imul hx hb d_Re_isLeftHalf_72 ?_
          refine lv_iload hx hb d_Re_isLeftHalf_73 (lv_at hl 0 rfl) ?_
          refine lv_if_eq (tgt := 82) hx hb d_Re_isLeftHalf_75 (by decide) (fun _ => ?_) (fun c9 => absurd c9 (by decide))
          refine lv_iconst (v := 0) hx hb d_Re_isLeftHalf_82 (by decide) ?_
          refine lv_iadd hx hb d_Re_isLeftHalf_83 ?_
          refine lv_istore_n (lv' := [(1, .int ((2 * y1) + 0)), (5, .int 0), (4, .int r10), (3, .int r9), (0, .ref a_this), (2, .int y2)]) hx hb d_Re_isLeftHalf_84 rfl hl (by decide) rfl (fun ls hl => ?_)
          refine lv_aload_n hx hb d_Re_isLeftHalf_85 rfl (lv_at hl 4 rfl) ?_
          refine va_get (D := D) (ci := 2) (v := .ref a_told) (C := R_Re) (T := T_Re) (N := 5) hx hb hts in_Re hown hK hP 0 rfl rfl 1 (by decide) (hts _ mm_106) (fun _ h9 => h9) rfl d_Re_isLeftHalf_86 ?_
          refine lv_bipush (v := 48) hx hb d_Re_isLeftHalf_89 (by decide) ?_
          refine lv_iload hx hb d_Re_isLeftHalf_91 (lv_at hl 2 rfl) ?_
          refine lv_iadd hx hb d_Re_isLeftHalf_93 ?_
          refine k_rwVi (As := [.int (48 + r10)]) (rest := []) (wr := [(a_this, .inr (2, [.ref a_strip, .ref a_told, .int v_fromBack, .int v_set, .int v_shifted])), (a_strip, .inr (0, [.ref a_strip_items, .int v_strip_count])), (a_strip_items, .inl (k_strip_items, 800, .inl f_strip_items))]) hz [3, 4] [0, 1, 2] [1] 3 0 ⟨hx, hb, hml, hown, hts⟩ (met_It_add l D Z hz ad hk a_told a_told_items k_told_items 260 v_told_count f_told_items (48 + r10) _ hw) (cwV 1 hts (g_V mm_282 mm_203 mm_204 mm_42 mm_205) rfl rfl rfl hd_It_add ⟨Nat.le_of_ble_eq_true rfl, Nat.le_of_ble_eq_true rfl⟩) hP hD hK hZ hS hA rfl rfl rfl rfl rfl (by decide) rfl rfl rfl rfl hl.1 rfl (Nat.le_of_ble_eq_true rfl) d_Re_isLeftHalf_94 ⟨Nat.le_of_ble_eq_true rfl, Nat.le_of_ble_eq_true rfl⟩ (fun r13 u9 H locs hw hP hD hS => ?_)
          obtain ⟨s14, s15⟩ := u9
          try dsimp only at hw
          have hP : va_P D vwCl [(a_this, .inr (2, [.ref a_strip, .ref a_told, .int v_fromBack, .int v_set, .int v_shifted])), (a_strip, .inr (0, [.ref a_strip_items, .int v_strip_count])), (a_strip_items, .inl (k_strip_items, 800, .inl f_strip_items)), (a_told, .inr (0, [.ref a_told_items, .int s14])), (a_told_items, .inl (k_told_items, 260, .inl s15))] H := hP
          have hD : va_D A [(a_this, .inr (2, [.ref a_strip, .ref a_told, .int v_fromBack, .int v_set, .int v_shifted])), (a_strip, .inr (0, [.ref a_strip_items, .int v_strip_count])), (a_strip_items, .inl (k_strip_items, 800, .inl f_strip_items)), (a_told, .inr (0, [.ref a_told_items, .int s14])), (a_told_items, .inl (k_told_items, 260, .inl s15))] := hD
          refine lv_pop hx hb d_Re_isLeftHalf_97 rfl ?_
          refine lv_iinc (v := (y2 + 1)) (lv' := [(2, .int (y2 + 1)), (1, .int ((2 * y1) + 0)), (5, .int 0), (4, .int r10), (3, .int r9), (0, .ref a_this)]) hx hb d_Re_isLeftHalf_98 hl (k := 5) rfl rfl (by decide) rfl (fun ls hl => ?_)
          refine lv_goto (tgt := 13) hx hb d_Re_isLeftHalf_101 (by decide) ?_
          exact ih s14 s15 ((2 * y1) + 0) (y2 + 1) hw _ _ (hP.sub [0, 1, 2, 3, 4] rfl) (hD.sub [0, 1, 2, 3, 4] (by decide) rfl) hS ls (lv_sub hl [5, 1, 0] rfl)
        · have hw := hw.2 c12
          refine lv_iconst (v := 0) hx hb d_Re_isLeftHalf_68 (by decide) ?_
          have hP9 := hP.sub (ws' := [(a_this, .inr (2, [.ref a_strip, .ref a_told, .int v_fromBack, .int v_set, .int v_shifted])), (a_strip, .inr (0, [.ref a_strip_items, .int v_strip_count])), (a_strip_items, .inl (k_strip_items, 800, .inl f_strip_items)), (a_told, .inr (0, [.ref a_told_items, .int v_told_count])), (a_told_items, .inl (k_told_items, 260, .inl f_told_items))]) [0, 1, 2, 3, 4] rfl
          have hD9 := hD.sub (ws' := [(a_this, .inr (2, [.ref a_strip, .ref a_told, .int v_fromBack, .int v_set, .int v_shifted])), (a_strip, .inr (0, [.ref a_strip_items, .int v_strip_count])), (a_strip_items, .inl (k_strip_items, 800, .inl f_strip_items)), (a_told, .inr (0, [.ref a_told_items, .int v_told_count])), (a_told_items, .inl (k_told_items, 260, .inl f_told_items))]) [0, 1, 2, 3, 4] (by decide) rfl
          exact W.zret (v := 0) (ty := .boolean) hx hb hr rfl (fun t ht hW => ⟨⟨0, (v_told_count, f_told_items), rfl, hw, by rw [ht]; exact hP9, va_K.moved hW.alike hK, hD9⟩, hS.F ht⟩) hS.2.2 d_Re_isLeftHalf_69
      · have hw := hw.2 c11
        refine lv_iconst (v := 1) hx hb d_Re_isLeftHalf_41 (by decide) ?_
        refine lv_goto (tgt := 46) hx hb d_Re_isLeftHalf_42 (by decide) ?_
        refine lv_istore (lv' := [(5, .int 1), (4, .int r10), (3, .int r9), (0, .ref a_this), (1, .int y1), (2, .int y2)]) hx hb d_Re_isLeftHalf_46 hl (by decide) rfl (fun ls hl => ?_)
        refine lv_iload hx hb d_Re_isLeftHalf_48 (lv_at hl 0 rfl) ?_
        refine lv_if_eq (tgt := 62) hx hb d_Re_isLeftHalf_50 (by decide) (fun c9 => absurd c9 (by decide)) (fun _ => ?_)
        refine lv_iload_n hx hb d_Re_isLeftHalf_53 rfl (lv_at hl 2 rfl) ?_
        refine k_roSi (As := [.int r9]) (rest := []) hz [] [] ⟨hx, hb, hml, hown, hts⟩ (met_Wi_turned l D Z hz ad hk r9 hw) (va_cwS 1 hts (g_S mm_295 mm_296 mm_53 mm_297) rfl rfl rfl hd_Wi_turned.2 ⟨Nat.le_of_ble_eq_true rfl, Nat.le_of_ble_eq_true rfl⟩) hP hK hZ hS rfl rfl rfl hl.1 rfl (Nat.le_of_ble_eq_true rfl) d_Re_isLeftHalf_54 ⟨Nat.le_of_ble_eq_true rfl, Nat.le_of_ble_eq_true rfl⟩ (fun r16 hw => ?_)
        refine k_roSi (As := [.int r16]) (rest := []) hz [] [] ⟨hx, hb, hml, hown, hts⟩ (met_Wi_figureWith l D Z hz ad hk r16 hw) (va_cwS 1 hts (g_S mm_287 mm_288 mm_53 mm_289) rfl rfl rfl hd_Wi_figureWith.2 ⟨Nat.le_of_ble_eq_true rfl, Nat.le_of_ble_eq_true rfl⟩) hP hK hZ hS rfl rfl rfl hl.1 rfl (Nat.le_of_ble_eq_true rfl) d_Re_isLeftHalf_57 ⟨Nat.le_of_ble_eq_true rfl, Nat.le_of_ble_eq_true rfl⟩ (fun r17 hw => ?_)
        refine lv_istore (lv' := [(4, .int r17), (5, .int 1), (3, .int r9), (0, .ref a_this), (1, .int y1), (2, .int y2)]) hx hb d_Re_isLeftHalf_60 hl (by decide) rfl (fun ls hl => ?_)
        refine lv_iload hx hb d_Re_isLeftHalf_62 (lv_at hl 0 rfl) ?_
        refine lv_iconst (v := (-1)) hx hb d_Re_isLeftHalf_64 (by decide) ?_
        refine lv_icmp_ne (tgt := 70) hx hb d_Re_isLeftHalf_65 (by decide) (fun c18 => ?_) (fun c18 => ?_)
        · have hw := hw.1 c18
          refine lv_iconst (v := 2) hx hb d_Re_isLeftHalf_70 (by decide) ?_
          refine lv_iload_n hx hb d_Re_isLeftHalf_71 rfl (lv_at hl 4 rfl) ?_
          refine lv_imul hx hb d_Re_isLeftHalf_72 ?_
          refine lv_iload hx hb d_Re_isLeftHalf_73 (lv_at hl 1 rfl) ?_
          refine lv_if_eq (tgt := 82) hx hb d_Re_isLeftHalf_75 (by decide) (fun c9 => absurd c9 (by decide)) (fun _ => ?_)
          refine lv_iconst (v := 1) hx hb d_Re_isLeftHalf_78 (by decide) ?_
          refine lv_goto (tgt := 83) hx hb d_Re_isLeftHalf_79 (by decide) ?_
          refine lv_iadd hx hb d_Re_isLeftHalf_83 ?_
          refine lv_istore_n (lv' := [(1, .int ((2 * y1) + 1)), (4, .int r17), (5, .int 1), (3, .int r9), (0, .ref a_this), (2, .int y2)]) hx hb d_Re_isLeftHalf_84 rfl hl (by decide) rfl (fun ls hl => ?_)
          refine lv_aload_n hx hb d_Re_isLeftHalf_85 rfl (lv_at hl 4 rfl) ?_
          refine va_get (D := D) (ci := 2) (v := .ref a_told) (C := R_Re) (T := T_Re) (N := 5) hx hb hts in_Re hown hK hP 0 rfl rfl 1 (by decide) (hts _ mm_106) (fun _ h9 => h9) rfl d_Re_isLeftHalf_86 ?_
          refine lv_bipush (v := 48) hx hb d_Re_isLeftHalf_89 (by decide) ?_
          refine lv_iload hx hb d_Re_isLeftHalf_91 (lv_at hl 1 rfl) ?_
          refine lv_iadd hx hb d_Re_isLeftHalf_93 ?_
          refine k_rwVi (As := [.int (48 + r17)]) (rest := []) (wr := [(a_this, .inr (2, [.ref a_strip, .ref a_told, .int v_fromBack, .int v_set, .int v_shifted])), (a_strip, .inr (0, [.ref a_strip_items, .int v_strip_count])), (a_strip_items, .inl (k_strip_items, 800, .inl f_strip_items))]) hz [3, 4] [0, 1, 2] [1] 3 0 ⟨hx, hb, hml, hown, hts⟩ (met_It_add l D Z hz ad hk a_told a_told_items k_told_items 260 v_told_count f_told_items (48 + r17) _ hw) (cwV 1 hts (g_V mm_282 mm_203 mm_204 mm_42 mm_205) rfl rfl rfl hd_It_add ⟨Nat.le_of_ble_eq_true rfl, Nat.le_of_ble_eq_true rfl⟩) hP hD hK hZ hS hA rfl rfl rfl rfl rfl (by decide) rfl rfl rfl rfl hl.1 rfl (Nat.le_of_ble_eq_true rfl) d_Re_isLeftHalf_94 ⟨Nat.le_of_ble_eq_true rfl, Nat.le_of_ble_eq_true rfl⟩ (fun r19 u9 H locs hw hP hD hS => ?_)
          obtain ⟨s20, s21⟩ := u9
          try dsimp only at hw
          have hP : va_P D vwCl [(a_this, .inr (2, [.ref a_strip, .ref a_told, .int v_fromBack, .int v_set, .int v_shifted])), (a_strip, .inr (0, [.ref a_strip_items, .int v_strip_count])), (a_strip_items, .inl (k_strip_items, 800, .inl f_strip_items)), (a_told, .inr (0, [.ref a_told_items, .int s20])), (a_told_items, .inl (k_told_items, 260, .inl s21))] H := hP
          have hD : va_D A [(a_this, .inr (2, [.ref a_strip, .ref a_told, .int v_fromBack, .int v_set, .int v_shifted])), (a_strip, .inr (0, [.ref a_strip_items, .int v_strip_count])), (a_strip_items, .inl (k_strip_items, 800, .inl f_strip_items)), (a_told, .inr (0, [.ref a_told_items, .int s20])), (a_told_items, .inl (k_told_items, 260, .inl s21))] := hD
          refine lv_pop hx hb d_Re_isLeftHalf_97 rfl ?_
          refine lv_iinc (v := (y2 + 1)) (lv' := [(2, .int (y2 + 1)), (1, .int ((2 * y1) + 1)), (4, .int r17), (5, .int 1), (3, .int r9), (0, .ref a_this)]) hx hb d_Re_isLeftHalf_98 hl (k := 5) rfl rfl (by decide) rfl (fun ls hl => ?_)
          refine lv_goto (tgt := 13) hx hb d_Re_isLeftHalf_101 (by decide) ?_
          exact ih s20 s21 ((2 * y1) + 1) (y2 + 1) hw _ _ (hP.sub [0, 1, 2, 3, 4] rfl) (hD.sub [0, 1, 2, 3, 4] (by decide) rfl) hS ls (lv_sub hl [5, 1, 0] rfl)
        · have hw := hw.2 c18
          refine lv_iconst (v := 0) hx hb d_Re_isLeftHalf_68 (by decide) ?_
          have hP9 := hP.sub (ws' := [(a_this, .inr (2, [.ref a_strip, .ref a_told, .int v_fromBack, .int v_set, .int v_shifted])), (a_strip, .inr (0, [.ref a_strip_items, .int v_strip_count])), (a_strip_items, .inl (k_strip_items, 800, .inl f_strip_items)), (a_told, .inr (0, [.ref a_told_items, .int v_told_count])), (a_told_items, .inl (k_told_items, 260, .inl f_told_items))]) [0, 1, 2, 3, 4] rfl
          have hD9 := hD.sub (ws' := [(a_this, .inr (2, [.ref a_strip, .ref a_told, .int v_fromBack, .int v_set, .int v_shifted])), (a_strip, .inr (0, [.ref a_strip_items, .int v_strip_count])), (a_strip_items, .inl (k_strip_items, 800, .inl f_strip_items)), (a_told, .inr (0, [.ref a_told_items, .int v_told_count])), (a_told_items, .inl (k_told_items, 260, .inl f_told_items))]) [0, 1, 2, 3, 4] (by decide) rfl
          exact W.zret (v := 0) (ty := .boolean) hx hb hr rfl (fun t ht hW => ⟨⟨0, (v_told_count, f_told_items), rfl, hw, by rw [ht]; exact hP9, va_K.moved hW.alike hK, hD9⟩, hS.F ht⟩) hS.2.2 d_Re_isLeftHalf_69
set_option maxHeartbeats 4000000 in
set_option maxRecDepth 100000 in
theorem met_Re_isLeftHalf (l : Launch) (D : va_G) (Z : (Nat → Prop) → State → Heap → Prop) (hz : zk Z) (ad : Nat → Nat) (hk : zs Z ad) (a_this : Nat) (a_strip : Nat) (a_strip_items : Nat) (a_told : Nat) (a_told_items : Nat) (k_strip_items : ClassId) (k_told_items : ClassId) (v_fromBack : Int32) (v_set : Int32) (v_shifted : Int32) (v_strip_count : Int32) (f_strip_items : Nat → Int32) (v_told_count : Int32) (f_told_items : Nat → Int32) (sz : Nat) {post : Int32 → Int32 → (Nat → Int32) → Prop} (hw : w_Re_isLeftHalf post v_strip_count f_strip_items v_told_count f_told_items) : Met l y_Re_isLeftHalf ws_Re_isLeftHalf rm_Re_isLeftHalf (va_Pc [.ref a_this] (rw_ D vwCl [(k_strip_items, .int), (k_told_items, .int)] [(a_this, .inr (2, [.ref a_strip, .ref a_told, .int v_fromBack, .int v_set, .int v_shifted])), (a_strip, .inr (0, [.ref a_strip_items, .int v_strip_count])), (a_strip_items, .inl (k_strip_items, 800, .inl f_strip_items)), (a_told, .inr (0, [.ref a_told_items, .int v_told_count])), (a_told_items, .inl (k_told_items, 260, .inl f_told_items))] (Z) sz)) (va_Qi (fun (r : Int32) (u : Int32 × (Nat → Int32)) => post r u.1 u.2) (fun u t => at_ D vwCl [(k_strip_items, .int), (k_told_items, .int)] (va_A [(a_this, .inr (2, [.ref a_strip, .ref a_told, .int v_fromBack, .int v_set, .int v_shifted])), (a_strip, .inr (0, [.ref a_strip_items, .int v_strip_count])), (a_strip_items, .inl (k_strip_items, 800, .inl f_strip_items)), (a_told, .inr (0, [.ref a_told_items, .int v_told_count])), (a_told_items, .inl (k_told_items, 260, .inl f_told_items))] sz) [(a_this, .inr (2, [.ref a_strip, .ref a_told, .int v_fromBack, .int v_set, .int v_shifted])), (a_strip, .inr (0, [.ref a_strip_items, .int v_strip_count])), (a_strip_items, .inl (k_strip_items, 800, .inl f_strip_items)), (a_told, .inr (0, [.ref a_told_items, .int u.1])), (a_told_items, .inl (k_told_items, 260, .inl u.2))] t) (va_A [(a_this, .inr (2, [.ref a_strip, .ref a_told, .int v_fromBack, .int v_set, .int v_shifted])), (a_strip, .inr (0, [.ref a_strip_items, .int v_strip_count])), (a_strip_items, .inl (k_strip_items, 800, .inl f_strip_items)), (a_told, .inr (0, [.ref a_told_items, .int v_told_count])), (a_told_items, .inl (k_told_items, 260, .inl f_told_items))] sz)) 0 0 (va_A [(a_this, .inr (2, [.ref a_strip, .ref a_told, .int v_fromBack, .int v_set, .int v_shifted])), (a_strip, .inr (0, [.ref a_strip_items, .int v_strip_count])), (a_strip_items, .inl (k_strip_items, 800, .inl f_strip_items)), (a_told, .inr (0, [.ref a_told_items, .int v_told_count])), (a_told_items, .inl (k_told_items, 260, .inl f_told_items))] sz) := by
  refine Met.ofW (cc := c_Re_isLeftHalf) (maxL := 6) (ret := (some .boolean)) (by decide) rfl ?_
  intro p e s m args below meth c s₁ B hml hv
  obtain ⟨rfl, hsz, hP, hK, hD0, hZ⟩ := hv
  have hx := B.exec
  have hb := B.bytes
  have hr := B.returns
  have hts0 := atoms_spec (ws := ws_Re_isLeftHalf) B.pre
  have hts := fun (w : Cond) (h : w ∈ tb) => hts0 w (List.mem_cons_of_mem _ h)
  have hown : s.vm.findClass R_Re = some m.cls := findClass_of_methodNamed B.named
  have hlocks := B.notSynchronized
  subst hsz
  have hD := hD0.self (sz := s.heap.size)
  generalize hAe : va_A [(a_this, .inr (2, [.ref a_strip, .ref a_told, .int v_fromBack, .int v_set, .int v_shifted])), (a_strip, .inr (0, [.ref a_strip_items, .int v_strip_count])), (a_strip_items, .inl (k_strip_items, 800, .inl f_strip_items)), (a_told, .inr (0, [.ref a_told_items, .int v_told_count])), (a_told_items, .inl (k_told_items, 260, .inl f_told_items))] s.heap.size = A at hD hZ ⊢
  have hA : ∀ q : Nat, s.heap.size ≤ q → A q := fun q h => by rw [← hAe]; exact Or.inr h
  have hS : va_S A s.heap s.heap [] := va_S.rf
  have hl := lv_entry ([.ref a_this]) (n := 6) (Nat.le_of_ble_eq_true rfl)
  rw [lg_entry_eq]
  generalize (lg_sl ([.ref a_this]) ++ List.replicate (6 - (lg_sl ([.ref a_this])).length) Slot.unset).toArray = ls at hl ⊢
  have hl : lv_has ls 6 [(0, .ref a_this)] := hl
  unfold w_Re_isLeftHalf at hw
  refine lv_aload_n hx hb d_Re_isLeftHalf_0 rfl (lv_at hl 0 rfl) ?_
  refine va_get (D := D) (ci := 2) (v := .ref a_told) (C := R_Re) (T := T_Re) (N := 5) hx hb hts in_Re hown hK hP 0 rfl rfl 1 (by decide) (hts _ mm_106) (fun _ h9 => h9) rfl d_Re_isLeftHalf_1 ?_
  refine lv_iconst (v := (-1)) hx hb d_Re_isLeftHalf_4 (by decide) ?_
  refine k_rwVi (As := [.int (-1)]) (rest := []) (wr := [(a_this, .inr (2, [.ref a_strip, .ref a_told, .int v_fromBack, .int v_set, .int v_shifted])), (a_strip, .inr (0, [.ref a_strip_items, .int v_strip_count])), (a_strip_items, .inl (k_strip_items, 800, .inl f_strip_items))]) hz [3, 4] [0, 1, 2] [1] 3 0 ⟨hx, hb, hml, hown, hts⟩ (met_It_add l D Z hz ad hk a_told a_told_items k_told_items 260 v_told_count f_told_items (-1) _ hw) (cwV 1 hts (g_V mm_282 mm_203 mm_204 mm_42 mm_205) rfl rfl rfl hd_It_add ⟨Nat.le_of_ble_eq_true rfl, Nat.le_of_ble_eq_true rfl⟩) hP hD hK hZ hS hA rfl rfl rfl rfl rfl (by decide) rfl rfl rfl rfl hl.1 rfl (Nat.le_of_ble_eq_true rfl) d_Re_isLeftHalf_5 ⟨Nat.le_of_ble_eq_true rfl, Nat.le_of_ble_eq_true rfl⟩ (fun r1 u9 H locs hw hP hD hS => ?_)
  obtain ⟨s2, s3⟩ := u9
  try dsimp only at hw
  have hP : va_P D vwCl [(a_this, .inr (2, [.ref a_strip, .ref a_told, .int v_fromBack, .int v_set, .int v_shifted])), (a_strip, .inr (0, [.ref a_strip_items, .int v_strip_count])), (a_strip_items, .inl (k_strip_items, 800, .inl f_strip_items)), (a_told, .inr (0, [.ref a_told_items, .int s2])), (a_told_items, .inl (k_told_items, 260, .inl s3))] H := hP
  have hD : va_D A [(a_this, .inr (2, [.ref a_strip, .ref a_told, .int v_fromBack, .int v_set, .int v_shifted])), (a_strip, .inr (0, [.ref a_strip_items, .int v_strip_count])), (a_strip_items, .inl (k_strip_items, 800, .inl f_strip_items)), (a_told, .inr (0, [.ref a_told_items, .int s2])), (a_told_items, .inl (k_told_items, 260, .inl s3))] := hD
  refine lv_pop hx hb d_Re_isLeftHalf_8 rfl ?_
  refine lv_iconst (v := 0) hx hb d_Re_isLeftHalf_9 (by decide) ?_
  refine lv_istore_n (lv' := [(1, .int 0), (0, .ref a_this)]) hx hb d_Re_isLeftHalf_10 rfl hl (by decide) rfl (fun ls hl => ?_)
  refine lv_iconst (v := 0) hx hb d_Re_isLeftHalf_11 (by decide) ?_
  refine lv_istore_n (lv' := [(2, .int 0), (1, .int 0), (0, .ref a_this)]) hx hb d_Re_isLeftHalf_12 rfl hl (by decide) rfl (fun ls hl => ?_)
  obtain ⟨n9, hw⟩ := hw
  exact lp_Re_isLeftHalf_13 l D Z hz ad hk a_this a_strip a_strip_items a_told a_told_items k_strip_items k_told_items v_fromBack v_set v_shifted v_strip_count f_strip_items hx hb hml hr hts hown hlocks hK hZ hA n9 s2 s3 0 0 hw _ _ (hP.sub [0, 1, 2, 3, 4] rfl) (hD.sub [0, 1, 2, 3, 4] (by decide) rfl) hS ls (lv_sub hl [2, 1, 0] rfl)
-- LineCodes$Reader.isRightHalf()Z
def w_Re_isRightHalf_2 (post : Int32 → Int32 → (Nat → Int32) → Prop) (v_strip_count : Int32) (f_strip_items : Nat → Int32) : Nat → Int32 → (Nat → Int32) → Int32 → Prop
  | 0, _, _, _ => False
  | n + 1, v_told_count, f_told_items, y1 => (6 ≤ y1 → post 1 v_told_count f_told_items) ∧ (¬ 6 ≤ y1 → w_Re_figureCountsAt (fun r2 => w_Wi_figureWith (fun r3 => (¬ r3 = (-1) → w_It_add (fun r5 s6 s7 => w_Re_isRightHalf_2 post v_strip_count f_strip_items n s6 s7 (y1 + 1)) 260 v_told_count f_told_items (48 + r3)) ∧ (r3 = (-1) → post 0 v_told_count f_told_items)) r2) v_strip_count f_strip_items (32 + (4 * y1)))
def w_Re_isRightHalf (post : Int32 → Int32 → (Nat → Int32) → Prop) (v_strip_count : Int32) (f_strip_items : Nat → Int32) (v_told_count : Int32) (f_told_items : Nat → Int32) : Prop := ∃ k2, w_Re_isRightHalf_2 post v_strip_count f_strip_items k2 v_told_count f_told_items 0
abbrev rm_Re_isRightHalf : Room := { frames := 3, cells := 0, slots := 0, locals := 70 }
set_option maxHeartbeats 4000000 in
set_option maxRecDepth 100000 in
theorem lp_Re_isRightHalf_2 (l : Launch) (D : va_G) (Z : (Nat → Prop) → State → Heap → Prop) (hz : zk Z) (ad : Nat → Nat) (hk : zs Z ad) {p : Program} {e : Env} {s : State} {m : MethodId} {args : Array Value} {below : List Frame} {meth : Method} {c : Code} {A : Nat → Prop} (a_this : Nat) (a_strip : Nat) (a_strip_items : Nat) (a_told : Nat) (a_told_items : Nat) (k_strip_items : ClassId) (k_told_items : ClassId) (v_fromBack : Int32) (v_set : Int32) (v_shifted : Int32) (v_strip_count : Int32) (f_strip_items : Nat → Int32) {post : Int32 → Int32 → (Nat → Int32) → Prop} (hx : p.tables.exec = Jvm.exec) (hb : c.code = c_Re_isRightHalf) (hml : c.maxLocals = 3) (hr : meth.sig.returnType = (some .boolean)) (hts : ∀ w ∈ tb, w.before args s = true) (hown : s.vm.findClass R_Re = some m.cls) (hlocks : meth.locks = false) (hK : va_K D vwCl [(k_strip_items, .int), (k_told_items, .int)] s) (hZ : Z A s s.heap) (hA : ∀ q, s.heap.size ≤ q → A q) : ∀ (n : Nat) (v_told_count : Int32) (f_told_items : Nat → Int32) (y1 : Int32), w_Re_isRightHalf_2 post v_strip_count f_strip_items n v_told_count f_told_items y1 → ∀ (H : Heap) (locs : List Loc), va_P D vwCl [(a_this, .inr (2, [.ref a_strip, .ref a_told, .int v_fromBack, .int v_set, .int v_shifted])), (a_strip, .inr (0, [.ref a_strip_items, .int v_strip_count])), (a_strip_items, .inl (k_strip_items, 800, .inl f_strip_items)), (a_told, .inr (0, [.ref a_told_items, .int v_told_count])), (a_told_items, .inl (k_told_items, 260, .inl f_told_items))] H → va_D A [(a_this, .inr (2, [.ref a_strip, .ref a_told, .int v_fromBack, .int v_set, .int v_shifted])), (a_strip, .inr (0, [.ref a_strip_items, .int v_strip_count])), (a_strip_items, .inl (k_strip_items, 800, .inl f_strip_items)), (a_told, .inr (0, [.ref a_told_items, .int v_told_count])), (a_told_items, .inl (k_told_items, 260, .inl f_told_items))] → va_S A s.heap H locs → ∀ ls : Array Slot, lv_has ls 3 [(0, .ref a_this), (1, .int y1)] → W p l e (headSpec ws_Re_isRightHalf rm_Re_isRightHalf).room s m args below meth c H locs 0 0 (MQ below (va_Qi (fun (r : Int32) (u : Int32 × (Nat → Int32)) => post r u.1 u.2) (fun u t => at_ D vwCl [(k_strip_items, .int), (k_told_items, .int)] A [(a_this, .inr (2, [.ref a_strip, .ref a_told, .int v_fromBack, .int v_set, .int v_shifted])), (a_strip, .inr (0, [.ref a_strip_items, .int v_strip_count])), (a_strip_items, .inl (k_strip_items, 800, .inl f_strip_items)), (a_told, .inr (0, [.ref a_told_items, .int u.1])), (a_told_items, .inl (k_told_items, 260, .inl u.2))] t) A) args s 0 0 A) (F0 m 2 ls []) := by
  intro n
  induction n with
  | zero =>
    intro v_told_count f_told_items y1 hw
    unfold w_Re_isRightHalf_2 at hw
    exact hw.elim
  | succ n ih =>
    intro v_told_count f_told_items y1 hw H locs hP hD hS ls hl
    unfold w_Re_isRightHalf_2 at hw
    refine lv_iload_n hx hb d_Re_isRightHalf_2 rfl (lv_at hl 1 rfl) ?_
    refine lv_bipush (v := 6) hx hb d_Re_isRightHalf_3 (by decide) ?_
    refine lv_icmp_ge (tgt := 47) hx hb d_Re_isRightHalf_5 (by decide) (fun c1 => ?_) (fun c1 => ?_)
    · have hw := hw.1 c1
      refine lv_iconst (v := 1) hx hb d_Re_isRightHalf_47 (by decide) ?_
      have hP9 := hP.sub (ws' := [(a_this, .inr (2, [.ref a_strip, .ref a_told, .int v_fromBack, .int v_set, .int v_shifted])), (a_strip, .inr (0, [.ref a_strip_items, .int v_strip_count])), (a_strip_items, .inl (k_strip_items, 800, .inl f_strip_items)), (a_told, .inr (0, [.ref a_told_items, .int v_told_count])), (a_told_items, .inl (k_told_items, 260, .inl f_told_items))]) [0, 1, 2, 3, 4] rfl
      have hD9 := hD.sub (ws' := [(a_this, .inr (2, [.ref a_strip, .ref a_told, .int v_fromBack, .int v_set, .int v_shifted])), (a_strip, .inr (0, [.ref a_strip_items, .int v_strip_count])), (a_strip_items, .inl (k_strip_items, 800, .inl f_strip_items)), (a_told, .inr (0, [.ref a_told_items, .int v_told_count])), (a_told_items, .inl (k_told_items, 260, .inl f_told_items))]) [0, 1, 2, 3, 4] (by decide) rfl
      exact W.zret (v := 1) (ty := .boolean) hx hb hr rfl (fun t ht hW => ⟨⟨1, (v_told_count, f_told_items), rfl, hw, by rw [ht]; exact hP9, va_K.moved hW.alike hK, hD9⟩, hS.F ht⟩) hS.2.2 d_Re_isRightHalf_48
    · have hw := hw.2 c1
      refine lv_aload_n hx hb d_Re_isRightHalf_8 rfl (lv_at hl 0 rfl) ?_
      refine lv_bipush (v := 32) hx hb d_Re_isRightHalf_9 (by decide) ?_
      refine lv_iconst (v := 4) hx hb d_Re_isRightHalf_11 (by decide) ?_
      refine lv_iload_n hx hb d_Re_isRightHalf_12 rfl (lv_at hl 1 rfl) ?_
      refine lv_imul hx hb d_Re_isRightHalf_13 ?_
      refine lv_iadd hx hb d_Re_isRightHalf_14 ?_
      refine k_roVi (As := [.int (32 + (4 * y1))]) (rest := []) hz [0, 1, 2, 3, 4] [0, 1] 0 2 ⟨hx, hb, hml, hown, hts⟩ (met_Re_figureCountsAt l D Z hz ad hk a_this a_strip a_strip_items a_told a_told_items k_strip_items k_told_items v_fromBack v_set v_shifted v_strip_count f_strip_items v_told_count f_told_items (32 + (4 * y1)) hw) (cwV 1 hts (g_V mm_283 mm_285 mm_14 mm_45 mm_286) rfl rfl rfl hd_Re_figureCountsAt ⟨Nat.le_of_ble_eq_true rfl, Nat.le_of_ble_eq_true rfl⟩) hP hK hZ hS rfl rfl rfl rfl rfl hl.1 rfl (Nat.le_of_ble_eq_true rfl) d_Re_isRightHalf_15 ⟨Nat.le_of_ble_eq_true rfl, Nat.le_of_ble_eq_true rfl⟩ (fun r2 hw => ?_)
      refine k_roSi (As := [.int r2]) (rest := []) hz [] [] ⟨hx, hb, hml, hown, hts⟩ (met_Wi_figureWith l D Z hz ad hk r2 hw) (va_cwS 1 hts (g_S mm_287 mm_288 mm_53 mm_289) rfl rfl rfl hd_Wi_figureWith.2 ⟨Nat.le_of_ble_eq_true rfl, Nat.le_of_ble_eq_true rfl⟩) hP hK hZ hS rfl rfl rfl hl.1 rfl (Nat.le_of_ble_eq_true rfl) d_Re_isRightHalf_18 ⟨Nat.le_of_ble_eq_true rfl, Nat.le_of_ble_eq_true rfl⟩ (fun r3 hw => ?_)
      refine lv_istore_n (lv' := [(2, .int r3), (0, .ref a_this), (1, .int y1)]) hx hb d_Re_isRightHalf_21 rfl hl (by decide) rfl (fun ls hl => ?_)
      refine lv_iload_n hx hb d_Re_isRightHalf_22 rfl (lv_at hl 0 rfl) ?_
      refine lv_iconst (v := (-1)) hx hb d_Re_isRightHalf_23 (by decide) ?_
      refine lv_icmp_ne (tgt := 29) hx hb d_Re_isRightHalf_24 (by decide) (fun c4 => ?_) (fun c4 => ?_)
      · have hw := hw.1 c4
        refine lv_aload_n hx hb d_Re_isRightHalf_29 rfl (lv_at hl 1 rfl) ?_
        refine va_get (D := D) (ci := 2) (v := .ref a_told) (C := R_Re) (T := T_Re) (N := 5) hx hb hts in_Re hown hK hP 0 rfl rfl 1 (by decide) (hts _ mm_106) (fun _ h9 => h9) rfl d_Re_isRightHalf_30 ?_
        refine lv_bipush (v := 48) hx hb d_Re_isRightHalf_33 (by decide) ?_
        refine lv_iload_n hx hb d_Re_isRightHalf_35 rfl (lv_at hl 0 rfl) ?_
        refine lv_iadd hx hb d_Re_isRightHalf_36 ?_
        refine k_rwVi (As := [.int (48 + r3)]) (rest := []) (wr := [(a_this, .inr (2, [.ref a_strip, .ref a_told, .int v_fromBack, .int v_set, .int v_shifted])), (a_strip, .inr (0, [.ref a_strip_items, .int v_strip_count])), (a_strip_items, .inl (k_strip_items, 800, .inl f_strip_items))]) hz [3, 4] [0, 1, 2] [1] 3 0 ⟨hx, hb, hml, hown, hts⟩ (met_It_add l D Z hz ad hk a_told a_told_items k_told_items 260 v_told_count f_told_items (48 + r3) _ hw) (cwV 1 hts (g_V mm_282 mm_203 mm_204 mm_42 mm_205) rfl rfl rfl hd_It_add ⟨Nat.le_of_ble_eq_true rfl, Nat.le_of_ble_eq_true rfl⟩) hP hD hK hZ hS hA rfl rfl rfl rfl rfl (by decide) rfl rfl rfl rfl hl.1 rfl (Nat.le_of_ble_eq_true rfl) d_Re_isRightHalf_37 ⟨Nat.le_of_ble_eq_true rfl, Nat.le_of_ble_eq_true rfl⟩ (fun r5 u9 H locs hw hP hD hS => ?_)
        obtain ⟨s6, s7⟩ := u9
        try dsimp only at hw
        have hP : va_P D vwCl [(a_this, .inr (2, [.ref a_strip, .ref a_told, .int v_fromBack, .int v_set, .int v_shifted])), (a_strip, .inr (0, [.ref a_strip_items, .int v_strip_count])), (a_strip_items, .inl (k_strip_items, 800, .inl f_strip_items)), (a_told, .inr (0, [.ref a_told_items, .int s6])), (a_told_items, .inl (k_told_items, 260, .inl s7))] H := hP
        have hD : va_D A [(a_this, .inr (2, [.ref a_strip, .ref a_told, .int v_fromBack, .int v_set, .int v_shifted])), (a_strip, .inr (0, [.ref a_strip_items, .int v_strip_count])), (a_strip_items, .inl (k_strip_items, 800, .inl f_strip_items)), (a_told, .inr (0, [.ref a_told_items, .int s6])), (a_told_items, .inl (k_told_items, 260, .inl s7))] := hD
        refine lv_pop hx hb d_Re_isRightHalf_40 rfl ?_
        refine lv_iinc (v := (y1 + 1)) (lv' := [(1, .int (y1 + 1)), (2, .int r3), (0, .ref a_this)]) hx hb d_Re_isRightHalf_41 hl (k := 2) rfl rfl (by decide) rfl (fun ls hl => ?_)
        refine lv_goto (tgt := 2) hx hb d_Re_isRightHalf_44 (by decide) ?_
        exact ih s6 s7 (y1 + 1) hw _ _ (hP.sub [0, 1, 2, 3, 4] rfl) (hD.sub [0, 1, 2, 3, 4] (by decide) rfl) hS ls (lv_sub hl [2, 0] rfl)
      · have hw := hw.2 c4
        refine lv_iconst (v := 0) hx hb d_Re_isRightHalf_27 (by decide) ?_
        have hP9 := hP.sub (ws' := [(a_this, .inr (2, [.ref a_strip, .ref a_told, .int v_fromBack, .int v_set, .int v_shifted])), (a_strip, .inr (0, [.ref a_strip_items, .int v_strip_count])), (a_strip_items, .inl (k_strip_items, 800, .inl f_strip_items)), (a_told, .inr (0, [.ref a_told_items, .int v_told_count])), (a_told_items, .inl (k_told_items, 260, .inl f_told_items))]) [0, 1, 2, 3, 4] rfl
        have hD9 := hD.sub (ws' := [(a_this, .inr (2, [.ref a_strip, .ref a_told, .int v_fromBack, .int v_set, .int v_shifted])), (a_strip, .inr (0, [.ref a_strip_items, .int v_strip_count])), (a_strip_items, .inl (k_strip_items, 800, .inl f_strip_items)), (a_told, .inr (0, [.ref a_told_items, .int v_told_count])), (a_told_items, .inl (k_told_items, 260, .inl f_told_items))]) [0, 1, 2, 3, 4] (by decide) rfl
        exact W.zret (v := 0) (ty := .boolean) hx hb hr rfl (fun t ht hW => ⟨⟨0, (v_told_count, f_told_items), rfl, hw, by rw [ht]; exact hP9, va_K.moved hW.alike hK, hD9⟩, hS.F ht⟩) hS.2.2 d_Re_isRightHalf_28
set_option maxHeartbeats 4000000 in
set_option maxRecDepth 100000 in
theorem met_Re_isRightHalf (l : Launch) (D : va_G) (Z : (Nat → Prop) → State → Heap → Prop) (hz : zk Z) (ad : Nat → Nat) (hk : zs Z ad) (a_this : Nat) (a_strip : Nat) (a_strip_items : Nat) (a_told : Nat) (a_told_items : Nat) (k_strip_items : ClassId) (k_told_items : ClassId) (v_fromBack : Int32) (v_set : Int32) (v_shifted : Int32) (v_strip_count : Int32) (f_strip_items : Nat → Int32) (v_told_count : Int32) (f_told_items : Nat → Int32) (sz : Nat) {post : Int32 → Int32 → (Nat → Int32) → Prop} (hw : w_Re_isRightHalf post v_strip_count f_strip_items v_told_count f_told_items) : Met l y_Re_isRightHalf ws_Re_isRightHalf rm_Re_isRightHalf (va_Pc [.ref a_this] (rw_ D vwCl [(k_strip_items, .int), (k_told_items, .int)] [(a_this, .inr (2, [.ref a_strip, .ref a_told, .int v_fromBack, .int v_set, .int v_shifted])), (a_strip, .inr (0, [.ref a_strip_items, .int v_strip_count])), (a_strip_items, .inl (k_strip_items, 800, .inl f_strip_items)), (a_told, .inr (0, [.ref a_told_items, .int v_told_count])), (a_told_items, .inl (k_told_items, 260, .inl f_told_items))] (Z) sz)) (va_Qi (fun (r : Int32) (u : Int32 × (Nat → Int32)) => post r u.1 u.2) (fun u t => at_ D vwCl [(k_strip_items, .int), (k_told_items, .int)] (va_A [(a_this, .inr (2, [.ref a_strip, .ref a_told, .int v_fromBack, .int v_set, .int v_shifted])), (a_strip, .inr (0, [.ref a_strip_items, .int v_strip_count])), (a_strip_items, .inl (k_strip_items, 800, .inl f_strip_items)), (a_told, .inr (0, [.ref a_told_items, .int v_told_count])), (a_told_items, .inl (k_told_items, 260, .inl f_told_items))] sz) [(a_this, .inr (2, [.ref a_strip, .ref a_told, .int v_fromBack, .int v_set, .int v_shifted])), (a_strip, .inr (0, [.ref a_strip_items, .int v_strip_count])), (a_strip_items, .inl (k_strip_items, 800, .inl f_strip_items)), (a_told, .inr (0, [.ref a_told_items, .int u.1])), (a_told_items, .inl (k_told_items, 260, .inl u.2))] t) (va_A [(a_this, .inr (2, [.ref a_strip, .ref a_told, .int v_fromBack, .int v_set, .int v_shifted])), (a_strip, .inr (0, [.ref a_strip_items, .int v_strip_count])), (a_strip_items, .inl (k_strip_items, 800, .inl f_strip_items)), (a_told, .inr (0, [.ref a_told_items, .int v_told_count])), (a_told_items, .inl (k_told_items, 260, .inl f_told_items))] sz)) 0 0 (va_A [(a_this, .inr (2, [.ref a_strip, .ref a_told, .int v_fromBack, .int v_set, .int v_shifted])), (a_strip, .inr (0, [.ref a_strip_items, .int v_strip_count])), (a_strip_items, .inl (k_strip_items, 800, .inl f_strip_items)), (a_told, .inr (0, [.ref a_told_items, .int v_told_count])), (a_told_items, .inl (k_told_items, 260, .inl f_told_items))] sz) := by
  refine Met.ofW (cc := c_Re_isRightHalf) (maxL := 3) (ret := (some .boolean)) (by decide) rfl ?_
  intro p e s m args below meth c s₁ B hml hv
  obtain ⟨rfl, hsz, hP, hK, hD0, hZ⟩ := hv
  have hx := B.exec
  have hb := B.bytes
  have hr := B.returns
  have hts0 := atoms_spec (ws := ws_Re_isRightHalf) B.pre
  have hts := fun (w : Cond) (h : w ∈ tb) => hts0 w (List.mem_cons_of_mem _ h)
  have hown : s.vm.findClass R_Re = some m.cls := findClass_of_methodNamed B.named
  have hlocks := B.notSynchronized
  subst hsz
  have hD := hD0.self (sz := s.heap.size)
  generalize hAe : va_A [(a_this, .inr (2, [.ref a_strip, .ref a_told, .int v_fromBack, .int v_set, .int v_shifted])), (a_strip, .inr (0, [.ref a_strip_items, .int v_strip_count])), (a_strip_items, .inl (k_strip_items, 800, .inl f_strip_items)), (a_told, .inr (0, [.ref a_told_items, .int v_told_count])), (a_told_items, .inl (k_told_items, 260, .inl f_told_items))] s.heap.size = A at hD hZ ⊢
  have hA : ∀ q : Nat, s.heap.size ≤ q → A q := fun q h => by rw [← hAe]; exact Or.inr h
  have hS : va_S A s.heap s.heap [] := va_S.rf
  have hl := lv_entry ([.ref a_this]) (n := 3) (Nat.le_of_ble_eq_true rfl)
  rw [lg_entry_eq]
  generalize (lg_sl ([.ref a_this]) ++ List.replicate (3 - (lg_sl ([.ref a_this])).length) Slot.unset).toArray = ls at hl ⊢
  have hl : lv_has ls 3 [(0, .ref a_this)] := hl
  unfold w_Re_isRightHalf at hw
  refine lv_iconst (v := 0) hx hb d_Re_isRightHalf_0 (by decide) ?_
  refine lv_istore_n (lv' := [(1, .int 0), (0, .ref a_this)]) hx hb d_Re_isRightHalf_1 rfl hl (by decide) rfl (fun ls hl => ?_)
  obtain ⟨n9, hw⟩ := hw
  exact lp_Re_isRightHalf_2 l D Z hz ad hk a_this a_strip a_strip_items a_told a_told_items k_strip_items k_told_items v_fromBack v_set v_shifted v_strip_count f_strip_items hx hb hml hr hts hown hlocks hK hZ hA n9 v_told_count f_told_items 0 hw _ _ (hP.sub [0, 1, 2, 3, 4] rfl) (hD.sub [0, 1, 2, 3, 4] (by decide) rfl) hS ls (lv_sub hl [1, 0] rfl)
-- LineCodes$Reader.isThirteen()Z
def w_Re_isThirteen_27 (post : Int32 → Int32 → (Nat → Int32) → Prop) (v_told_count : Int32) (f_told_items : Nat → Int32) : Nat → Int32 → Int32 → Prop
  | 0, _, _ => False
  | n + 1, y1, y2 => (13 ≤ y2 → (¬ (y1 - y1 / 10 * 10) = 0 → post 0 v_told_count f_told_items) ∧ ((y1 - y1 / 10 * 10) = 0 → post 1 v_told_count f_told_items)) ∧ (¬ 13 ≤ y2 → w_Fi_weightOf (fun r13 => w_It_at (fun r14 => w_Re_isThirteen_27 post v_told_count f_told_items n (y1 + (r13 * (r14 - 48))) (y2 + 1)) 260 v_told_count f_told_items y2) y2)
def w_Re_isThirteen (post : Int32 → Int32 → (Nat → Int32) → Prop) (v_strip_count : Int32) (f_strip_items : Nat → Int32) (v_told_count : Int32) (f_told_items : Nat → Int32) : Prop := w_Re_areSidesAndMiddleRight (fun r1 => (r1 = 0 → post 0 v_told_count f_told_items) ∧ (¬ r1 = 0 → w_Re_isLeftHalf (fun r3 s4 s5 => (r3 = 0 → post 0 s4 s5) ∧ (¬ r3 = 0 → w_Re_isRightHalf (fun r7 s8 s9 => (¬ r7 = 0 → ∃ k27, w_Re_isThirteen_27 post s8 s9 k27 0 0) ∧ (r7 = 0 → post 0 s8 s9)) v_strip_count f_strip_items s4 s5)) v_strip_count f_strip_items v_told_count f_told_items)) v_strip_count f_strip_items
abbrev rm_Re_isThirteen : Room := { frames := 4, cells := 0, slots := 0, locals := 95 }
set_option maxHeartbeats 4000000 in
set_option maxRecDepth 100000 in
theorem lp_Re_isThirteen_27 (l : Launch) (D : va_G) (Z : (Nat → Prop) → State → Heap → Prop) (hz : zk Z) (ad : Nat → Nat) (hk : zs Z ad) {p : Program} {e : Env} {s : State} {m : MethodId} {args : Array Value} {below : List Frame} {meth : Method} {c : Code} {A : Nat → Prop} (a_this : Nat) (a_strip : Nat) (a_strip_items : Nat) (a_told : Nat) (a_told_items : Nat) (k_strip_items : ClassId) (k_told_items : ClassId) (v_fromBack : Int32) (v_set : Int32) (v_shifted : Int32) (v_strip_count : Int32) (f_strip_items : Nat → Int32) (v_told_count : Int32) (f_told_items : Nat → Int32) {post : Int32 → Int32 → (Nat → Int32) → Prop} (hx : p.tables.exec = Jvm.exec) (hb : c.code = c_Re_isThirteen) (hml : c.maxLocals = 3) (hr : meth.sig.returnType = (some .boolean)) (hts : ∀ w ∈ tb, w.before args s = true) (hown : s.vm.findClass R_Re = some m.cls) (hlocks : meth.locks = false) (hK : va_K D vwCl [(k_strip_items, .int), (k_told_items, .int)] s) (hZ : Z A s s.heap) (hA : ∀ q, s.heap.size ≤ q → A q) : ∀ (n : Nat) (y1 : Int32) (y2 : Int32), w_Re_isThirteen_27 post v_told_count f_told_items n y1 y2 → ∀ (H : Heap) (locs : List Loc), va_P D vwCl [(a_this, .inr (2, [.ref a_strip, .ref a_told, .int v_fromBack, .int v_set, .int v_shifted])), (a_strip, .inr (0, [.ref a_strip_items, .int v_strip_count])), (a_strip_items, .inl (k_strip_items, 800, .inl f_strip_items)), (a_told, .inr (0, [.ref a_told_items, .int v_told_count])), (a_told_items, .inl (k_told_items, 260, .inl f_told_items))] H → va_D A [(a_this, .inr (2, [.ref a_strip, .ref a_told, .int v_fromBack, .int v_set, .int v_shifted])), (a_strip, .inr (0, [.ref a_strip_items, .int v_strip_count])), (a_strip_items, .inl (k_strip_items, 800, .inl f_strip_items)), (a_told, .inr (0, [.ref a_told_items, .int v_told_count])), (a_told_items, .inl (k_told_items, 260, .inl f_told_items))] → va_S A s.heap H locs → ∀ ls : Array Slot, lv_has ls 3 [(0, .ref a_this), (1, .int y1), (2, .int y2)] → W p l e (headSpec ws_Re_isThirteen rm_Re_isThirteen).room s m args below meth c H locs 0 0 (MQ below (va_Qi (fun (r : Int32) (u : Int32 × (Nat → Int32)) => post r u.1 u.2) (fun u t => at_ D vwCl [(k_strip_items, .int), (k_told_items, .int)] A [(a_this, .inr (2, [.ref a_strip, .ref a_told, .int v_fromBack, .int v_set, .int v_shifted])), (a_strip, .inr (0, [.ref a_strip_items, .int v_strip_count])), (a_strip_items, .inl (k_strip_items, 800, .inl f_strip_items)), (a_told, .inr (0, [.ref a_told_items, .int u.1])), (a_told_items, .inl (k_told_items, 260, .inl u.2))] t) A) args s 0 0 A) (F0 m 27 ls []) := by
  intro n
  induction n with
  | zero =>
    intro y1 y2 hw
    unfold w_Re_isThirteen_27 at hw
    exact hw.elim
  | succ n ih =>
    intro y1 y2 hw H locs hP hD hS ls hl
    unfold w_Re_isThirteen_27 at hw
    refine lv_iload_n hx hb d_Re_isThirteen_27 rfl (lv_at hl 2 rfl) ?_
    refine lv_bipush (v := 13) hx hb d_Re_isThirteen_28 (by decide) ?_
    refine lv_icmp_ge (tgt := 58) hx hb d_Re_isThirteen_30 (by decide) (fun c11 => ?_) (fun c11 => ?_)
    · have hw := hw.1 c11
      refine lv_iload_n hx hb d_Re_isThirteen_58 rfl (lv_at hl 1 rfl) ?_
      refine lv_bipush (v := 10) hx hb d_Re_isThirteen_59 (by decide) ?_
      refine lv_irem hx hb d_Re_isThirteen_61 (by decide) ?_
      refine lv_if_ne (tgt := 69) hx hb d_Re_isThirteen_62 (by decide) (fun c12 => ?_) (fun c12 => ?_)
      · have hw := hw.1 c12
        refine lv_iconst (v := 0) hx hb d_Re_isThirteen_69 (by decide) ?_
        have hP9 := hP.sub (ws' := [(a_this, .inr (2, [.ref a_strip, .ref a_told, .int v_fromBack, .int v_set, .int v_shifted])), (a_strip, .inr (0, [.ref a_strip_items, .int v_strip_count])), (a_strip_items, .inl (k_strip_items, 800, .inl f_strip_items)), (a_told, .inr (0, [.ref a_told_items, .int v_told_count])), (a_told_items, .inl (k_told_items, 260, .inl f_told_items))]) [0, 1, 2, 3, 4] rfl
        have hD9 := hD.sub (ws' := [(a_this, .inr (2, [.ref a_strip, .ref a_told, .int v_fromBack, .int v_set, .int v_shifted])), (a_strip, .inr (0, [.ref a_strip_items, .int v_strip_count])), (a_strip_items, .inl (k_strip_items, 800, .inl f_strip_items)), (a_told, .inr (0, [.ref a_told_items, .int v_told_count])), (a_told_items, .inl (k_told_items, 260, .inl f_told_items))]) [0, 1, 2, 3, 4] (by decide) rfl
        exact W.zret (v := 0) (ty := .boolean) hx hb hr rfl (fun t ht hW => ⟨⟨0, (v_told_count, f_told_items), rfl, hw, by rw [ht]; exact hP9, va_K.moved hW.alike hK, hD9⟩, hS.F ht⟩) hS.2.2 d_Re_isThirteen_70
      · have hw := hw.2 c12
        refine lv_iconst (v := 1) hx hb d_Re_isThirteen_65 (by decide) ?_
        refine lv_goto (tgt := 70) hx hb d_Re_isThirteen_66 (by decide) ?_
        have hP9 := hP.sub (ws' := [(a_this, .inr (2, [.ref a_strip, .ref a_told, .int v_fromBack, .int v_set, .int v_shifted])), (a_strip, .inr (0, [.ref a_strip_items, .int v_strip_count])), (a_strip_items, .inl (k_strip_items, 800, .inl f_strip_items)), (a_told, .inr (0, [.ref a_told_items, .int v_told_count])), (a_told_items, .inl (k_told_items, 260, .inl f_told_items))]) [0, 1, 2, 3, 4] rfl
        have hD9 := hD.sub (ws' := [(a_this, .inr (2, [.ref a_strip, .ref a_told, .int v_fromBack, .int v_set, .int v_shifted])), (a_strip, .inr (0, [.ref a_strip_items, .int v_strip_count])), (a_strip_items, .inl (k_strip_items, 800, .inl f_strip_items)), (a_told, .inr (0, [.ref a_told_items, .int v_told_count])), (a_told_items, .inl (k_told_items, 260, .inl f_told_items))]) [0, 1, 2, 3, 4] (by decide) rfl
        exact W.zret (v := 1) (ty := .boolean) hx hb hr rfl (fun t ht hW => ⟨⟨1, (v_told_count, f_told_items), rfl, hw, by rw [ht]; exact hP9, va_K.moved hW.alike hK, hD9⟩, hS.F ht⟩) hS.2.2 d_Re_isThirteen_70
    · have hw := hw.2 c11
      refine lv_iload_n hx hb d_Re_isThirteen_33 rfl (lv_at hl 1 rfl) ?_
      refine lv_iload_n hx hb d_Re_isThirteen_34 rfl (lv_at hl 2 rfl) ?_
      refine k_roSi (As := [.int y2]) (rest := [.int y1]) hz [] [] ⟨hx, hb, hml, hown, hts⟩ (met_Fi_weightOf l D Z hz ad hk y2 hw) (va_cwS 1 hts (g_S mm_308 mm_309 mm_54 mm_310) rfl rfl rfl hd_Fi_weightOf.2 ⟨Nat.le_of_ble_eq_true rfl, Nat.le_of_ble_eq_true rfl⟩) hP hK hZ hS rfl rfl rfl hl.1 rfl (Nat.le_of_ble_eq_true rfl) d_Re_isThirteen_35 ⟨Nat.le_of_ble_eq_true rfl, Nat.le_of_ble_eq_true rfl⟩ (fun r13 hw => ?_)
      refine lv_aload_n hx hb d_Re_isThirteen_38 rfl (lv_at hl 0 rfl) ?_
      refine va_get (D := D) (ci := 2) (v := .ref a_told) (C := R_Re) (T := T_Re) (N := 5) hx hb hts in_Re hown hK hP 0 rfl rfl 1 (by decide) (hts _ mm_106) (fun _ h9 => h9) rfl d_Re_isThirteen_39 ?_
      refine lv_iload_n hx hb d_Re_isThirteen_42 rfl (lv_at hl 2 rfl) ?_
      refine k_roVi (As := [.int y2]) (rest := [.int r13, .int y1]) hz [3, 4] [1] 3 0 ⟨hx, hb, hml, hown, hts⟩ (met_It_at l D Z hz ad hk a_told a_told_items k_told_items 260 v_told_count f_told_items y2 hw) (cwV 1 hts (g_V mm_273 mm_167 mm_168 mm_42 mm_169) rfl rfl rfl hd_It_at ⟨Nat.le_of_ble_eq_true rfl, Nat.le_of_ble_eq_true rfl⟩) hP hK hZ hS rfl rfl rfl rfl rfl hl.1 rfl (Nat.le_of_ble_eq_true rfl) d_Re_isThirteen_43 ⟨Nat.le_of_ble_eq_true rfl, Nat.le_of_ble_eq_true rfl⟩ (fun r14 hw => ?_)
      refine lv_bipush (v := 48) hx hb d_Re_isThirteen_46 (by decide) ?_
      refine lv_isub hx hb d_Re_isThirteen_48 ?_
      refine lv_imul hx hb d_Re_isThirteen_49 ?_
      refine lv_iadd hx hb d_Re_isThirteen_50 ?_
      refine lv_istore_n (lv' := [(1, .int (y1 + (r13 * (r14 - 48)))), (0, .ref a_this), (2, .int y2)]) hx hb d_Re_isThirteen_51 rfl hl (by decide) rfl (fun ls hl => ?_)
      refine lv_iinc (v := (y2 + 1)) (lv' := [(2, .int (y2 + 1)), (1, .int (y1 + (r13 * (r14 - 48)))), (0, .ref a_this)]) hx hb d_Re_isThirteen_52 hl (k := 2) rfl rfl (by decide) rfl (fun ls hl => ?_)
      refine lv_goto (tgt := 27) hx hb d_Re_isThirteen_55 (by decide) ?_
      exact ih (y1 + (r13 * (r14 - 48))) (y2 + 1) hw _ _ (hP.sub [0, 1, 2, 3, 4] rfl) (hD.sub [0, 1, 2, 3, 4] (by decide) rfl) hS ls (lv_sub hl [2, 1, 0] rfl)
set_option maxHeartbeats 4000000 in
set_option maxRecDepth 100000 in
theorem met_Re_isThirteen (l : Launch) (D : va_G) (Z : (Nat → Prop) → State → Heap → Prop) (hz : zk Z) (ad : Nat → Nat) (hk : zs Z ad) (a_this : Nat) (a_strip : Nat) (a_strip_items : Nat) (a_told : Nat) (a_told_items : Nat) (k_strip_items : ClassId) (k_told_items : ClassId) (v_fromBack : Int32) (v_set : Int32) (v_shifted : Int32) (v_strip_count : Int32) (f_strip_items : Nat → Int32) (v_told_count : Int32) (f_told_items : Nat → Int32) (sz : Nat) {post : Int32 → Int32 → (Nat → Int32) → Prop} (hw : w_Re_isThirteen post v_strip_count f_strip_items v_told_count f_told_items) : Met l y_Re_isThirteen ws_Re_isThirteen rm_Re_isThirteen (va_Pc [.ref a_this] (rw_ D vwCl [(k_strip_items, .int), (k_told_items, .int)] [(a_this, .inr (2, [.ref a_strip, .ref a_told, .int v_fromBack, .int v_set, .int v_shifted])), (a_strip, .inr (0, [.ref a_strip_items, .int v_strip_count])), (a_strip_items, .inl (k_strip_items, 800, .inl f_strip_items)), (a_told, .inr (0, [.ref a_told_items, .int v_told_count])), (a_told_items, .inl (k_told_items, 260, .inl f_told_items))] (Z) sz)) (va_Qi (fun (r : Int32) (u : Int32 × (Nat → Int32)) => post r u.1 u.2) (fun u t => at_ D vwCl [(k_strip_items, .int), (k_told_items, .int)] (va_A [(a_this, .inr (2, [.ref a_strip, .ref a_told, .int v_fromBack, .int v_set, .int v_shifted])), (a_strip, .inr (0, [.ref a_strip_items, .int v_strip_count])), (a_strip_items, .inl (k_strip_items, 800, .inl f_strip_items)), (a_told, .inr (0, [.ref a_told_items, .int v_told_count])), (a_told_items, .inl (k_told_items, 260, .inl f_told_items))] sz) [(a_this, .inr (2, [.ref a_strip, .ref a_told, .int v_fromBack, .int v_set, .int v_shifted])), (a_strip, .inr (0, [.ref a_strip_items, .int v_strip_count])), (a_strip_items, .inl (k_strip_items, 800, .inl f_strip_items)), (a_told, .inr (0, [.ref a_told_items, .int u.1])), (a_told_items, .inl (k_told_items, 260, .inl u.2))] t) (va_A [(a_this, .inr (2, [.ref a_strip, .ref a_told, .int v_fromBack, .int v_set, .int v_shifted])), (a_strip, .inr (0, [.ref a_strip_items, .int v_strip_count])), (a_strip_items, .inl (k_strip_items, 800, .inl f_strip_items)), (a_told, .inr (0, [.ref a_told_items, .int v_told_count])), (a_told_items, .inl (k_told_items, 260, .inl f_told_items))] sz)) 0 0 (va_A [(a_this, .inr (2, [.ref a_strip, .ref a_told, .int v_fromBack, .int v_set, .int v_shifted])), (a_strip, .inr (0, [.ref a_strip_items, .int v_strip_count])), (a_strip_items, .inl (k_strip_items, 800, .inl f_strip_items)), (a_told, .inr (0, [.ref a_told_items, .int v_told_count])), (a_told_items, .inl (k_told_items, 260, .inl f_told_items))] sz) := by
  refine Met.ofW (cc := c_Re_isThirteen) (maxL := 3) (ret := (some .boolean)) (by decide) rfl ?_
  intro p e s m args below meth c s₁ B hml hv
  obtain ⟨rfl, hsz, hP, hK, hD0, hZ⟩ := hv
  have hx := B.exec
  have hb := B.bytes
  have hr := B.returns
  have hts0 := atoms_spec (ws := ws_Re_isThirteen) B.pre
  have hts := fun (w : Cond) (h : w ∈ tb) => hts0 w (List.mem_cons_of_mem _ h)
  have hown : s.vm.findClass R_Re = some m.cls := findClass_of_methodNamed B.named
  have hlocks := B.notSynchronized
  subst hsz
  have hD := hD0.self (sz := s.heap.size)
  generalize hAe : va_A [(a_this, .inr (2, [.ref a_strip, .ref a_told, .int v_fromBack, .int v_set, .int v_shifted])), (a_strip, .inr (0, [.ref a_strip_items, .int v_strip_count])), (a_strip_items, .inl (k_strip_items, 800, .inl f_strip_items)), (a_told, .inr (0, [.ref a_told_items, .int v_told_count])), (a_told_items, .inl (k_told_items, 260, .inl f_told_items))] s.heap.size = A at hD hZ ⊢
  have hA : ∀ q : Nat, s.heap.size ≤ q → A q := fun q h => by rw [← hAe]; exact Or.inr h
  have hS : va_S A s.heap s.heap [] := va_S.rf
  have hl := lv_entry ([.ref a_this]) (n := 3) (Nat.le_of_ble_eq_true rfl)
  rw [lg_entry_eq]
  generalize (lg_sl ([.ref a_this]) ++ List.replicate (3 - (lg_sl ([.ref a_this])).length) Slot.unset).toArray = ls at hl ⊢
  have hl : lv_has ls 3 [(0, .ref a_this)] := hl
  unfold w_Re_isThirteen at hw
  refine lv_aload_n hx hb d_Re_isThirteen_0 rfl (lv_at hl 0 rfl) ?_
  refine k_roVi (As := []) (rest := []) hz [0, 1, 2, 3, 4] [0, 1] 0 2 ⟨hx, hb, hml, hown, hts⟩ (met_Re_areSidesAndMiddleRight l D Z hz ad hk a_this a_strip a_strip_items a_told a_told_items k_strip_items k_told_items v_fromBack v_set v_shifted v_strip_count f_strip_items v_told_count f_told_items hw) (cwV 0 hts (g_V mm_265 mm_267 mm_10 mm_45 mm_268) rfl rfl rfl hd_Re_areSidesAndMiddleRight ⟨Nat.le_of_ble_eq_true rfl, Nat.le_of_ble_eq_true rfl⟩) hP hK hZ hS rfl rfl rfl rfl rfl hl.1 rfl (Nat.le_of_ble_eq_true rfl) d_Re_isThirteen_1 ⟨Nat.le_of_ble_eq_true rfl, Nat.le_of_ble_eq_true rfl⟩ (fun r1 hw => ?_)
  refine lv_if_eq (tgt := 21) hx hb d_Re_isThirteen_4 (by decide) (fun c2 => ?_) (fun c2 => ?_)
  · have hw := hw.1 c2
    refine lv_iconst (v := 0) hx hb d_Re_isThirteen_21 (by decide) ?_
    have hP9 := hP.sub (ws' := [(a_this, .inr (2, [.ref a_strip, .ref a_told, .int v_fromBack, .int v_set, .int v_shifted])), (a_strip, .inr (0, [.ref a_strip_items, .int v_strip_count])), (a_strip_items, .inl (k_strip_items, 800, .inl f_strip_items)), (a_told, .inr (0, [.ref a_told_items, .int v_told_count])), (a_told_items, .inl (k_told_items, 260, .inl f_told_items))]) [0, 1, 2, 3, 4] rfl
    have hD9 := hD.sub (ws' := [(a_this, .inr (2, [.ref a_strip, .ref a_told, .int v_fromBack, .int v_set, .int v_shifted])), (a_strip, .inr (0, [.ref a_strip_items, .int v_strip_count])), (a_strip_items, .inl (k_strip_items, 800, .inl f_strip_items)), (a_told, .inr (0, [.ref a_told_items, .int v_told_count])), (a_told_items, .inl (k_told_items, 260, .inl f_told_items))]) [0, 1, 2, 3, 4] (by decide) rfl
    exact W.zret (v := 0) (ty := .boolean) hx hb hr rfl (fun t ht hW => ⟨⟨0, (v_told_count, f_told_items), rfl, hw, by rw [ht]; exact hP9, va_K.moved hW.alike hK, hD9⟩, hS.F ht⟩) hS.2.2 d_Re_isThirteen_22
  · have hw := hw.2 c2
    refine lv_aload_n hx hb d_Re_isThirteen_7 rfl (lv_at hl 0 rfl) ?_
    refine k_rwVi (As := []) (rest := []) (wr := []) hz [0, 1, 2, 3, 4] [] [0, 1] 0 2 ⟨hx, hb, hml, hown, hts⟩ (met_Re_isLeftHalf l D Z hz ad hk a_this a_strip a_strip_items a_told a_told_items k_strip_items k_told_items v_fromBack v_set v_shifted v_strip_count f_strip_items v_told_count f_told_items _ hw) (cwV 0 hts (g_V mm_278 mm_280 mm_13 mm_45 mm_281) rfl rfl rfl hd_Re_isLeftHalf ⟨Nat.le_of_ble_eq_true rfl, Nat.le_of_ble_eq_true rfl⟩) hP hD hK hZ hS hA rfl rfl rfl rfl rfl (by decide) rfl rfl rfl rfl hl.1 rfl (Nat.le_of_ble_eq_true rfl) d_Re_isThirteen_8 ⟨Nat.le_of_ble_eq_true rfl, Nat.le_of_ble_eq_true rfl⟩ (fun r3 u9 H locs hw hP hD hS => ?_)
    obtain ⟨s4, s5⟩ := u9
    try dsimp only at hw
    have hP : va_P D vwCl [(a_this, .inr (2, [.ref a_strip, .ref a_told, .int v_fromBack, .int v_set, .int v_shifted])), (a_strip, .inr (0, [.ref a_strip_items, .int v_strip_count])), (a_strip_items, .inl (k_strip_items, 800, .inl f_strip_items)), (a_told, .inr (0, [.ref a_told_items, .int s4])), (a_told_items, .inl (k_told_items, 260, .inl s5))] H := hP
    have hD : va_D A [(a_this, .inr (2, [.ref a_strip, .ref a_told, .int v_fromBack, .int v_set, .int v_shifted])), (a_strip, .inr (0, [.ref a_strip_items, .int v_strip_count])), (a_strip_items, .inl (k_strip_items, 800, .inl f_strip_items)), (a_told, .inr (0, [.ref a_told_items, .int s4])), (a_told_items, .inl (k_told_items, 260, .inl s5))] := hD
    refine lv_if_eq (tgt := 21) hx hb d_Re_isThirteen_11 (by decide) (fun c6 => ?_) (fun c6 => ?_)
    · have hw := hw.1 c6
      refine lv_iconst (v := 0) hx hb d_Re_isThirteen_21 (by decide) ?_
      have hP9 := hP.sub (ws' := [(a_this, .inr (2, [.ref a_strip, .ref a_told, .int v_fromBack, .int v_set, .int v_shifted])), (a_strip, .inr (0, [.ref a_strip_items, .int v_strip_count])), (a_strip_items, .inl (k_strip_items, 800, .inl f_strip_items)), (a_told, .inr (0, [.ref a_told_items, .int s4])), (a_told_items, .inl (k_told_items, 260, .inl s5))]) [0, 1, 2, 3, 4] rfl
      have hD9 := hD.sub (ws' := [(a_this, .inr (2, [.ref a_strip, .ref a_told, .int v_fromBack, .int v_set, .int v_shifted])), (a_strip, .inr (0, [.ref a_strip_items, .int v_strip_count])), (a_strip_items, .inl (k_strip_items, 800, .inl f_strip_items)), (a_told, .inr (0, [.ref a_told_items, .int s4])), (a_told_items, .inl (k_told_items, 260, .inl s5))]) [0, 1, 2, 3, 4] (by decide) rfl
      exact W.zret (v := 0) (ty := .boolean) hx hb hr rfl (fun t ht hW => ⟨⟨0, (s4, s5), rfl, hw, by rw [ht]; exact hP9, va_K.moved hW.alike hK, hD9⟩, hS.F ht⟩) hS.2.2 d_Re_isThirteen_22
    · have hw := hw.2 c6
      refine lv_aload_n hx hb d_Re_isThirteen_14 rfl (lv_at hl 0 rfl) ?_
      refine k_rwVi (As := []) (rest := []) (wr := []) hz [0, 1, 2, 3, 4] [] [0, 1] 0 2 ⟨hx, hb, hml, hown, hts⟩ (met_Re_isRightHalf l D Z hz ad hk a_this a_strip a_strip_items a_told a_told_items k_strip_items k_told_items v_fromBack v_set v_shifted v_strip_count f_strip_items s4 s5 _ hw) (cwV 0 hts (g_V mm_304 mm_306 mm_15 mm_45 mm_307) rfl rfl rfl hd_Re_isRightHalf ⟨Nat.le_of_ble_eq_true rfl, Nat.le_of_ble_eq_true rfl⟩) hP hD hK hZ hS hA rfl rfl rfl rfl rfl (by decide) rfl rfl rfl rfl hl.1 rfl (Nat.le_of_ble_eq_true rfl) d_Re_isThirteen_15 ⟨Nat.le_of_ble_eq_true rfl, Nat.le_of_ble_eq_true rfl⟩ (fun r7 u9 H locs hw hP hD hS => ?_)
      obtain ⟨s8, s9⟩ := u9
      try dsimp only at hw
      have hP : va_P D vwCl [(a_this, .inr (2, [.ref a_strip, .ref a_told, .int v_fromBack, .int v_set, .int v_shifted])), (a_strip, .inr (0, [.ref a_strip_items, .int v_strip_count])), (a_strip_items, .inl (k_strip_items, 800, .inl f_strip_items)), (a_told, .inr (0, [.ref a_told_items, .int s8])), (a_told_items, .inl (k_told_items, 260, .inl s9))] H := hP
      have hD : va_D A [(a_this, .inr (2, [.ref a_strip, .ref a_told, .int v_fromBack, .int v_set, .int v_shifted])), (a_strip, .inr (0, [.ref a_strip_items, .int v_strip_count])), (a_strip_items, .inl (k_strip_items, 800, .inl f_strip_items)), (a_told, .inr (0, [.ref a_told_items, .int s8])), (a_told_items, .inl (k_told_items, 260, .inl s9))] := hD
      refine lv_if_ne (tgt := 23) hx hb d_Re_isThirteen_18 (by decide) (fun c10 => ?_) (fun c10 => ?_)
      · have hw := hw.1 c10
        refine lv_iconst (v := 0) hx hb d_Re_isThirteen_23 (by decide) ?_
        refine lv_istore_n (lv' := [(1, .int 0), (0, .ref a_this)]) hx hb d_Re_isThirteen_24 rfl hl (by decide) rfl (fun ls hl => ?_)
        refine lv_iconst (v := 0) hx hb d_Re_isThirteen_25 (by decide) ?_
        refine lv_istore_n (lv' := [(2, .int 0), (1, .int 0), (0, .ref a_this)]) hx hb d_Re_isThirteen_26 rfl hl (by decide) rfl (fun ls hl => ?_)
        obtain ⟨n9, hw⟩ := hw
        exact lp_Re_isThirteen_27 l D Z hz ad hk a_this a_strip a_strip_items a_told a_told_items k_strip_items k_told_items v_fromBack v_set v_shifted v_strip_count f_strip_items s8 s9 hx hb hml hr hts hown hlocks hK hZ hA n9 0 0 hw _ _ (hP.sub [0, 1, 2, 3, 4] rfl) (hD.sub [0, 1, 2, 3, 4] (by decide) rfl) hS ls (lv_sub hl [2, 1, 0] rfl)
      · have hw := hw.2 c10
        refine lv_iconst (v := 0) hx hb d_Re_isThirteen_21 (by decide) ?_
        have hP9 := hP.sub (ws' := [(a_this, .inr (2, [.ref a_strip, .ref a_told, .int v_fromBack, .int v_set, .int v_shifted])), (a_strip, .inr (0, [.ref a_strip_items, .int v_strip_count])), (a_strip_items, .inl (k_strip_items, 800, .inl f_strip_items)), (a_told, .inr (0, [.ref a_told_items, .int s8])), (a_told_items, .inl (k_told_items, 260, .inl s9))]) [0, 1, 2, 3, 4] rfl
        have hD9 := hD.sub (ws' := [(a_this, .inr (2, [.ref a_strip, .ref a_told, .int v_fromBack, .int v_set, .int v_shifted])), (a_strip, .inr (0, [.ref a_strip_items, .int v_strip_count])), (a_strip_items, .inl (k_strip_items, 800, .inl f_strip_items)), (a_told, .inr (0, [.ref a_told_items, .int s8])), (a_told_items, .inl (k_told_items, 260, .inl s9))]) [0, 1, 2, 3, 4] (by decide) rfl
        exact W.zret (v := 0) (ty := .boolean) hx hb hr rfl (fun t ht hW => ⟨⟨0, (s8, s9), rfl, hw, by rw [ht]; exact hP9, va_K.moved hW.alike hK, hD9⟩, hS.F ht⟩) hS.2.2 d_Re_isThirteen_22
-- LineCodes$Reader.isLastAt(I)Z
def w_Re_isLastAt (post : Int32 → Prop) (v_strip_count : Int32) (f_strip_items : Nat → Int32) (x1 : Int32) : Prop := w_Re_sumOf (fun r1 => w_Re_countsOf (fun r2 => (¬ r2 = 2331112 → post 0) ∧ (r2 = 2331112 → post 1)) v_strip_count f_strip_items x1 7 13 r1) v_strip_count f_strip_items x1 7
abbrev rm_Re_isLastAt : Room := { frames := 2, cells := 0, slots := 0, locals := 48 }
set_option maxHeartbeats 4000000 in
set_option maxRecDepth 100000 in
theorem met_Re_isLastAt (l : Launch) (D : va_G) (Z : (Nat → Prop) → State → Heap → Prop) (hz : zk Z) (ad : Nat → Nat) (hk : zs Z ad) (a_this : Nat) (a_strip : Nat) (a_strip_items : Nat) (a_told : Nat) (a_told_items : Nat) (k_strip_items : ClassId) (k_told_items : ClassId) (v_fromBack : Int32) (v_set : Int32) (v_shifted : Int32) (v_strip_count : Int32) (f_strip_items : Nat → Int32) (v_told_count : Int32) (f_told_items : Nat → Int32) (x1 : Int32) {post : Int32 → Prop} (hw : w_Re_isLastAt post v_strip_count f_strip_items x1) : Met l y_Re_isLastAt ws_Re_isLastAt rm_Re_isLastAt (va_Pc [.ref a_this, .int x1] (ro_ D vwCl [(k_strip_items, .int), (k_told_items, .int)] [(a_this, .inr (2, [.ref a_strip, .ref a_told, .int v_fromBack, .int v_set, .int v_shifted])), (a_strip, .inr (0, [.ref a_strip_items, .int v_strip_count])), (a_strip_items, .inl (k_strip_items, 800, .inl f_strip_items)), (a_told, .inr (0, [.ref a_told_items, .int v_told_count])), (a_told_items, .inl (k_told_items, 260, .inl f_told_items))] (Z))) (vp_Si post) 0 0 (fun _ => False) := by
  refine Met.ofW (cc := c_Re_isLastAt) (maxL := 3) (ret := (some .boolean)) (by decide) rfl ?_
  intro p e s m args below meth c s₁ B hml hv
  obtain ⟨rfl, hP, hK, hZ⟩ := hv
  have hx := B.exec
  have hb := B.bytes
  have hr := B.returns
  have hts0 := atoms_spec (ws := ws_Re_isLastAt) B.pre
  have hts := fun (w : Cond) (h : w ∈ tb) => hts0 w (List.mem_cons_of_mem _ h)
  have hown : s.vm.findClass R_Re = some m.cls := findClass_of_methodNamed B.named
  have hlocks := B.notSynchronized
  have hS : va_S (fun _ => False) s.heap s.heap [] := va_S.rf
  have hl := lv_entry ([.ref a_this, .int x1]) (n := 3) (Nat.le_of_ble_eq_true rfl)
  rw [lg_entry_eq]
  generalize (lg_sl ([.ref a_this, .int x1]) ++ List.replicate (3 - (lg_sl ([.ref a_this, .int x1])).length) Slot.unset).toArray = ls at hl ⊢
  have hl : lv_has ls 3 [(0, .ref a_this), (1, .int x1)] := hl
  unfold w_Re_isLastAt at hw
  refine lv_aload_n hx hb d_Re_isLastAt_0 rfl (lv_at hl 0 rfl) ?_
  refine lv_iload_n hx hb d_Re_isLastAt_1 rfl (lv_at hl 1 rfl) ?_
  refine lv_bipush (v := 7) hx hb d_Re_isLastAt_2 (by decide) ?_
  refine k_roVi (As := [.int x1, .int 7]) (rest := []) hz [0, 1, 2, 3, 4] [0, 1] 0 2 ⟨hx, hb, hml, hown, hts⟩ (met_Re_sumOf l D Z hz ad hk a_this a_strip a_strip_items a_told a_told_items k_strip_items k_told_items v_fromBack v_set v_shifted v_strip_count f_strip_items v_told_count f_told_items x1 7 hw) (cwV 2 hts (g_V mm_269 mm_271 mm_11 mm_45 mm_272) rfl rfl rfl hd_Re_sumOf ⟨Nat.le_of_ble_eq_true rfl, Nat.le_of_ble_eq_true rfl⟩) hP hK hZ hS rfl rfl rfl rfl rfl hl.1 rfl (Nat.le_of_ble_eq_true rfl) d_Re_isLastAt_4 ⟨Nat.le_of_ble_eq_true rfl, Nat.le_of_ble_eq_true rfl⟩ (fun r1 hw => ?_)
  refine lv_istore_n (lv' := [(2, .int r1), (0, .ref a_this), (1, .int x1)]) hx hb d_Re_isLastAt_7 rfl hl (by decide) rfl (fun ls hl => ?_)
  refine lv_aload_n hx hb d_Re_isLastAt_8 rfl (lv_at hl 1 rfl) ?_
  refine lv_iload_n hx hb d_Re_isLastAt_9 rfl (lv_at hl 2 rfl) ?_
  refine lv_bipush (v := 7) hx hb d_Re_isLastAt_10 (by decide) ?_
  refine lv_bipush (v := 13) hx hb d_Re_isLastAt_12 (by decide) ?_
  refine lv_iload_n hx hb d_Re_isLastAt_14 rfl (lv_at hl 0 rfl) ?_
  refine k_roVi (As := [.int x1, .int 7, .int 13, .int r1]) (rest := []) hz [0, 1, 2, 3, 4] [0, 1] 0 2 ⟨hx, hb, hml, hown, hts⟩ (met_Re_countsOf l D Z hz ad hk a_this a_strip a_strip_items a_told a_told_items k_strip_items k_told_items v_fromBack v_set v_shifted v_strip_count f_strip_items v_told_count f_told_items x1 7 13 r1 hw) (cwV 4 hts (g_V mm_274 mm_276 mm_12 mm_45 mm_277) rfl rfl rfl hd_Re_countsOf ⟨Nat.le_of_ble_eq_true rfl, Nat.le_of_ble_eq_true rfl⟩) hP hK hZ hS rfl rfl rfl rfl rfl hl.1 rfl (Nat.le_of_ble_eq_true rfl) d_Re_isLastAt_15 ⟨Nat.le_of_ble_eq_true rfl, Nat.le_of_ble_eq_true rfl⟩ (fun r2 hw => ?_)
  refine lv_ldc (v := 2331112) hx hb hown (hts _ mm_319) d_Re_isLastAt_18 ?_
  refine lv_icmp_ne (tgt := 27) hx hb d_Re_isLastAt_20 (by decide) (fun c3 => ?_) (fun c3 => ?_)
  · have hw := hw.1 c3
    refine lv_iconst (v := 0) hx hb d_Re_isLastAt_27 (by decide) ?_
    exact W.zret (v := 0) (ty := .boolean) hx hb hr rfl (fun t ht hW => ⟨0, rfl, hw, ht⟩) hS.2.2 d_Re_isLastAt_28
  · have hw := hw.2 c3
    refine lv_iconst (v := 1) hx hb d_Re_isLastAt_23 (by decide) ?_
    refine lv_goto (tgt := 28) hx hb d_Re_isLastAt_24 (by decide) ?_
    exact W.zret (v := 1) (ty := .boolean) hx hb hr rfl (fun t ht hW => ⟨1, rfl, hw, ht⟩) hS.2.2 d_Re_isLastAt_28
-- LineCodes$Reader.symbolAt(I)I
def w_Re_symbolAt (post : Int32 → Prop) (v_strip_count : Int32) (f_strip_items : Nat → Int32) (x1 : Int32) : Prop := w_Re_sumOf (fun r1 => w_Re_countsOf (fun r2 => w_Wi_symbolWith (fun r3 => post r3) r2) v_strip_count f_strip_items x1 6 11 r1) v_strip_count f_strip_items x1 6
abbrev rm_Re_symbolAt : Room := { frames := 2, cells := 0, slots := 0, locals := 48 }
set_option maxHeartbeats 4000000 in
set_option maxRecDepth 100000 in
theorem met_Re_symbolAt (l : Launch) (D : va_G) (Z : (Nat → Prop) → State → Heap → Prop) (hz : zk Z) (ad : Nat → Nat) (hk : zs Z ad) (a_this : Nat) (a_strip : Nat) (a_strip_items : Nat) (a_told : Nat) (a_told_items : Nat) (k_strip_items : ClassId) (k_told_items : ClassId) (v_fromBack : Int32) (v_set : Int32) (v_shifted : Int32) (v_strip_count : Int32) (f_strip_items : Nat → Int32) (v_told_count : Int32) (f_told_items : Nat → Int32) (x1 : Int32) {post : Int32 → Prop} (hw : w_Re_symbolAt post v_strip_count f_strip_items x1) : Met l y_Re_symbolAt ws_Re_symbolAt rm_Re_symbolAt (va_Pc [.ref a_this, .int x1] (ro_ D vwCl [(k_strip_items, .int), (k_told_items, .int)] [(a_this, .inr (2, [.ref a_strip, .ref a_told, .int v_fromBack, .int v_set, .int v_shifted])), (a_strip, .inr (0, [.ref a_strip_items, .int v_strip_count])), (a_strip_items, .inl (k_strip_items, 800, .inl f_strip_items)), (a_told, .inr (0, [.ref a_told_items, .int v_told_count])), (a_told_items, .inl (k_told_items, 260, .inl f_told_items))] (Z))) (vp_Si post) 0 0 (fun _ => False) := by
  refine Met.ofW (cc := c_Re_symbolAt) (maxL := 3) (ret := (some .int)) (by decide) rfl ?_
  intro p e s m args below meth c s₁ B hml hv
  obtain ⟨rfl, hP, hK, hZ⟩ := hv
  have hx := B.exec
  have hb := B.bytes
  have hr := B.returns
  have hts0 := atoms_spec (ws := ws_Re_symbolAt) B.pre
  have hts := fun (w : Cond) (h : w ∈ tb) => hts0 w (List.mem_cons_of_mem _ h)
  have hown : s.vm.findClass R_Re = some m.cls := findClass_of_methodNamed B.named
  have hlocks := B.notSynchronized
  have hS : va_S (fun _ => False) s.heap s.heap [] := va_S.rf
  have hl := lv_entry ([.ref a_this, .int x1]) (n := 3) (Nat.le_of_ble_eq_true rfl)
  rw [lg_entry_eq]
  generalize (lg_sl ([.ref a_this, .int x1]) ++ List.replicate (3 - (lg_sl ([.ref a_this, .int x1])).length) Slot.unset).toArray = ls at hl ⊢
  have hl : lv_has ls 3 [(0, .ref a_this), (1, .int x1)] := hl
  unfold w_Re_symbolAt at hw
  refine lv_aload_n hx hb d_Re_symbolAt_0 rfl (lv_at hl 0 rfl) ?_
  refine lv_iload_n hx hb d_Re_symbolAt_1 rfl (lv_at hl 1 rfl) ?_
  refine lv_bipush (v := 6) hx hb d_Re_symbolAt_2 (by decide) ?_
  refine k_roVi (As := [.int x1, .int 6]) (rest := []) hz [0, 1, 2, 3, 4] [0, 1] 0 2 ⟨hx, hb, hml, hown, hts⟩ (met_Re_sumOf l D Z hz ad hk a_this a_strip a_strip_items a_told a_told_items k_strip_items k_told_items v_fromBack v_set v_shifted v_strip_count f_strip_items v_told_count f_told_items x1 6 hw) (cwV 2 hts (g_V mm_269 mm_271 mm_11 mm_45 mm_272) rfl rfl rfl hd_Re_sumOf ⟨Nat.le_of_ble_eq_true rfl, Nat.le_of_ble_eq_true rfl⟩) hP hK hZ hS rfl rfl rfl rfl rfl hl.1 rfl (Nat.le_of_ble_eq_true rfl) d_Re_symbolAt_4 ⟨Nat.le_of_ble_eq_true rfl, Nat.le_of_ble_eq_true rfl⟩ (fun r1 hw => ?_)
  refine lv_istore_n (lv' := [(2, .int r1), (0, .ref a_this), (1, .int x1)]) hx hb d_Re_symbolAt_7 rfl hl (by decide) rfl (fun ls hl => ?_)
  refine lv_aload_n hx hb d_Re_symbolAt_8 rfl (lv_at hl 1 rfl) ?_
  refine lv_iload_n hx hb d_Re_symbolAt_9 rfl (lv_at hl 2 rfl) ?_
  refine lv_bipush (v := 6) hx hb d_Re_symbolAt_10 (by decide) ?_
  refine lv_bipush (v := 11) hx hb d_Re_symbolAt_12 (by decide) ?_
  refine lv_iload_n hx hb d_Re_symbolAt_14 rfl (lv_at hl 0 rfl) ?_
  refine k_roVi (As := [.int x1, .int 6, .int 11, .int r1]) (rest := []) hz [0, 1, 2, 3, 4] [0, 1] 0 2 ⟨hx, hb, hml, hown, hts⟩ (met_Re_countsOf l D Z hz ad hk a_this a_strip a_strip_items a_told a_told_items k_strip_items k_told_items v_fromBack v_set v_shifted v_strip_count f_strip_items v_told_count f_told_items x1 6 11 r1 hw) (cwV 4 hts (g_V mm_274 mm_276 mm_12 mm_45 mm_277) rfl rfl rfl hd_Re_countsOf ⟨Nat.le_of_ble_eq_true rfl, Nat.le_of_ble_eq_true rfl⟩) hP hK hZ hS rfl rfl rfl rfl rfl hl.1 rfl (Nat.le_of_ble_eq_true rfl) d_Re_symbolAt_15 ⟨Nat.le_of_ble_eq_true rfl, Nat.le_of_ble_eq_true rfl⟩ (fun r2 hw => ?_)
  refine k_roSi (As := [.int r2]) (rest := []) hz [] [] ⟨hx, hb, hml, hown, hts⟩ (met_Wi_symbolWith l D Z hz ad hk r2 hw) (va_cwS 1 hts (g_S mm_324 mm_325 mm_53 mm_326) rfl rfl rfl hd_Wi_symbolWith.2 ⟨Nat.le_of_ble_eq_true rfl, Nat.le_of_ble_eq_true rfl⟩) hP hK hZ hS rfl rfl rfl hl.1 rfl (Nat.le_of_ble_eq_true rfl) d_Re_symbolAt_18 ⟨Nat.le_of_ble_eq_true rfl, Nat.le_of_ble_eq_true rfl⟩ (fun r3 hw => ?_)
  exact W.iret (v := r3) hx hb hr (fun t ht hW => ⟨r3, rfl, hw, ht⟩) hS.2.2 d_Re_symbolAt_21
-- LineCodes$Reader.isSwitched(I)Z
def w_Re_isSwitched (post : Int32 → Int32 → Prop) (v_set : Int32) (x1 : Int32) : Prop := w_Se_setAfter (fun r1 => (¬ r1 = (-1) → post 1 r1) ∧ (r1 = (-1) → post 0 v_set)) v_set x1
abbrev rm_Re_isSwitched : Room := { frames := 1, cells := 0, slots := 0, locals := 22 }
set_option maxHeartbeats 4000000 in
set_option maxRecDepth 100000 in
theorem met_Re_isSwitched (l : Launch) (D : va_G) (Z : (Nat → Prop) → State → Heap → Prop) (hz : zk Z) (ad : Nat → Nat) (hk : zs Z ad) (a_this : Nat) (a_strip : Nat) (a_strip_items : Nat) (a_told : Nat) (a_told_items : Nat) (k_strip_items : ClassId) (k_told_items : ClassId) (v_fromBack : Int32) (v_set : Int32) (v_shifted : Int32) (v_strip_count : Int32) (f_strip_items : Nat → Int32) (v_told_count : Int32) (f_told_items : Nat → Int32) (x1 : Int32) (sz : Nat) {post : Int32 → Int32 → Prop} (hw : w_Re_isSwitched post v_set x1) : Met l y_Re_isSwitched ws_Re_isSwitched rm_Re_isSwitched (va_Pc [.ref a_this, .int x1] (rw_ D vwCl [(k_strip_items, .int), (k_told_items, .int)] [(a_this, .inr (2, [.ref a_strip, .ref a_told, .int v_fromBack, .int v_set, .int v_shifted])), (a_strip, .inr (0, [.ref a_strip_items, .int v_strip_count])), (a_strip_items, .inl (k_strip_items, 800, .inl f_strip_items)), (a_told, .inr (0, [.ref a_told_items, .int v_told_count])), (a_told_items, .inl (k_told_items, 260, .inl f_told_items))] (Z) sz)) (va_Qi (fun (r : Int32) (u : Int32) => post r u) (fun u t => at_ D vwCl [(k_strip_items, .int), (k_told_items, .int)] (va_A [(a_this, .inr (2, [.ref a_strip, .ref a_told, .int v_fromBack, .int v_set, .int v_shifted])), (a_strip, .inr (0, [.ref a_strip_items, .int v_strip_count])), (a_strip_items, .inl (k_strip_items, 800, .inl f_strip_items)), (a_told, .inr (0, [.ref a_told_items, .int v_told_count])), (a_told_items, .inl (k_told_items, 260, .inl f_told_items))] sz) [(a_this, .inr (2, [.ref a_strip, .ref a_told, .int v_fromBack, .int u, .int v_shifted])), (a_strip, .inr (0, [.ref a_strip_items, .int v_strip_count])), (a_strip_items, .inl (k_strip_items, 800, .inl f_strip_items)), (a_told, .inr (0, [.ref a_told_items, .int v_told_count])), (a_told_items, .inl (k_told_items, 260, .inl f_told_items))] t) (va_A [(a_this, .inr (2, [.ref a_strip, .ref a_told, .int v_fromBack, .int v_set, .int v_shifted])), (a_strip, .inr (0, [.ref a_strip_items, .int v_strip_count])), (a_strip_items, .inl (k_strip_items, 800, .inl f_strip_items)), (a_told, .inr (0, [.ref a_told_items, .int v_told_count])), (a_told_items, .inl (k_told_items, 260, .inl f_told_items))] sz)) 0 0 (va_A [(a_this, .inr (2, [.ref a_strip, .ref a_told, .int v_fromBack, .int v_set, .int v_shifted])), (a_strip, .inr (0, [.ref a_strip_items, .int v_strip_count])), (a_strip_items, .inl (k_strip_items, 800, .inl f_strip_items)), (a_told, .inr (0, [.ref a_told_items, .int v_told_count])), (a_told_items, .inl (k_told_items, 260, .inl f_told_items))] sz) := by
  refine Met.ofW (cc := c_Re_isSwitched) (maxL := 3) (ret := (some .boolean)) (by decide) rfl ?_
  intro p e s m args below meth c s₁ B hml hv
  obtain ⟨rfl, hsz, hP, hK, hD0, hZ⟩ := hv
  have hx := B.exec
  have hb := B.bytes
  have hr := B.returns
  have hts0 := atoms_spec (ws := ws_Re_isSwitched) B.pre
  have hts := fun (w : Cond) (h : w ∈ tb) => hts0 w (List.mem_cons_of_mem _ h)
  have hown : s.vm.findClass R_Re = some m.cls := findClass_of_methodNamed B.named
  have hlocks := B.notSynchronized
  subst hsz
  have hD := hD0.self (sz := s.heap.size)
  generalize hAe : va_A [(a_this, .inr (2, [.ref a_strip, .ref a_told, .int v_fromBack, .int v_set, .int v_shifted])), (a_strip, .inr (0, [.ref a_strip_items, .int v_strip_count])), (a_strip_items, .inl (k_strip_items, 800, .inl f_strip_items)), (a_told, .inr (0, [.ref a_told_items, .int v_told_count])), (a_told_items, .inl (k_told_items, 260, .inl f_told_items))] s.heap.size = A at hD hZ ⊢
  have hA : ∀ q : Nat, s.heap.size ≤ q → A q := fun q h => by rw [← hAe]; exact Or.inr h
  have hS : va_S A s.heap s.heap [] := va_S.rf
  have hl := lv_entry ([.ref a_this, .int x1]) (n := 3) (Nat.le_of_ble_eq_true rfl)
  rw [lg_entry_eq]
  generalize (lg_sl ([.ref a_this, .int x1]) ++ List.replicate (3 - (lg_sl ([.ref a_this, .int x1])).length) Slot.unset).toArray = ls at hl ⊢
  have hl : lv_has ls 3 [(0, .ref a_this), (1, .int x1)] := hl
  unfold w_Re_isSwitched at hw
  refine lv_aload_n hx hb d_Re_isSwitched_0 rfl (lv_at hl 0 rfl) ?_
  refine va_get (D := D) (ci := 2) (v := .int v_set) (C := R_Re) (T := T_Re) (N := 5) hx hb hts in_Re hown hK hP 0 rfl rfl 3 (by decide) (hts _ mm_108) (fun _ h9 => h9) rfl d_Re_isSwitched_1 ?_
  refine lv_iload_n hx hb d_Re_isSwitched_4 rfl (lv_at hl 1 rfl) ?_
  refine k_roSi (As := [.int v_set, .int x1]) (rest := []) hz [] [] ⟨hx, hb, hml, hown, hts⟩ (met_Se_setAfter l D Z hz ad hk v_set x1 hw) (va_cwS 2 hts (g_S mm_344 mm_345 mm_51 mm_346) rfl rfl rfl hd_Se_setAfter.2 ⟨Nat.le_of_ble_eq_true rfl, Nat.le_of_ble_eq_true rfl⟩) hP hK hZ hS rfl rfl rfl hl.1 rfl (Nat.le_of_ble_eq_true rfl) d_Re_isSwitched_5 ⟨Nat.le_of_ble_eq_true rfl, Nat.le_of_ble_eq_true rfl⟩ (fun r1 hw => ?_)
  refine lv_istore_n (lv' := [(2, .int r1), (0, .ref a_this), (1, .int x1)]) hx hb d_Re_isSwitched_8 rfl hl (by decide) rfl (fun ls hl => ?_)
  refine lv_iload_n hx hb d_Re_isSwitched_9 rfl (lv_at hl 0 rfl) ?_
  refine lv_iconst (v := (-1)) hx hb d_Re_isSwitched_10 (by decide) ?_
  refine lv_icmp_ne (tgt := 16) hx hb d_Re_isSwitched_11 (by decide) (fun c2 => ?_) (fun c2 => ?_)
  · have hw := hw.1 c2
    refine lv_aload_n hx hb d_Re_isSwitched_16 rfl (lv_at hl 1 rfl) ?_
    refine lv_iload_n hx hb d_Re_isSwitched_17 rfl (lv_at hl 0 rfl) ?_
    refine va_put (D := D) (ci := 2) (v := .int r1) (ty := .int) (C := R_Re) (T := T_Re) (N := 5) hx hb hts in_Re ty_Re tk_Re nn_Re hown hK hP hD hS 0 rfl rfl 3 (by decide) (hts _ mm_108) (fun _ h9 => h9) rfl (by decide +kernel) rfl rfl (Nat.le_of_ble_eq_true rfl) d_Re_isSwitched_18 (fun H locs hP hD hS => ?_)
    have hP : va_P D vwCl [(a_this, .inr (2, [.ref a_strip, .ref a_told, .int v_fromBack, .int r1, .int v_shifted])), (a_strip, .inr (0, [.ref a_strip_items, .int v_strip_count])), (a_strip_items, .inl (k_strip_items, 800, .inl f_strip_items)), (a_told, .inr (0, [.ref a_told_items, .int v_told_count])), (a_told_items, .inl (k_told_items, 260, .inl f_told_items))] H := hP
    have hD : va_D A [(a_this, .inr (2, [.ref a_strip, .ref a_told, .int v_fromBack, .int r1, .int v_shifted])), (a_strip, .inr (0, [.ref a_strip_items, .int v_strip_count])), (a_strip_items, .inl (k_strip_items, 800, .inl f_strip_items)), (a_told, .inr (0, [.ref a_told_items, .int v_told_count])), (a_told_items, .inl (k_told_items, 260, .inl f_told_items))] := hD
    refine lv_iconst (v := 1) hx hb d_Re_isSwitched_21 (by decide) ?_
    have hP9 := hP.sub (ws' := [(a_this, .inr (2, [.ref a_strip, .ref a_told, .int v_fromBack, .int r1, .int v_shifted])), (a_strip, .inr (0, [.ref a_strip_items, .int v_strip_count])), (a_strip_items, .inl (k_strip_items, 800, .inl f_strip_items)), (a_told, .inr (0, [.ref a_told_items, .int v_told_count])), (a_told_items, .inl (k_told_items, 260, .inl f_told_items))]) [0, 1, 2, 3, 4] rfl
    have hD9 := hD.sub (ws' := [(a_this, .inr (2, [.ref a_strip, .ref a_told, .int v_fromBack, .int r1, .int v_shifted])), (a_strip, .inr (0, [.ref a_strip_items, .int v_strip_count])), (a_strip_items, .inl (k_strip_items, 800, .inl f_strip_items)), (a_told, .inr (0, [.ref a_told_items, .int v_told_count])), (a_told_items, .inl (k_told_items, 260, .inl f_told_items))]) [0, 1, 2, 3, 4] (by decide) rfl
    exact W.zret (v := 1) (ty := .boolean) hx hb hr rfl (fun t ht hW => ⟨⟨1, r1, rfl, hw, by rw [ht]; exact hP9, va_K.moved hW.alike hK, hD9⟩, hS.F ht⟩) hS.2.2 d_Re_isSwitched_22
  · have hw := hw.2 c2
    refine lv_iconst (v := 0) hx hb d_Re_isSwitched_14 (by decide) ?_
    have hP9 := hP.sub (ws' := [(a_this, .inr (2, [.ref a_strip, .ref a_told, .int v_fromBack, .int v_set, .int v_shifted])), (a_strip, .inr (0, [.ref a_strip_items, .int v_strip_count])), (a_strip_items, .inl (k_strip_items, 800, .inl f_strip_items)), (a_told, .inr (0, [.ref a_told_items, .int v_told_count])), (a_told_items, .inl (k_told_items, 260, .inl f_told_items))]) [0, 1, 2, 3, 4] rfl
    have hD9 := hD.sub (ws' := [(a_this, .inr (2, [.ref a_strip, .ref a_told, .int v_fromBack, .int v_set, .int v_shifted])), (a_strip, .inr (0, [.ref a_strip_items, .int v_strip_count])), (a_strip_items, .inl (k_strip_items, 800, .inl f_strip_items)), (a_told, .inr (0, [.ref a_told_items, .int v_told_count])), (a_told_items, .inl (k_told_items, 260, .inl f_told_items))]) [0, 1, 2, 3, 4] (by decide) rfl
    exact W.zret (v := 0) (ty := .boolean) hx hb hr rfl (fun t ht hW => ⟨⟨0, v_set, rfl, hw, by rw [ht]; exact hP9, va_K.moved hW.alike hK, hD9⟩, hS.F ht⟩) hS.2.2 d_Re_isSwitched_15
-- LineCodes$Reader.isTold(I)Z
def w_Re_isTold (post : Int32 → Int32 → Int32 → Int32 → (Nat → Int32) → Prop) (v_set : Int32) (v_shifted : Int32) (v_told_count : Int32) (f_told_items : Nat → Int32) (x1 : Int32) : Prop := (v_shifted = 0 → (¬ x1 = 102 → (¬ v_set = 2 → (95 < x1 → (¬ x1 = 98 → w_Re_isSwitched (fun r6 s7 => vz r6 ∧ post r6 s7 v_shifted v_told_count f_told_items) v_set x1) ∧ (x1 = 98 → post 1 v_set 1 v_told_count f_told_items)) ∧ (¬ 95 < x1 → w_Se_signOf (fun r8 => w_It_add (fun r9 s10 s11 => vz r9 ∧ post r9 v_set v_shifted s10 s11) 260 v_told_count f_told_items r8) v_set x1)) ∧ (v_set = 2 → (99 < x1 → (95 < x1 → (¬ x1 = 98 → w_Re_isSwitched (fun r15 s16 => vz r15 ∧ post r15 s16 v_shifted v_told_count f_told_items) v_set x1) ∧ (x1 = 98 → post 1 v_set 1 v_told_count f_told_items)) ∧ (¬ 95 < x1 → w_Se_signOf (fun r17 => w_It_add (fun r18 s19 s20 => vz r18 ∧ post r18 v_set v_shifted s19 s20) 260 v_told_count f_told_items r17) v_set x1)) ∧ (¬ 99 < x1 → w_It_add (fun r21 s22 s23 => (r21 = 0 → post 0 v_set v_shifted s22 s23) ∧ (¬ r21 = 0 → w_It_add (fun r25 s26 s27 => (r25 = 0 → post 0 v_set v_shifted s26 s27) ∧ (¬ r25 = 0 → post 1 v_set v_shifted s26 s27)) 260 s22 s23 (48 + (x1 - x1 / 10 * 10)))) 260 v_told_count f_told_items (48 + (x1 / 10))))) ∧ (x1 = 102 → w_It_add (fun r29 s30 s31 => vz r29 ∧ post r29 v_set v_shifted s30 s31) 260 v_told_count f_told_items 128)) ∧ (¬ v_shifted = 0 → (95 < x1 → post 0 v_set 0 v_told_count f_told_items) ∧ (¬ 95 < x1 → w_Se_otherOfAB (fun r33 => w_Se_signOf (fun r34 => w_It_add (fun r35 s36 s37 => (r35 = 0 → post 0 v_set 0 s36 s37) ∧ (¬ r35 = 0 → post 1 v_set 0 s36 s37)) 260 v_told_count f_told_items r34) r33 x1) v_set))
abbrev rm_Re_isTold : Room := { frames := 2, cells := 0, slots := 0, locals := 44 }
set_option maxHeartbeats 4000000 in
set_option maxRecDepth 100000 in
theorem met_Re_isTold (l : Launch) (D : va_G) (Z : (Nat → Prop) → State → Heap → Prop) (hz : zk Z) (ad : Nat → Nat) (hk : zs Z ad) (a_this : Nat) (a_strip : Nat) (a_strip_items : Nat) (a_told : Nat) (a_told_items : Nat) (k_strip_items : ClassId) (k_told_items : ClassId) (v_fromBack : Int32) (v_set : Int32) (v_shifted : Int32) (v_strip_count : Int32) (f_strip_items : Nat → Int32) (v_told_count : Int32) (f_told_items : Nat → Int32) (x1 : Int32) (sz : Nat) {post : Int32 → Int32 → Int32 → Int32 → (Nat → Int32) → Prop} (hw : w_Re_isTold post v_set v_shifted v_told_count f_told_items x1) : Met l y_Re_isTold ws_Re_isTold rm_Re_isTold (va_Pc [.ref a_this, .int x1] (rw_ D vwCl [(k_strip_items, .int), (k_told_items, .int)] [(a_this, .inr (2, [.ref a_strip, .ref a_told, .int v_fromBack, .int v_set, .int v_shifted])), (a_strip, .inr (0, [.ref a_strip_items, .int v_strip_count])), (a_strip_items, .inl (k_strip_items, 800, .inl f_strip_items)), (a_told, .inr (0, [.ref a_told_items, .int v_told_count])), (a_told_items, .inl (k_told_items, 260, .inl f_told_items))] (Z) sz)) (va_Qi (fun (r : Int32) (u : Int32 × Int32 × Int32 × (Nat → Int32)) => post r u.1 u.2.1 u.2.2.1 u.2.2.2) (fun u t => at_ D vwCl [(k_strip_items, .int), (k_told_items, .int)] (va_A [(a_this, .inr (2, [.ref a_strip, .ref a_told, .int v_fromBack, .int v_set, .int v_shifted])), (a_strip, .inr (0, [.ref a_strip_items, .int v_strip_count])), (a_strip_items, .inl (k_strip_items, 800, .inl f_strip_items)), (a_told, .inr (0, [.ref a_told_items, .int v_told_count])), (a_told_items, .inl (k_told_items, 260, .inl f_told_items))] sz) [(a_this, .inr (2, [.ref a_strip, .ref a_told, .int v_fromBack, .int u.1, .int u.2.1])), (a_strip, .inr (0, [.ref a_strip_items, .int v_strip_count])), (a_strip_items, .inl (k_strip_items, 800, .inl f_strip_items)), (a_told, .inr (0, [.ref a_told_items, .int u.2.2.1])), (a_told_items, .inl (k_told_items, 260, .inl u.2.2.2))] t) (va_A [(a_this, .inr (2, [.ref a_strip, .ref a_told, .int v_fromBack, .int v_set, .int v_shifted])), (a_strip, .inr (0, [.ref a_strip_items, .int v_strip_count])), (a_strip_items, .inl (k_strip_items, 800, .inl f_strip_items)), (a_told, .inr (0, [.ref a_told_items, .int v_told_count])), (a_told_items, .inl (k_told_items, 260, .inl f_told_items))] sz)) 0 0 (va_A [(a_this, .inr (2, [.ref a_strip, .ref a_told, .int v_fromBack, .int v_set, .int v_shifted])), (a_strip, .inr (0, [.ref a_strip_items, .int v_strip_count])), (a_strip_items, .inl (k_strip_items, 800, .inl f_strip_items)), (a_told, .inr (0, [.ref a_told_items, .int v_told_count])), (a_told_items, .inl (k_told_items, 260, .inl f_told_items))] sz) := by
  refine Met.ofW (cc := c_Re_isTold) (maxL := 2) (ret := (some .boolean)) (by decide) rfl ?_
  intro p e s m args below meth c s₁ B hml hv
  obtain ⟨rfl, hsz, hP, hK, hD0, hZ⟩ := hv
  have hx := B.exec
  have hb := B.bytes
  have hr := B.returns
  have hts0 := atoms_spec (ws := ws_Re_isTold) B.pre
  have hts := fun (w : Cond) (h : w ∈ tb) => hts0 w (List.mem_cons_of_mem _ h)
  have hown : s.vm.findClass R_Re = some m.cls := findClass_of_methodNamed B.named
  have hlocks := B.notSynchronized
  subst hsz
  have hD := hD0.self (sz := s.heap.size)
  generalize hAe : va_A [(a_this, .inr (2, [.ref a_strip, .ref a_told, .int v_fromBack, .int v_set, .int v_shifted])), (a_strip, .inr (0, [.ref a_strip_items, .int v_strip_count])), (a_strip_items, .inl (k_strip_items, 800, .inl f_strip_items)), (a_told, .inr (0, [.ref a_told_items, .int v_told_count])), (a_told_items, .inl (k_told_items, 260, .inl f_told_items))] s.heap.size = A at hD hZ ⊢
  have hA : ∀ q : Nat, s.heap.size ≤ q → A q := fun q h => by rw [← hAe]; exact Or.inr h
  have hS : va_S A s.heap s.heap [] := va_S.rf
  have hl := lv_entry ([.ref a_this, .int x1]) (n := 2) (Nat.le_of_ble_eq_true rfl)
  rw [lg_entry_eq]
  generalize (lg_sl ([.ref a_this, .int x1]) ++ List.replicate (2 - (lg_sl ([.ref a_this, .int x1])).length) Slot.unset).toArray = ls at hl ⊢
  have hl : lv_has ls 2 [(0, .ref a_this), (1, .int x1)] := hl
  unfold w_Re_isTold at hw
  refine lv_aload_n hx hb d_Re_isTold_0 rfl (lv_at hl 0 rfl) ?_
  refine va_get (D := D) (ci := 2) (v := .int v_shifted) (C := R_Re) (T := T_Re) (N := 5) hx hb hts in_Re hown hK hP 0 rfl rfl 4 (by decide) (hts _ mm_109) (fun _ h9 => h9) rfl d_Re_isTold_1 ?_
  refine lv_if_eq (tgt := 45) hx hb d_Re_isTold_4 (by decide) (fun c1 => ?_) (fun c1 => ?_)
  · have hw := hw.1 c1
    refine lv_iload_n hx hb d_Re_isTold_45 rfl (lv_at hl 1 rfl) ?_
    refine lv_bipush (v := 102) hx hb d_Re_isTold_46 (by decide) ?_
    refine lv_icmp_ne (tgt := 62) hx hb d_Re_isTold_48 (by decide) (fun c2 => ?_) (fun c2 => ?_)
    · have hw := hw.1 c2
      refine lv_aload_n hx hb d_Re_isTold_62 rfl (lv_at hl 0 rfl) ?_
      refine va_get (D := D) (ci := 2) (v := .int v_set) (C := R_Re) (T := T_Re) (N := 5) hx hb hts in_Re hown hK hP 0 rfl rfl 3 (by decide) (hts _ mm_108) (fun _ h9 => h9) rfl d_Re_isTold_63 ?_
      refine lv_iconst (v := 2) hx hb d_Re_isTold_66 (by decide) ?_
      refine lv_icmp_ne (tgt := 116) hx hb d_Re_isTold_67 (by decide) (fun c3 => ?_) (fun c3 => ?_)
      · have hw := hw.1 c3
        refine lv_iload_n hx hb d_Re_isTold_116 rfl (lv_at hl 1 rfl) ?_
        refine lv_bipush (v := 95) hx hb d_Re_isTold_117 (by decide) ?_
        refine lv_icmp_gt (tgt := 138) hx hb d_Re_isTold_119 (by decide) (fun c4 => ?_) (fun c4 => ?_)
        · have hw := hw.1 c4
          refine lv_iload_n hx hb d_Re_isTold_138 rfl (lv_at hl 1 rfl) ?_
          refine lv_bipush (v := 98) hx hb d_Re_isTold_139 (by decide) ?_
          refine lv_icmp_ne (tgt := 151) hx hb d_Re_isTold_141 (by decide) (fun c5 => ?_) (fun c5 => ?_)
          · have hw := hw.1 c5
            refine lv_aload_n hx hb d_Re_isTold_151 rfl (lv_at hl 0 rfl) ?_
            refine lv_iload_n hx hb d_Re_isTold_152 rfl (lv_at hl 1 rfl) ?_
            refine k_rwVi (As := [.int x1]) (rest := []) (wr := []) hz [0, 1, 2, 3, 4] [] [0, 1] 0 2 ⟨hx, hb, hml, hown, hts⟩ (met_Re_isSwitched l D Z hz ad hk a_this a_strip a_strip_items a_told a_told_items k_strip_items k_told_items v_fromBack v_set v_shifted v_strip_count f_strip_items v_told_count f_told_items x1 _ hw) (cwV 1 hts (g_V mm_340 mm_342 mm_20 mm_45 mm_343) rfl rfl rfl hd_Re_isSwitched ⟨Nat.le_of_ble_eq_true rfl, Nat.le_of_ble_eq_true rfl⟩) hP hD hK hZ hS hA rfl rfl rfl rfl rfl (by decide) rfl rfl rfl rfl hl.1 rfl (Nat.le_of_ble_eq_true rfl) d_Re_isTold_153 ⟨Nat.le_of_ble_eq_true rfl, Nat.le_of_ble_eq_true rfl⟩ (fun r6 s7 H locs hw hP hD hS => ?_)
            try dsimp only at hw
            have hP : va_P D vwCl [(a_this, .inr (2, [.ref a_strip, .ref a_told, .int v_fromBack, .int s7, .int v_shifted])), (a_strip, .inr (0, [.ref a_strip_items, .int v_strip_count])), (a_strip_items, .inl (k_strip_items, 800, .inl f_strip_items)), (a_told, .inr (0, [.ref a_told_items, .int v_told_count])), (a_told_items, .inl (k_told_items, 260, .inl f_told_items))] H := hP
            have hD : va_D A [(a_this, .inr (2, [.ref a_strip, .ref a_told, .int v_fromBack, .int s7, .int v_shifted])), (a_strip, .inr (0, [.ref a_strip_items, .int v_strip_count])), (a_strip_items, .inl (k_strip_items, 800, .inl f_strip_items)), (a_told, .inr (0, [.ref a_told_items, .int v_told_count])), (a_told_items, .inl (k_told_items, 260, .inl f_told_items))] := hD
            have hz9 := hw.1
            have hw := hw.2
            have hP9 := hP.sub (ws' := [(a_this, .inr (2, [.ref a_strip, .ref a_told, .int v_fromBack, .int s7, .int v_shifted])), (a_strip, .inr (0, [.ref a_strip_items, .int v_strip_count])), (a_strip_items, .inl (k_strip_items, 800, .inl f_strip_items)), (a_told, .inr (0, [.ref a_told_items, .int v_told_count])), (a_told_items, .inl (k_told_items, 260, .inl f_told_items))]) [0, 1, 2, 3, 4] rfl
            have hD9 := hD.sub (ws' := [(a_this, .inr (2, [.ref a_strip, .ref a_told, .int v_fromBack, .int s7, .int v_shifted])), (a_strip, .inr (0, [.ref a_strip_items, .int v_strip_count])), (a_strip_items, .inl (k_strip_items, 800, .inl f_strip_items)), (a_told, .inr (0, [.ref a_told_items, .int v_told_count])), (a_told_items, .inl (k_told_items, 260, .inl f_told_items))]) [0, 1, 2, 3, 4] (by decide) rfl
            exact W.zret (v := r6) (ty := .boolean) hx hb hr (vz_n hz9) (fun t ht hW => ⟨⟨r6, (s7, v_shifted, v_told_count, f_told_items), rfl, hw, by rw [ht]; exact hP9, va_K.moved hW.alike hK, hD9⟩, hS.F ht⟩) hS.2.2 d_Re_isTold_156
          · have hw := hw.2 c5
            refine lv_aload_n hx hb d_Re_isTold_144 rfl (lv_at hl 0 rfl) ?_
            refine lv_iconst (v := 1) hx hb d_Re_isTold_145 (by decide) ?_
            refine va_put (D := D) (ci := 2) (v := .int 1) (ty := .boolean) (C := R_Re) (T := T_Re) (N := 5) hx hb hts in_Re ty_Re tk_Re nn_Re hown hK hP hD hS 0 rfl rfl 4 (by decide) (hts _ mm_109) (fun _ h9 => h9) rfl (by decide +kernel) rfl rfl (Nat.le_of_ble_eq_true rfl) d_Re_isTold_146 (fun H locs hP hD hS => ?_)
            have hP : va_P D vwCl [(a_this, .inr (2, [.ref a_strip, .ref a_told, .int v_fromBack, .int v_set, .int 1])), (a_strip, .inr (0, [.ref a_strip_items, .int v_strip_count])), (a_strip_items, .inl (k_strip_items, 800, .inl f_strip_items)), (a_told, .inr (0, [.ref a_told_items, .int v_told_count])), (a_told_items, .inl (k_told_items, 260, .inl f_told_items))] H := hP
            have hD : va_D A [(a_this, .inr (2, [.ref a_strip, .ref a_told, .int v_fromBack, .int v_set, .int 1])), (a_strip, .inr (0, [.ref a_strip_items, .int v_strip_count])), (a_strip_items, .inl (k_strip_items, 800, .inl f_strip_items)), (a_told, .inr (0, [.ref a_told_items, .int v_told_count])), (a_told_items, .inl (k_told_items, 260, .inl f_told_items))] := hD
            refine lv_iconst (v := 1) hx hb d_Re_isTold_149 (by decide) ?_
            have hP9 := hP.sub (ws' := [(a_this, .inr (2, [.ref a_strip, .ref a_told, .int v_fromBack, .int v_set, .int 1])), (a_strip, .inr (0, [.ref a_strip_items, .int v_strip_count])), (a_strip_items, .inl (k_strip_items, 800, .inl f_strip_items)), (a_told, .inr (0, [.ref a_told_items, .int v_told_count])), (a_told_items, .inl (k_told_items, 260, .inl f_told_items))]) [0, 1, 2, 3, 4] rfl
            have hD9 := hD.sub (ws' := [(a_this, .inr (2, [.ref a_strip, .ref a_told, .int v_fromBack, .int v_set, .int 1])), (a_strip, .inr (0, [.ref a_strip_items, .int v_strip_count])), (a_strip_items, .inl (k_strip_items, 800, .inl f_strip_items)), (a_told, .inr (0, [.ref a_told_items, .int v_told_count])), (a_told_items, .inl (k_told_items, 260, .inl f_told_items))]) [0, 1, 2, 3, 4] (by decide) rfl
            exact W.zret (v := 1) (ty := .boolean) hx hb hr rfl (fun t ht hW => ⟨⟨1, (v_set, 1, v_told_count, f_told_items), rfl, hw, by rw [ht]; exact hP9, va_K.moved hW.alike hK, hD9⟩, hS.F ht⟩) hS.2.2 d_Re_isTold_150
        · have hw := hw.2 c4
          refine lv_aload_n hx hb d_Re_isTold_122 rfl (lv_at hl 0 rfl) ?_
          refine va_get (D := D) (ci := 2) (v := .ref a_told) (C := R_Re) (T := T_Re) (N := 5) hx hb hts in_Re hown hK hP 0 rfl rfl 1 (by decide) (hts _ mm_106) (fun _ h9 => h9) rfl d_Re_isTold_123 ?_
          refine lv_aload_n hx hb d_Re_isTold_126 rfl (lv_at hl 0 rfl) ?_
          refine va_get (D := D) (ci := 2) (v := .int v_set) (C := R_Re) (T := T_Re) (N := 5) hx hb hts in_Re hown hK hP 0 rfl rfl 3 (by decide) (hts _ mm_108) (fun _ h9 => h9) rfl d_Re_isTold_127 ?_
          refine lv_iload_n hx hb d_Re_isTold_130 rfl (lv_at hl 1 rfl) ?_
          refine k_roSi (As := [.int v_set, .int x1]) (rest := [.ref a_told]) hz [] [] ⟨hx, hb, hml, hown, hts⟩ (met_Se_signOf l D Z hz ad hk v_set x1 hw) (va_cwS 2 hts (g_S mm_337 mm_338 mm_51 mm_339) rfl rfl rfl hd_Se_signOf.2 ⟨Nat.le_of_ble_eq_true rfl, Nat.le_of_ble_eq_true rfl⟩) hP hK hZ hS rfl rfl rfl hl.1 rfl (Nat.le_of_ble_eq_true rfl) d_Re_isTold_131 ⟨Nat.le_of_ble_eq_true rfl, Nat.le_of_ble_eq_true rfl⟩ (fun r8 hw => ?_)
          refine k_rwVi (As := [.int r8]) (rest := []) (wr := [(a_this, .inr (2, [.ref a_strip, .ref a_told, .int v_fromBack, .int v_set, .int v_shifted])), (a_strip, .inr (0, [.ref a_strip_items, .int v_strip_count])), (a_strip_items, .inl (k_strip_items, 800, .inl f_strip_items))]) hz [3, 4] [0, 1, 2] [1] 3 0 ⟨hx, hb, hml, hown, hts⟩ (met_It_add l D Z hz ad hk a_told a_told_items k_told_items 260 v_told_count f_told_items r8 _ hw) (cwV 1 hts (g_V mm_282 mm_203 mm_204 mm_42 mm_205) rfl rfl rfl hd_It_add ⟨Nat.le_of_ble_eq_true rfl, Nat.le_of_ble_eq_true rfl⟩) hP hD hK hZ hS hA rfl rfl rfl rfl rfl (by decide) rfl rfl rfl rfl hl.1 rfl (Nat.le_of_ble_eq_true rfl) d_Re_isTold_134 ⟨Nat.le_of_ble_eq_true rfl, Nat.le_of_ble_eq_true rfl⟩ (fun r9 u9 H locs hw hP hD hS => ?_)
          obtain ⟨s10, s11⟩ := u9
          try dsimp only at hw
          have hP : va_P D vwCl [(a_this, .inr (2, [.ref a_strip, .ref a_told, .int v_fromBack, .int v_set, .int v_shifted])), (a_strip, .inr (0, [.ref a_strip_items, .int v_strip_count])), (a_strip_items, .inl (k_strip_items, 800, .inl f_strip_items)), (a_told, .inr (0, [.ref a_told_items, .int s10])), (a_told_items, .inl (k_told_items, 260, .inl s11))] H := hP
          have hD : va_D A [(a_this, .inr (2, [.ref a_strip, .ref a_told, .int v_fromBack, .int v_set, .int v_shifted])), (a_strip, .inr (0, [.ref a_strip_items, .int v_strip_count])), (a_strip_items, .inl (k_strip_items, 800, .inl f_strip_items)), (a_told, .inr (0, [.ref a_told_items, .int s10])), (a_told_items, .inl (k_told_items, 260, .inl s11))] := hD
          have hz9 := hw.1
          have hw := hw.2
          have hP9 := hP.sub (ws' := [(a_this, .inr (2, [.ref a_strip, .ref a_told, .int v_fromBack, .int v_set, .int v_shifted])), (a_strip, .inr (0, [.ref a_strip_items, .int v_strip_count])), (a_strip_items, .inl (k_strip_items, 800, .inl f_strip_items)), (a_told, .inr (0, [.ref a_told_items, .int s10])), (a_told_items, .inl (k_told_items, 260, .inl s11))]) [0, 1, 2, 3, 4] rfl
          have hD9 := hD.sub (ws' := [(a_this, .inr (2, [.ref a_strip, .ref a_told, .int v_fromBack, .int v_set, .int v_shifted])), (a_strip, .inr (0, [.ref a_strip_items, .int v_strip_count])), (a_strip_items, .inl (k_strip_items, 800, .inl f_strip_items)), (a_told, .inr (0, [.ref a_told_items, .int s10])), (a_told_items, .inl (k_told_items, 260, .inl s11))]) [0, 1, 2, 3, 4] (by decide) rfl
          exact W.zret (v := r9) (ty := .boolean) hx hb hr (vz_n hz9) (fun t ht hW => ⟨⟨r9, (v_set, v_shifted, s10, s11), rfl, hw, by rw [ht]; exact hP9, va_K.moved hW.alike hK, hD9⟩, hS.F ht⟩) hS.2.2 d_Re_isTold_137
      · have hw := hw.2 c3
        refine lv_iload_n hx hb d_Re_isTold_70 rfl (lv_at hl 1 rfl) ?_
        refine lv_bipush (v := 99) hx hb d_Re_isTold_71 (by decide) ?_
        refine lv_icmp_gt (tgt := 116) hx hb d_Re_isTold_73 (by decide) (fun c12 => ?_) (fun c12 => ?_)
        · have hw := hw.1 c12
          refine lv_iload_n hx hb d_Re_isTold_116 rfl (lv_at hl 1 rfl) ?_
          refine lv_bipush (v := 95) hx hb d_Re_isTold_117 (by decide) ?_
          refine lv_icmp_gt (tgt := 138) hx hb d_Re_isTold_119 (by decide) (fun c13 => ?_) (fun c13 => ?_)
          · have hw := hw.1 c13
            refine lv_iload_n hx hb d_Re_isTold_138 rfl (lv_at hl 1 rfl) ?_
            refine lv_bipush (v := 98) hx hb d_Re_isTold_139 (by decide) ?_
            refine lv_icmp_ne (tgt := 151) hx hb d_Re_isTold_141 (by decide) (fun c14 => ?_) (fun c14 => ?_)
            · have hw := hw.1 c14
              refine lv_aload_n hx hb d_Re_isTold_151 rfl (lv_at hl 0 rfl) ?_
              refine lv_iload_n hx hb d_Re_isTold_152 rfl (lv_at hl 1 rfl) ?_
              refine k_rwVi (As := [.int x1]) (rest := []) (wr := []) hz [0, 1, 2, 3, 4] [] [0, 1] 0 2 ⟨hx, hb, hml, hown, hts⟩ (met_Re_isSwitched l D Z hz ad hk a_this a_strip a_strip_items a_told a_told_items k_strip_items k_told_items v_fromBack v_set v_shifted v_strip_count f_strip_items v_told_count f_told_items x1 _ hw) (cwV 1 hts (g_V mm_340 mm_342 mm_20 mm_45 mm_343) rfl rfl rfl hd_Re_isSwitched ⟨Nat.le_of_ble_eq_true rfl, Nat.le_of_ble_eq_true rfl⟩) hP hD hK hZ hS hA rfl rfl rfl rfl rfl (by decide) rfl rfl rfl rfl hl.1 rfl (Nat.le_of_ble_eq_true rfl) d_Re_isTold_153 ⟨Nat.le_of_ble_eq_true rfl, Nat.le_of_ble_eq_true rfl⟩ (fun r15 s16 H locs hw hP hD hS => ?_)
              try dsimp only at hw
              have hP : va_P D vwCl [(a_this, .inr (2, [.ref a_strip, .ref a_told, .int v_fromBack, .int s16, .int v_shifted])), (a_strip, .inr (0, [.ref a_strip_items, .int v_strip_count])), (a_strip_items, .inl (k_strip_items, 800, .inl f_strip_items)), (a_told, .inr (0, [.ref a_told_items, .int v_told_count])), (a_told_items, .inl (k_told_items, 260, .inl f_told_items))] H := hP
              have hD : va_D A [(a_this, .inr (2, [.ref a_strip, .ref a_told, .int v_fromBack, .int s16, .int v_shifted])), (a_strip, .inr (0, [.ref a_strip_items, .int v_strip_count])), (a_strip_items, .inl (k_strip_items, 800, .inl f_strip_items)), (a_told, .inr (0, [.ref a_told_items, .int v_told_count])), (a_told_items, .inl (k_told_items, 260, .inl f_told_items))] := hD
              have hz9 := hw.1
              have hw := hw.2
              have hP9 := hP.sub (ws' := [(a_this, .inr (2, [.ref a_strip, .ref a_told, .int v_fromBack, .int s16, .int v_shifted])), (a_strip, .inr (0, [.ref a_strip_items, .int v_strip_count])), (a_strip_items, .inl (k_strip_items, 800, .inl f_strip_items)), (a_told, .inr (0, [.ref a_told_items, .int v_told_count])), (a_told_items, .inl (k_told_items, 260, .inl f_told_items))]) [0, 1, 2, 3, 4] rfl
              have hD9 := hD.sub (ws' := [(a_this, .inr (2, [.ref a_strip, .ref a_told, .int v_fromBack, .int s16, .int v_shifted])), (a_strip, .inr (0, [.ref a_strip_items, .int v_strip_count])), (a_strip_items, .inl (k_strip_items, 800, .inl f_strip_items)), (a_told, .inr (0, [.ref a_told_items, .int v_told_count])), (a_told_items, .inl (k_told_items, 260, .inl f_told_items))]) [0, 1, 2, 3, 4] (by decide) rfl
              exact W.zret (v := r15) (ty := .boolean) hx hb hr (vz_n hz9) (fun t ht hW => ⟨⟨r15, (s16, v_shifted, v_told_count, f_told_items), rfl, hw, by rw [ht]; exact hP9, va_K.moved hW.alike hK, hD9⟩, hS.F ht⟩) hS.2.2 d_Re_isTold_156
            · have hw := hw.2 c14
              refine lv_aload_n hx hb d_Re_isTold_144 rfl (lv_at hl 0 rfl) ?_
              refine lv_iconst (v := 1) hx hb d_Re_isTold_145 (by decide) ?_
              refine va_put (D := D) (ci := 2) (v := .int 1) (ty := .boolean) (C := R_Re) (T := T_Re) (N := 5) hx hb hts in_Re ty_Re tk_Re nn_Re hown hK hP hD hS 0 rfl rfl 4 (by decide) (hts _ mm_109) (fun _ h9 => h9) rfl (by decide +kernel) rfl rfl (Nat.le_of_ble_eq_true rfl) d_Re_isTold_146 (fun H locs hP hD hS => ?_)
              have hP : va_P D vwCl [(a_this, .inr (2, [.ref a_strip, .ref a_told, .int v_fromBack, .int v_set, .int 1])), (a_strip, .inr (0, [.ref a_strip_items, .int v_strip_count])), (a_strip_items, .inl (k_strip_items, 800, .inl f_strip_items)), (a_told, .inr (0, [.ref a_told_items, .int v_told_count])), (a_told_items, .inl (k_told_items, 260, .inl f_told_items))] H := hP
              have hD : va_D A [(a_this, .inr (2, [.ref a_strip, .ref a_told, .int v_fromBack, .int v_set, .int 1])), (a_strip, .inr (0, [.ref a_strip_items, .int v_strip_count])), (a_strip_items, .inl (k_strip_items, 800, .inl f_strip_items)), (a_told, .inr (0, [.ref a_told_items, .int v_told_count])), (a_told_items, .inl (k_told_items, 260, .inl f_told_items))] := hD
              refine lv_iconst (v := 1) hx hb d_Re_isTold_149 (by decide) ?_
              have hP9 := hP.sub (ws' := [(a_this, .inr (2, [.ref a_strip, .ref a_told, .int v_fromBack, .int v_set, .int 1])), (a_strip, .inr (0, [.ref a_strip_items, .int v_strip_count])), (a_strip_items, .inl (k_strip_items, 800, .inl f_strip_items)), (a_told, .inr (0, [.ref a_told_items, .int v_told_count])), (a_told_items, .inl (k_told_items, 260, .inl f_told_items))]) [0, 1, 2, 3, 4] rfl
              have hD9 := hD.sub (ws' := [(a_this, .inr (2, [.ref a_strip, .ref a_told, .int v_fromBack, .int v_set, .int 1])), (a_strip, .inr (0, [.ref a_strip_items, .int v_strip_count])), (a_strip_items, .inl (k_strip_items, 800, .inl f_strip_items)), (a_told, .inr (0, [.ref a_told_items, .int v_told_count])), (a_told_items, .inl (k_told_items, 260, .inl f_told_items))]) [0, 1, 2, 3, 4] (by decide) rfl
              exact W.zret (v := 1) (ty := .boolean) hx hb hr rfl (fun t ht hW => ⟨⟨1, (v_set, 1, v_told_count, f_told_items), rfl, hw, by rw [ht]; exact hP9, va_K.moved hW.alike hK, hD9⟩, hS.F ht⟩) hS.2.2 d_Re_isTold_150
          · have hw := hw.2 c13
            refine lv_aload_n hx hb d_Re_isTold_122 rfl (lv_at hl 0 rfl) ?_
            refine va_get (D := D) (ci := 2) (v := .ref a_told) (C := R_Re) (T := T_Re) (N := 5) hx hb hts in_Re hown hK hP 0 rfl rfl 1 (by decide) (hts _ mm_106) (fun _ h9 => h9) rfl d_Re_isTold_123 ?_
            refine lv_aload_n hx hb d_Re_isTold_126 rfl (lv_at hl 0 rfl) ?_
            refine va_get (D := D) (ci := 2) (v := .int v_set) (C := R_Re) (T := T_Re) (N := 5) hx hb hts in_Re hown hK hP 0 rfl rfl 3 (by decide) (hts _ mm_108) (fun _ h9 => h9) rfl d_Re_isTold_127 ?_
            refine lv_iload_n hx hb d_Re_isTold_130 rfl (lv_at hl 1 rfl) ?_
            refine k_roSi (As := [.int v_set, .int x1]) (rest := [.ref a_told]) hz [] [] ⟨hx, hb, hml, hown, hts⟩ (met_Se_signOf l D Z hz ad hk v_set x1 hw) (va_cwS 2 hts (g_S mm_337 mm_338 mm_51 mm_339) rfl rfl rfl hd_Se_signOf.2 ⟨Nat.le_of_ble_eq_true rfl, Nat.le_of_ble_eq_true rfl⟩) hP hK hZ hS rfl rfl rfl hl.1 rfl (Nat.le_of_ble_eq_true rfl) d_Re_isTold_131 ⟨Nat.le_of_ble_eq_true rfl, Nat.le_of_ble_eq_true rfl⟩ (fun r17 hw => ?_)
            refine k_rwVi (As := [.int r17]) (rest := []) (wr := [(a_this, .inr (2, [.ref a_strip, .ref a_told, .int v_fromBack, .int v_set, .int v_shifted])), (a_strip, .inr (0, [.ref a_strip_items, .int v_strip_count])), (a_strip_items, .inl (k_strip_items, 800, .inl f_strip_items))]) hz [3, 4] [0, 1, 2] [1] 3 0 ⟨hx, hb, hml, hown, hts⟩ (met_It_add l D Z hz ad hk a_told a_told_items k_told_items 260 v_told_count f_told_items r17 _ hw) (cwV 1 hts (g_V mm_282 mm_203 mm_204 mm_42 mm_205) rfl rfl rfl hd_It_add ⟨Nat.le_of_ble_eq_true rfl, Nat.le_of_ble_eq_true rfl⟩) hP hD hK hZ hS hA rfl rfl rfl rfl rfl (by decide) rfl rfl rfl rfl hl.1 rfl (Nat.le_of_ble_eq_true rfl) d_Re_isTold_134 ⟨Nat.le_of_ble_eq_true rfl, Nat.le_of_ble_eq_true rfl⟩ (fun r18 u9 H locs hw hP hD hS => ?_)
            obtain ⟨s19, s20⟩ := u9
            try dsimp only at hw
            have hP : va_P D vwCl [(a_this, .inr (2, [.ref a_strip, .ref a_told, .int v_fromBack, .int v_set, .int v_shifted])), (a_strip, .inr (0, [.ref a_strip_items, .int v_strip_count])), (a_strip_items, .inl (k_strip_items, 800, .inl f_strip_items)), (a_told, .inr (0, [.ref a_told_items, .int s19])), (a_told_items, .inl (k_told_items, 260, .inl s20))] H := hP
            have hD : va_D A [(a_this, .inr (2, [.ref a_strip, .ref a_told, .int v_fromBack, .int v_set, .int v_shifted])), (a_strip, .inr (0, [.ref a_strip_items, .int v_strip_count])), (a_strip_items, .inl (k_strip_items, 800, .inl f_strip_items)), (a_told, .inr (0, [.ref a_told_items, .int s19])), (a_told_items, .inl (k_told_items, 260, .inl s20))] := hD
            have hz9 := hw.1
            have hw := hw.2
            have hP9 := hP.sub (ws' := [(a_this, .inr (2, [.ref a_strip, .ref a_told, .int v_fromBack, .int v_set, .int v_shifted])), (a_strip, .inr (0, [.ref a_strip_items, .int v_strip_count])), (a_strip_items, .inl (k_strip_items, 800, .inl f_strip_items)), (a_told, .inr (0, [.ref a_told_items, .int s19])), (a_told_items, .inl (k_told_items, 260, .inl s20))]) [0, 1, 2, 3, 4] rfl
            have hD9 := hD.sub (ws' := [(a_this, .inr (2, [.ref a_strip, .ref a_told, .int v_fromBack, .int v_set, .int v_shifted])), (a_strip, .inr (0, [.ref a_strip_items, .int v_strip_count])), (a_strip_items, .inl (k_strip_items, 800, .inl f_strip_items)), (a_told, .inr (0, [.ref a_told_items, .int s19])), (a_told_items, .inl (k_told_items, 260, .inl s20))]) [0, 1, 2, 3, 4] (by decide) rfl
            exact W.zret (v := r18) (ty := .boolean) hx hb hr (vz_n hz9) (fun t ht hW => ⟨⟨r18, (v_set, v_shifted, s19, s20), rfl, hw, by rw [ht]; exact hP9, va_K.moved hW.alike hK, hD9⟩, hS.F ht⟩) hS.2.2 d_Re_isTold_137
        · have hw := hw.2 c12
          refine lv_aload_n hx hb d_Re_isTold_76 rfl (lv_at hl 0 rfl) ?_
          refine va_get (D := D) (ci := 2) (v := .ref a_told) (C := R_Re) (T := T_Re) (N := 5) hx hb hts in_Re hown hK hP 0 rfl rfl 1 (by decide) (hts _ mm_106) (fun _ h9 => h9) rfl d_Re_isTold_77 ?_
          refine lv_bipush (v := 48) hx hb d_Re_isTold_80 (by decide) ?_
          refine lv_iload_n hx hb d_Re_isTold_82 rfl (lv_at hl 1 rfl) ?_
          refine lv_bipush (v := 10) hx hb d_Re_isTold_83 (by decide) ?_
          refine lv_idiv hx hb d_Re_isTold_85 (by decide) ?_
          refine lv_iadd hx hb d_Re_isTold_86 ?_
          refine k_rwVi (As := [.int (48 + (x1 / 10))]) (rest := []) (wr := [(a_this, .inr (2, [.ref a_strip, .ref a_told, .int v_fromBack, .int v_set, .int v_shifted])), (a_strip, .inr (0, [.ref a_strip_items, .int v_strip_count])), (a_strip_items, .inl (k_strip_items, 800, .inl f_strip_items))]) hz [3, 4] [0, 1, 2] [1] 3 0 ⟨hx, hb, hml, hown, hts⟩ (met_It_add l D Z hz ad hk a_told a_told_items k_told_items 260 v_told_count f_told_items (48 + (x1 / 10)) _ hw) (cwV 1 hts (g_V mm_282 mm_203 mm_204 mm_42 mm_205) rfl rfl rfl hd_It_add ⟨Nat.le_of_ble_eq_true rfl, Nat.le_of_ble_eq_true rfl⟩) hP hD hK hZ hS hA rfl rfl rfl rfl rfl (by decide) rfl rfl rfl rfl hl.1 rfl (Nat.le_of_ble_eq_true rfl) d_Re_isTold_87 ⟨Nat.le_of_ble_eq_true rfl, Nat.le_of_ble_eq_true rfl⟩ (fun r21 u9 H locs hw hP hD hS => ?_)
          obtain ⟨s22, s23⟩ := u9
          try dsimp only at hw
          have hP : va_P D vwCl [(a_this, .inr (2, [.ref a_strip, .ref a_told, .int v_fromBack, .int v_set, .int v_shifted])), (a_strip, .inr (0, [.ref a_strip_items, .int v_strip_count])), (a_strip_items, .inl (k_strip_items, 800, .inl f_strip_items)), (a_told, .inr (0, [.ref a_told_items, .int s22])), (a_told_items, .inl (k_told_items, 260, .inl s23))] H := hP
          have hD : va_D A [(a_this, .inr (2, [.ref a_strip, .ref a_told, .int v_fromBack, .int v_set, .int v_shifted])), (a_strip, .inr (0, [.ref a_strip_items, .int v_strip_count])), (a_strip_items, .inl (k_strip_items, 800, .inl f_strip_items)), (a_told, .inr (0, [.ref a_told_items, .int s22])), (a_told_items, .inl (k_told_items, 260, .inl s23))] := hD
          refine lv_if_eq (tgt := 114) hx hb d_Re_isTold_90 (by decide) (fun c24 => ?_) (fun c24 => ?_)
          · have hw := hw.1 c24
            refine lv_iconst (v := 0) hx hb d_Re_isTold_114 (by decide) ?_
            have hP9 := hP.sub (ws' := [(a_this, .inr (2, [.ref a_strip, .ref a_told, .int v_fromBack, .int v_set, .int v_shifted])), (a_strip, .inr (0, [.ref a_strip_items, .int v_strip_count])), (a_strip_items, .inl (k_strip_items, 800, .inl f_strip_items)), (a_told, .inr (0, [.ref a_told_items, .int s22])), (a_told_items, .inl (k_told_items, 260, .inl s23))]) [0, 1, 2, 3, 4] rfl
            have hD9 := hD.sub (ws' := [(a_this, .inr (2, [.ref a_strip, .ref a_told, .int v_fromBack, .int v_set, .int v_shifted])), (a_strip, .inr (0, [.ref a_strip_items, .int v_strip_count])), (a_strip_items, .inl (k_strip_items, 800, .inl f_strip_items)), (a_told, .inr (0, [.ref a_told_items, .int s22])), (a_told_items, .inl (k_told_items, 260, .inl s23))]) [0, 1, 2, 3, 4] (by decide) rfl
            exact W.zret (v := 0) (ty := .boolean) hx hb hr rfl (fun t ht hW => ⟨⟨0, (v_set, v_shifted, s22, s23), rfl, hw, by rw [ht]; exact hP9, va_K.moved hW.alike hK, hD9⟩, hS.F ht⟩) hS.2.2 d_Re_isTold_115
          · have hw := hw.2 c24
            refine lv_aload_n hx hb d_Re_isTold_93 rfl (lv_at hl 0 rfl) ?_
            refine va_get (D := D) (ci := 2) (v := .ref a_told) (C := R_Re) (T := T_Re) (N := 5) hx hb hts in_Re hown hK hP 0 rfl rfl 1 (by decide) (hts _ mm_106) (fun _ h9 => h9) rfl d_Re_isTold_94 ?_
            refine lv_bipush (v := 48) hx hb d_Re_isTold_97 (by decide) ?_
            refine lv_iload_n hx hb d_Re_isTold_99 rfl (lv_at hl 1 rfl) ?_
            refine lv_bipush (v := 10) hx hb d_Re_isTold_100 (by decide) ?_
            refine lv_irem hx hb d_Re_isTold_102 (by decide) ?_
            refine lv_iadd hx hb d_Re_isTold_103 ?_
            refine k_rwVi (As := [.int (48 + (x1 - x1 / 10 * 10))]) (rest := []) (wr := [(a_this, .inr (2, [.ref a_strip, .ref a_told, .int v_fromBack, .int v_set, .int v_shifted])), (a_strip, .inr (0, [.ref a_strip_items, .int v_strip_count])), (a_strip_items, .inl (k_strip_items, 800, .inl f_strip_items))]) hz [3, 4] [0, 1, 2] [1] 3 0 ⟨hx, hb, hml, hown, hts⟩ (met_It_add l D Z hz ad hk a_told a_told_items k_told_items 260 s22 s23 (48 + (x1 - x1 / 10 * 10)) _ hw) (cwV 1 hts (g_V mm_282 mm_203 mm_204 mm_42 mm_205) rfl rfl rfl hd_It_add ⟨Nat.le_of_ble_eq_true rfl, Nat.le_of_ble_eq_true rfl⟩) hP hD hK hZ hS hA rfl rfl rfl rfl rfl (by decide) rfl rfl rfl rfl hl.1 rfl (Nat.le_of_ble_eq_true rfl) d_Re_isTold_104 ⟨Nat.le_of_ble_eq_true rfl, Nat.le_of_ble_eq_true rfl⟩ (fun r25 u9 H locs hw hP hD hS => ?_)
            obtain ⟨s26, s27⟩ := u9
            try dsimp only at hw
            have hP : va_P D vwCl [(a_this, .inr (2, [.ref a_strip, .ref a_told, .int v_fromBack, .int v_set, .int v_shifted])), (a_strip, .inr (0, [.ref a_strip_items, .int v_strip_count])), (a_strip_items, .inl (k_strip_items, 800, .inl f_strip_items)), (a_told, .inr (0, [.ref a_told_items, .int s26])), (a_told_items, .inl (k_told_items, 260, .inl s27))] H := hP
            have hD : va_D A [(a_this, .inr (2, [.ref a_strip, .ref a_told, .int v_fromBack, .int v_set, .int v_shifted])), (a_strip, .inr (0, [.ref a_strip_items, .int v_strip_count])), (a_strip_items, .inl (k_strip_items, 800, .inl f_strip_items)), (a_told, .inr (0, [.ref a_told_items, .int s26])), (a_told_items, .inl (k_told_items, 260, .inl s27))] := hD
            refine lv_if_eq (tgt := 114) hx hb d_Re_isTold_107 (by decide) (fun c28 => ?_) (fun c28 => ?_)
            · have hw := hw.1 c28
              refine lv_iconst (v := 0) hx hb d_Re_isTold_114 (by decide) ?_
              have hP9 := hP.sub (ws' := [(a_this, .inr (2, [.ref a_strip, .ref a_told, .int v_fromBack, .int v_set, .int v_shifted])), (a_strip, .inr (0, [.ref a_strip_items, .int v_strip_count])), (a_strip_items, .inl (k_strip_items, 800, .inl f_strip_items)), (a_told, .inr (0, [.ref a_told_items, .int s26])), (a_told_items, .inl (k_told_items, 260, .inl s27))]) [0, 1, 2, 3, 4] rfl
              have hD9 := hD.sub (ws' := [(a_this, .inr (2, [.ref a_strip, .ref a_told, .int v_fromBack, .int v_set, .int v_shifted])), (a_strip, .inr (0, [.ref a_strip_items, .int v_strip_count])), (a_strip_items, .inl (k_strip_items, 800, .inl f_strip_items)), (a_told, .inr (0, [.ref a_told_items, .int s26])), (a_told_items, .inl (k_told_items, 260, .inl s27))]) [0, 1, 2, 3, 4] (by decide) rfl
              exact W.zret (v := 0) (ty := .boolean) hx hb hr rfl (fun t ht hW => ⟨⟨0, (v_set, v_shifted, s26, s27), rfl, hw, by rw [ht]; exact hP9, va_K.moved hW.alike hK, hD9⟩, hS.F ht⟩) hS.2.2 d_Re_isTold_115
            · have hw := hw.2 c28
              refine lv_iconst (v := 1) hx hb d_Re_isTold_110 (by decide) ?_
              refine lv_goto (tgt := 115) hx hb d_Re_isTold_111 (by decide) ?_
              have hP9 := hP.sub (ws' := [(a_this, .inr (2, [.ref a_strip, .ref a_told, .int v_fromBack, .int v_set, .int v_shifted])), (a_strip, .inr (0, [.ref a_strip_items, .int v_strip_count])), (a_strip_items, .inl (k_strip_items, 800, .inl f_strip_items)), (a_told, .inr (0, [.ref a_told_items, .int s26])), (a_told_items, .inl (k_told_items, 260, .inl s27))]) [0, 1, 2, 3, 4] rfl
              have hD9 := hD.sub (ws' := [(a_this, .inr (2, [.ref a_strip, .ref a_told, .int v_fromBack, .int v_set, .int v_shifted])), (a_strip, .inr (0, [.ref a_strip_items, .int v_strip_count])), (a_strip_items, .inl (k_strip_items, 800, .inl f_strip_items)), (a_told, .inr (0, [.ref a_told_items, .int s26])), (a_told_items, .inl (k_told_items, 260, .inl s27))]) [0, 1, 2, 3, 4] (by decide) rfl
              exact W.zret (v := 1) (ty := .boolean) hx hb hr rfl (fun t ht hW => ⟨⟨1, (v_set, v_shifted, s26, s27), rfl, hw, by rw [ht]; exact hP9, va_K.moved hW.alike hK, hD9⟩, hS.F ht⟩) hS.2.2 d_Re_isTold_115
    · have hw := hw.2 c2
      refine lv_aload_n hx hb d_Re_isTold_51 rfl (lv_at hl 0 rfl) ?_
      refine va_get (D := D) (ci := 2) (v := .ref a_told) (C := R_Re) (T := T_Re) (N := 5) hx hb hts in_Re hown hK hP 0 rfl rfl 1 (by decide) (hts _ mm_106) (fun _ h9 => h9) rfl d_Re_isTold_52 ?_
      refine lv_sipush (v := 128) hx hb d_Re_isTold_55 (by decide) ?_
      refine k_rwVi (As := [.int 128]) (rest := []) (wr := [(a_this, .inr (2, [.ref a_strip, .ref a_told, .int v_fromBack, .int v_set, .int v_shifted])), (a_strip, .inr (0, [.ref a_strip_items, .int v_strip_count])), (a_strip_items, .inl (k_strip_items, 800, .inl f_strip_items))]) hz [3, 4] [0, 1, 2] [1] 3 0 ⟨hx, hb, hml, hown, hts⟩ (met_It_add l D Z hz ad hk a_told a_told_items k_told_items 260 v_told_count f_told_items 128 _ hw) (cwV 1 hts (g_V mm_282 mm_203 mm_204 mm_42 mm_205) rfl rfl rfl hd_It_add ⟨Nat.le_of_ble_eq_true rfl, Nat.le_of_ble_eq_true rfl⟩) hP hD hK hZ hS hA rfl rfl rfl rfl rfl (by decide) rfl rfl rfl rfl hl.1 rfl (Nat.le_of_ble_eq_true rfl) d_Re_isTold_58 ⟨Nat.le_of_ble_eq_true rfl, Nat.le_of_ble_eq_true rfl⟩ (fun r29 u9 H locs hw hP hD hS => ?_)
      obtain ⟨s30, s31⟩ := u9
      try dsimp only at hw
      have hP : va_P D vwCl [(a_this, .inr (2, [.ref a_strip, .ref a_told, .int v_fromBack, .int v_set, .int v_shifted])), (a_strip, .inr (0, [.ref a_strip_items, .int v_strip_count])), (a_strip_items, .inl (k_strip_items, 800, .inl f_strip_items)), (a_told, .inr (0, [.ref a_told_items, .int s30])), (a_told_items, .inl (k_told_items, 260, .inl s31))] H := hP
      have hD : va_D A [(a_this, .inr (2, [.ref a_strip, .ref a_told, .int v_fromBack, .int v_set, .int v_shifted])), (a_strip, .inr (0, [.ref a_strip_items, .int v_strip_count])), (a_strip_items, .inl (k_strip_items, 800, .inl f_strip_items)), (a_told, .inr (0, [.ref a_told_items, .int s30])), (a_told_items, .inl (k_told_items, 260, .inl s31))] := hD
      have hz9 := hw.1
      have hw := hw.2
      have hP9 := hP.sub (ws' := [(a_this, .inr (2, [.ref a_strip, .ref a_told, .int v_fromBack, .int v_set, .int v_shifted])), (a_strip, .inr (0, [.ref a_strip_items, .int v_strip_count])), (a_strip_items, .inl (k_strip_items, 800, .inl f_strip_items)), (a_told, .inr (0, [.ref a_told_items, .int s30])), (a_told_items, .inl (k_told_items, 260, .inl s31))]) [0, 1, 2, 3, 4] rfl
      have hD9 := hD.sub (ws' := [(a_this, .inr (2, [.ref a_strip, .ref a_told, .int v_fromBack, .int v_set, .int v_shifted])), (a_strip, .inr (0, [.ref a_strip_items, .int v_strip_count])), (a_strip_items, .inl (k_strip_items, 800, .inl f_strip_items)), (a_told, .inr (0, [.ref a_told_items, .int s30])), (a_told_items, .inl (k_told_items, 260, .inl s31))]) [0, 1, 2, 3, 4] (by decide) rfl
      exact W.zret (v := r29) (ty := .boolean) hx hb hr (vz_n hz9) (fun t ht hW => ⟨⟨r29, (v_set, v_shifted, s30, s31), rfl, hw, by rw [ht]; exact hP9, va_K.moved hW.alike hK, hD9⟩, hS.F ht⟩) hS.2.2 d_Re_isTold_61
  · have hw := hw.2 c1
    refine lv_aload_n hx hb d_Re_isTold_7 rfl (lv_at hl 0 rfl) ?_
    refine lv_iconst (v := 0) hx hb d_Re_isTold_8 (by decide) ?_
    refine va_put (D := D) (ci := 2) (v := .int 0) (ty := .boolean) (C := R_Re) (T := T_Re) (N := 5) hx hb hts in_Re ty_Re tk_Re nn_Re hown hK hP hD hS 0 rfl rfl 4 (by decide) (hts _ mm_109) (fun _ h9 => h9) rfl (by decide +kernel) rfl rfl (Nat.le_of_ble_eq_true rfl) d_Re_isTold_9 (fun H locs hP hD hS => ?_)
    have hP : va_P D vwCl [(a_this, .inr (2, [.ref a_strip, .ref a_told, .int v_fromBack, .int v_set, .int 0])), (a_strip, .inr (0, [.ref a_strip_items, .int v_strip_count])), (a_strip_items, .inl (k_strip_items, 800, .inl f_strip_items)), (a_told, .inr (0, [.ref a_told_items, .int v_told_count])), (a_told_items, .inl (k_told_items, 260, .inl f_told_items))] H := hP
    have hD : va_D A [(a_this, .inr (2, [.ref a_strip, .ref a_told, .int v_fromBack, .int v_set, .int 0])), (a_strip, .inr (0, [.ref a_strip_items, .int v_strip_count])), (a_strip_items, .inl (k_strip_items, 800, .inl f_strip_items)), (a_told, .inr (0, [.ref a_told_items, .int v_told_count])), (a_told_items, .inl (k_told_items, 260, .inl f_told_items))] := hD
    refine lv_iload_n hx hb d_Re_isTold_12 rfl (lv_at hl 1 rfl) ?_
    refine lv_bipush (v := 95) hx hb d_Re_isTold_13 (by decide) ?_
    refine lv_icmp_gt (tgt := 43) hx hb d_Re_isTold_15 (by decide) (fun c32 => ?_) (fun c32 => ?_)
    · have hw := hw.1 c32
      refine lv_iconst (v := 0) hx hb d_Re_isTold_43 (by decide) ?_
      have hP9 := hP.sub (ws' := [(a_this, .inr (2, [.ref a_strip, .ref a_told, .int v_fromBack, .int v_set, .int 0])), (a_strip, .inr (0, [.ref a_strip_items, .int v_strip_count])), (a_strip_items, .inl (k_strip_items, 800, .inl f_strip_items)), (a_told, .inr (0, [.ref a_told_items, .int v_told_count])), (a_told_items, .inl (k_told_items, 260, .inl f_told_items))]) [0, 1, 2, 3, 4] rfl
      have hD9 := hD.sub (ws' := [(a_this, .inr (2, [.ref a_strip, .ref a_told, .int v_fromBack, .int v_set, .int 0])), (a_strip, .inr (0, [.ref a_strip_items, .int v_strip_count])), (a_strip_items, .inl (k_strip_items, 800, .inl f_strip_items)), (a_told, .inr (0, [.ref a_told_items, .int v_told_count])), (a_told_items, .inl (k_told_items, 260, .inl f_told_items))]) [0, 1, 2, 3, 4] (by decide) rfl
      exact W.zret (v := 0) (ty := .boolean) hx hb hr rfl (fun t ht hW => ⟨⟨0, (v_set, 0, v_told_count, f_told_items), rfl, hw, by rw [ht]; exact hP9, va_K.moved hW.alike hK, hD9⟩, hS.F ht⟩) hS.2.2 d_Re_isTold_44
    · have hw := hw.2 c32
      refine lv_aload_n hx hb d_Re_isTold_18 rfl (lv_at hl 0 rfl) ?_
      refine va_get (D := D) (ci := 2) (v := .ref a_told) (C := R_Re) (T := T_Re) (N := 5) hx hb hts in_Re hown hK hP 0 rfl rfl 1 (by decide) (hts _ mm_106) (fun _ h9 => h9) rfl d_Re_isTold_19 ?_
      refine lv_aload_n hx hb d_Re_isTold_22 rfl (lv_at hl 0 rfl) ?_
      refine va_get (D := D) (ci := 2) (v := .int v_set) (C := R_Re) (T := T_Re) (N := 5) hx hb hts in_Re hown hK hP 0 rfl rfl 3 (by decide) (hts _ mm_108) (fun _ h9 => h9) rfl d_Re_isTold_23 ?_
      refine k_roSi (As := [.int v_set]) (rest := [.ref a_told]) hz [] [] ⟨hx, hb, hml, hown, hts⟩ (met_Se_otherOfAB l D Z hz ad hk v_set hw) (va_cwS 1 hts (g_S mm_336 mm_215 mm_51 mm_216) rfl rfl rfl hd_Se_otherOfAB.2 ⟨Nat.le_of_ble_eq_true rfl, Nat.le_of_ble_eq_true rfl⟩) hP hK hZ hS rfl rfl rfl hl.1 rfl (Nat.le_of_ble_eq_true rfl) d_Re_isTold_26 ⟨Nat.le_of_ble_eq_true rfl, Nat.le_of_ble_eq_true rfl⟩ (fun r33 hw => ?_)
      refine lv_iload_n hx hb d_Re_isTold_29 rfl (lv_at hl 1 rfl) ?_
      refine k_roSi (As := [.int r33, .int x1]) (rest := [.ref a_told]) hz [] [] ⟨hx, hb, hml, hown, hts⟩ (met_Se_signOf l D Z hz ad hk r33 x1 hw) (va_cwS 2 hts (g_S mm_337 mm_338 mm_51 mm_339) rfl rfl rfl hd_Se_signOf.2 ⟨Nat.le_of_ble_eq_true rfl, Nat.le_of_ble_eq_true rfl⟩) hP hK hZ hS rfl rfl rfl hl.1 rfl (Nat.le_of_ble_eq_true rfl) d_Re_isTold_30 ⟨Nat.le_of_ble_eq_true rfl, Nat.le_of_ble_eq_true rfl⟩ (fun r34 hw => ?_)
      refine k_rwVi (As := [.int r34]) (rest := []) (wr := [(a_this, .inr (2, [.ref a_strip, .ref a_told, .int v_fromBack, .int v_set, .int 0])), (a_strip, .inr (0, [.ref a_strip_items, .int v_strip_count])), (a_strip_items, .inl (k_strip_items, 800, .inl f_strip_items))]) hz [3, 4] [0, 1, 2] [1] 3 0 ⟨hx, hb, hml, hown, hts⟩ (met_It_add l D Z hz ad hk a_told a_told_items k_told_items 260 v_told_count f_told_items r34 _ hw) (cwV 1 hts (g_V mm_282 mm_203 mm_204 mm_42 mm_205) rfl rfl rfl hd_It_add ⟨Nat.le_of_ble_eq_true rfl, Nat.le_of_ble_eq_true rfl⟩) hP hD hK hZ hS hA rfl rfl rfl rfl rfl (by decide) rfl rfl rfl rfl hl.1 rfl (Nat.le_of_ble_eq_true rfl) d_Re_isTold_33 ⟨Nat.le_of_ble_eq_true rfl, Nat.le_of_ble_eq_true rfl⟩ (fun r35 u9 H locs hw hP hD hS => ?_)
      obtain ⟨s36, s37⟩ := u9
      try dsimp only at hw
      have hP : va_P D vwCl [(a_this, .inr (2, [.ref a_strip, .ref a_told, .int v_fromBack, .int v_set, .int 0])), (a_strip, .inr (0, [.ref a_strip_items, .int v_strip_count])), (a_strip_items, .inl (k_strip_items, 800, .inl f_strip_items)), (a_told, .inr (0, [.ref a_told_items, .int s36])), (a_told_items, .inl (k_told_items, 260, .inl s37))] H := hP
      have hD : va_D A [(a_this, .inr (2, [.ref a_strip, .ref a_told, .int v_fromBack, .int v_set, .int 0])), (a_strip, .inr (0, [.ref a_strip_items, .int v_strip_count])), (a_strip_items, .inl (k_strip_items, 800, .inl f_strip_items)), (a_told, .inr (0, [.ref a_told_items, .int s36])), (a_told_items, .inl (k_told_items, 260, .inl s37))] := hD
      refine lv_if_eq (tgt := 43) hx hb d_Re_isTold_36 (by decide) (fun c38 => ?_) (fun c38 => ?_)
      · have hw := hw.1 c38
        refine lv_iconst (v := 0) hx hb d_Re_isTold_43 (by decide) ?_
        have hP9 := hP.sub (ws' := [(a_this, .inr (2, [.ref a_strip, .ref a_told, .int v_fromBack, .int v_set, .int 0])), (a_strip, .inr (0, [.ref a_strip_items, .int v_strip_count])), (a_strip_items, .inl (k_strip_items, 800, .inl f_strip_items)), (a_told, .inr (0, [.ref a_told_items, .int s36])), (a_told_items, .inl (k_told_items, 260, .inl s37))]) [0, 1, 2, 3, 4] rfl
        have hD9 := hD.sub (ws' := [(a_this, .inr (2, [.ref a_strip, .ref a_told, .int v_fromBack, .int v_set, .int 0])), (a_strip, .inr (0, [.ref a_strip_items, .int v_strip_count])), (a_strip_items, .inl (k_strip_items, 800, .inl f_strip_items)), (a_told, .inr (0, [.ref a_told_items, .int s36])), (a_told_items, .inl (k_told_items, 260, .inl s37))]) [0, 1, 2, 3, 4] (by decide) rfl
        exact W.zret (v := 0) (ty := .boolean) hx hb hr rfl (fun t ht hW => ⟨⟨0, (v_set, 0, s36, s37), rfl, hw, by rw [ht]; exact hP9, va_K.moved hW.alike hK, hD9⟩, hS.F ht⟩) hS.2.2 d_Re_isTold_44
      · have hw := hw.2 c38
        refine lv_iconst (v := 1) hx hb d_Re_isTold_39 (by decide) ?_
        refine lv_goto (tgt := 44) hx hb d_Re_isTold_40 (by decide) ?_
        have hP9 := hP.sub (ws' := [(a_this, .inr (2, [.ref a_strip, .ref a_told, .int v_fromBack, .int v_set, .int 0])), (a_strip, .inr (0, [.ref a_strip_items, .int v_strip_count])), (a_strip_items, .inl (k_strip_items, 800, .inl f_strip_items)), (a_told, .inr (0, [.ref a_told_items, .int s36])), (a_told_items, .inl (k_told_items, 260, .inl s37))]) [0, 1, 2, 3, 4] rfl
        have hD9 := hD.sub (ws' := [(a_this, .inr (2, [.ref a_strip, .ref a_told, .int v_fromBack, .int v_set, .int 0])), (a_strip, .inr (0, [.ref a_strip_items, .int v_strip_count])), (a_strip_items, .inl (k_strip_items, 800, .inl f_strip_items)), (a_told, .inr (0, [.ref a_told_items, .int s36])), (a_told_items, .inl (k_told_items, 260, .inl s37))]) [0, 1, 2, 3, 4] (by decide) rfl
        exact W.zret (v := 1) (ty := .boolean) hx hb hr rfl (fun t ht hW => ⟨⟨1, (v_set, 0, s36, s37), rfl, hw, by rw [ht]; exact hP9, va_K.moved hW.alike hK, hD9⟩, hS.F ht⟩) hS.2.2 d_Re_isTold_44
-- LineCodes$Reader.isRow()Z
def w_Re_isRow_73 (post : Int32 → Int32 → Int32 → Int32 → (Nat → Int32) → Prop) (v_strip_count : Int32) (f_strip_items : Nat → Int32) (y1 : Int32) (y2 : Int32) : Nat → Int32 → Int32 → Int32 → (Nat → Int32) → Int32 → Int32 → Prop
  | 0, _, _, _, _, _, _ => False
  | n + 1, v_set, v_shifted, v_told_count, f_told_items, y4, y5 => ((y2 - 1) ≤ y5 → (¬ v_shifted = 0 → post 0 v_set v_shifted v_told_count f_told_items) ∧ (v_shifted = 0 → w_Re_symbolAt (fun r11 => (¬ r11 = (y4 - y4 / 103 * 103) → post 0 v_set v_shifted v_told_count f_told_items) ∧ (r11 = (y4 - y4 / 103 * 103) → post 1 v_set v_shifted v_told_count f_told_items)) v_strip_count f_strip_items (y1 - 6))) ∧ (¬ (y2 - 1) ≤ y5 → w_Re_symbolAt (fun r13 => (r13 = (-1) → post 0 v_set v_shifted v_told_count f_told_items) ∧ (¬ r13 = (-1) → w_Re_isTold (fun r15 s16 s17 s18 s19 => (¬ r15 = 0 → w_Re_isRow_73 post v_strip_count f_strip_items y1 y2 n s16 s17 s18 s19 (y4 + (y5 * r13)) (y5 + 1)) ∧ (r15 = 0 → post 0 s16 s17 s18 s19)) v_set v_shifted v_told_count f_told_items r13)) v_strip_count f_strip_items (6 * y5))
def w_Re_isRow (post : Int32 → Int32 → Int32 → Int32 → (Nat → Int32) → Prop) (v_set : Int32) (v_shifted : Int32) (v_strip_count : Int32) (f_strip_items : Nat → Int32) (v_told_count : Int32) (f_told_items : Nat → Int32) : Prop := w_It_count (fun r1 => (((r1 - 7) / 6) < 2 → post 0 v_set v_shifted v_told_count f_told_items) ∧ (¬ ((r1 - 7) / 6) < 2 → (¬ (r1 - 7) = (((r1 - 7) / 6) * 6) → post 0 v_set v_shifted v_told_count f_told_items) ∧ ((r1 - 7) = (((r1 - 7) / 6) * 6) → w_Re_isLastAt (fun r4 => (¬ r4 = 0 → w_Re_symbolAt (fun r6 => w_Se_isFirst (fun r7 => (¬ r7 = 0 → ∃ k73, w_Re_isRow_73 post v_strip_count f_strip_items (r1 - 7) ((r1 - 7) / 6) k73 (r6 - 103) 0 v_told_count f_told_items r6 1) ∧ (r7 = 0 → post 0 v_set v_shifted v_told_count f_told_items)) r6) v_strip_count f_strip_items 0) ∧ (r4 = 0 → post 0 v_set v_shifted v_told_count f_told_items)) v_strip_count f_strip_items (r1 - 7)))) v_strip_count
abbrev rm_Re_isRow : Room := { frames := 3, cells := 0, slots := 0, locals := 70 }
set_option maxHeartbeats 4000000 in
set_option maxRecDepth 100000 in
theorem lp_Re_isRow_73 (l : Launch) (D : va_G) (Z : (Nat → Prop) → State → Heap → Prop) (hz : zk Z) (ad : Nat → Nat) (hk : zs Z ad) {p : Program} {e : Env} {s : State} {m : MethodId} {args : Array Value} {below : List Frame} {meth : Method} {c : Code} {A : Nat → Prop} (a_this : Nat) (a_strip : Nat) (a_strip_items : Nat) (a_told : Nat) (a_told_items : Nat) (k_strip_items : ClassId) (k_told_items : ClassId) (v_fromBack : Int32) (v_strip_count : Int32) (f_strip_items : Nat → Int32) (y1 : Int32) (y2 : Int32) {post : Int32 → Int32 → Int32 → Int32 → (Nat → Int32) → Prop} (hx : p.tables.exec = Jvm.exec) (hb : c.code = c_Re_isRow) (hml : c.maxLocals = 7) (hr : meth.sig.returnType = (some .boolean)) (hts : ∀ w ∈ tb, w.before args s = true) (hown : s.vm.findClass R_Re = some m.cls) (hlocks : meth.locks = false) (hK : va_K D vwCl [(k_strip_items, .int), (k_told_items, .int)] s) (hZ : Z A s s.heap) (hA : ∀ q, s.heap.size ≤ q → A q) : ∀ (n : Nat) (v_set : Int32) (v_shifted : Int32) (v_told_count : Int32) (f_told_items : Nat → Int32) (y4 : Int32) (y5 : Int32), w_Re_isRow_73 post v_strip_count f_strip_items y1 y2 n v_set v_shifted v_told_count f_told_items y4 y5 → ∀ (H : Heap) (locs : List Loc), va_P D vwCl [(a_this, .inr (2, [.ref a_strip, .ref a_told, .int v_fromBack, .int v_set, .int v_shifted])), (a_strip, .inr (0, [.ref a_strip_items, .int v_strip_count])), (a_strip_items, .inl (k_strip_items, 800, .inl f_strip_items)), (a_told, .inr (0, [.ref a_told_items, .int v_told_count])), (a_told_items, .inl (k_told_items, 260, .inl f_told_items))] H → va_D A [(a_this, .inr (2, [.ref a_strip, .ref a_told, .int v_fromBack, .int v_set, .int v_shifted])), (a_strip, .inr (0, [.ref a_strip_items, .int v_strip_count])), (a_strip_items, .inl (k_strip_items, 800, .inl f_strip_items)), (a_told, .inr (0, [.ref a_told_items, .int v_told_count])), (a_told_items, .inl (k_told_items, 260, .inl f_told_items))] → va_S A s.heap H locs → ∀ ls : Array Slot, lv_has ls 7 [(0, .ref a_this), (1, .int y1), (2, .int y2), (4, .int y4), (5, .int y5)] → W p l e (headSpec ws_Re_isRow rm_Re_isRow).room s m args below meth c H locs 0 0 (MQ below (va_Qi (fun (r : Int32) (u : Int32 × Int32 × Int32 × (Nat → Int32)) => post r u.1 u.2.1 u.2.2.1 u.2.2.2) (fun u t => at_ D vwCl [(k_strip_items, .int), (k_told_items, .int)] A [(a_this, .inr (2, [.ref a_strip, .ref a_told, .int v_fromBack, .int u.1, .int u.2.1])), (a_strip, .inr (0, [.ref a_strip_items, .int v_strip_count])), (a_strip_items, .inl (k_strip_items, 800, .inl f_strip_items)), (a_told, .inr (0, [.ref a_told_items, .int u.2.2.1])), (a_told_items, .inl (k_told_items, 260, .inl u.2.2.2))] t) A) args s 0 0 A) (F0 m 73 ls []) := by
  intro n
  induction n with
  | zero =>
    intro v_set v_shifted v_told_count f_told_items y4 y5 hw
    unfold w_Re_isRow_73 at hw
    exact hw.elim
  | succ n ih =>
    intro v_set v_shifted v_told_count f_told_items y4 y5 hw H locs hP hD hS ls hl
    unfold w_Re_isRow_73 at hw
    refine lv_iload hx hb d_Re_isRow_73 (lv_at hl 4 rfl) ?_
    refine lv_iload_n hx hb d_Re_isRow_75 rfl (lv_at hl 2 rfl) ?_
    refine lv_iconst (v := 1) hx hb d_Re_isRow_76 (by decide) ?_
    refine lv_isub hx hb d_Re_isRow_77 ?_
    refine lv_icmp_ge (tgt := 125) hx hb d_Re_isRow_78 (by decide) (fun c9 => ?_) (fun c9 => ?_)
    · have hw := hw.1 c9
      refine lv_aload_n hx hb d_Re_isRow_125 rfl (lv_at hl 0 rfl) ?_
      refine va_get (D := D) (ci := 2) (v := .int v_shifted) (C := R_Re) (T := T_Re) (N := 5) hx hb hts in_Re hown hK hP 0 rfl rfl 4 (by decide) (hts _ mm_109) (fun _ h9 => h9) rfl d_Re_isRow_126 ?_
      refine lv_if_ne (tgt := 152) hx hb d_Re_isRow_129 (by decide) (fun c10 => ?_) (fun c10 => ?_)
      · have hw := hw.1 c10
        refine lv_iconst (v := 0) hx hb d_Re_isRow_152 (by decide) ?_
        have hP9 := hP.sub (ws' := [(a_this, .inr (2, [.ref a_strip, .ref a_told, .int v_fromBack, .int v_set, .int v_shifted])), (a_strip, .inr (0, [.ref a_strip_items, .int v_strip_count])), (a_strip_items, .inl (k_strip_items, 800, .inl f_strip_items)), (a_told, .inr (0, [.ref a_told_items, .int v_told_count])), (a_told_items, .inl (k_told_items, 260, .inl f_told_items))]) [0, 1, 2, 3, 4] rfl
        have hD9 := hD.sub (ws' := [(a_this, .inr (2, [.ref a_strip, .ref a_told, .int v_fromBack, .int v_set, .int v_shifted])), (a_strip, .inr (0, [.ref a_strip_items, .int v_strip_count])), (a_strip_items, .inl (k_strip_items, 800, .inl f_strip_items)), (a_told, .inr (0, [.ref a_told_items, .int v_told_count])), (a_told_items, .inl (k_told_items, 260, .inl f_told_items))]) [0, 1, 2, 3, 4] (by decide) rfl
        exact W.zret (v := 0) (ty := .boolean) hx hb hr rfl (fun t ht hW => ⟨⟨0, (v_set, v_shifted, v_told_count, f_told_items), rfl, hw, by rw [ht]; exact hP9, va_K.moved hW.alike hK, hD9⟩, hS.F ht⟩) hS.2.2 d_Re_isRow_153
      · have hw := hw.2 c10
        refine lv_aload_n hx hb d_Re_isRow_132 rfl (lv_at hl 0 rfl) ?_
        refine lv_iload_n hx hb d_Re_isRow_133 rfl (lv_at hl 1 rfl) ?_
        refine lv_bipush (v := 6) hx hb d_Re_isRow_134 (by decide) ?_
        refine lv_isub hx hb d_Re_isRow_136 ?_
        refine k_roVi (As := [.int (y1 - 6)]) (rest := []) hz [0, 1, 2, 3, 4] [0, 1] 0 2 ⟨hx, hb, hml, hown, hts⟩ (met_Re_symbolAt l D Z hz ad hk a_this a_strip a_strip_items a_told a_told_items k_strip_items k_told_items v_fromBack v_set v_shifted v_strip_count f_strip_items v_told_count f_told_items (y1 - 6) hw) (cwV 1 hts (g_V mm_320 mm_322 mm_18 mm_45 mm_323) rfl rfl rfl hd_Re_symbolAt ⟨Nat.le_of_ble_eq_true rfl, Nat.le_of_ble_eq_true rfl⟩) hP hK hZ hS rfl rfl rfl rfl rfl hl.1 rfl (Nat.le_of_ble_eq_true rfl) d_Re_isRow_137 ⟨Nat.le_of_ble_eq_true rfl, Nat.le_of_ble_eq_true rfl⟩ (fun r11 hw => ?_)
        refine lv_iload hx hb d_Re_isRow_140 (lv_at hl 3 rfl) ?_
        refine lv_bipush (v := 103) hx hb d_Re_isRow_142 (by decide) ?_
        refine lv_irem hx hb d_Re_isRow_144 (by decide) ?_
        refine lv_icmp_ne (tgt := 152) hx hb d_Re_isRow_145 (by decide) (fun c12 => ?_) (fun c12 => ?_)
        · have hw := hw.1 c12
          refine lv_iconst (v := 0) hx hb d_Re_isRow_152 (by decide) ?_
          have hP9 := hP.sub (ws' := [(a_this, .inr (2, [.ref a_strip, .ref a_told, .int v_fromBack, .int v_set, .int v_shifted])), (a_strip, .inr (0, [.ref a_strip_items, .int v_strip_count])), (a_strip_items, .inl (k_strip_items, 800, .inl f_strip_items)), (a_told, .inr (0, [.ref a_told_items, .int v_told_count])), (a_told_items, .inl (k_told_items, 260, .inl f_told_items))]) [0, 1, 2, 3, 4] rfl
          have hD9 := hD.sub (ws' := [(a_this, .inr (2, [.ref a_strip, .ref a_told, .int v_fromBack, .int v_set, .int v_shifted])), (a_strip, .inr (0, [.ref a_strip_items, .int v_strip_count])), (a_strip_items, .inl (k_strip_items, 800, .inl f_strip_items)), (a_told, .inr (0, [.ref a_told_items, .int v_told_count])), (a_told_items, .inl (k_told_items, 260, .inl f_told_items))]) [0, 1, 2, 3, 4] (by decide) rfl
          exact W.zret (v := 0) (ty := .boolean) hx hb hr rfl (fun t ht hW => ⟨⟨0, (v_set, v_shifted, v_told_count, f_told_items), rfl, hw, by rw [ht]; exact hP9, va_K.moved hW.alike hK, hD9⟩, hS.F ht⟩) hS.2.2 d_Re_isRow_153
        · have hw := hw.2 c12
          refine lv_iconst (v := 1) hx hb d_Re_isRow_148 (by decide) ?_
          refine lv_goto (tgt := 153) hx hb d_Re_isRow_149 (by decide) ?_
          have hP9 := hP.sub (ws' := [(a_this, .inr (2, [.ref a_strip, .ref a_told, .int v_fromBack, .int v_set, .int v_shifted])), (a_strip, .inr (0, [.ref a_strip_items, .int v_strip_count])), (a_strip_items, .inl (k_strip_items, 800, .inl f_strip_items)), (a_told, .inr (0, [.ref a_told_items, .int v_told_count])), (a_told_items, .inl (k_told_items, 260, .inl f_told_items))]) [0, 1, 2, 3, 4] rfl
          have hD9 := hD.sub (ws' := [(a_this, .inr (2, [.ref a_strip, .ref a_told, .int v_fromBack, .int v_set, .int v_shifted])), (a_strip, .inr (0, [.ref a_strip_items, .int v_strip_count])), (a_strip_items, .inl (k_strip_items, 800, .inl f_strip_items)), (a_told, .inr (0, [.ref a_told_items, .int v_told_count])), (a_told_items, .inl (k_told_items, 260, .inl f_told_items))]) [0, 1, 2, 3, 4] (by decide) rfl
          exact W.zret (v := 1) (ty := .boolean) hx hb hr rfl (fun t ht hW => ⟨⟨1, (v_set, v_shifted, v_told_count, f_told_items), rfl, hw, by rw [ht]; exact hP9, va_K.moved hW.alike hK, hD9⟩, hS.F ht⟩) hS.2.2 d_Re_isRow_153
    · have hw := hw.2 c9
      refine lv_aload_n hx hb d_Re_isRow_81 rfl (lv_at hl 0 rfl) ?_
      refine lv_bipush (v := 6) hx hb d_Re_isRow_82 (by decide) ?_
      refine lv_iload hx hb d_Re_isRow_84 (lv_at hl 4 rfl) ?_
      refine lv_imul hx hb d_Re_isRow_86 ?_
      refine k_roVi (As := [.int (6 * y5)]) (rest := []) hz [0, 1, 2, 3, 4] [0, 1] 0 2 ⟨hx, hb, hml, hown, hts⟩ (met_Re_symbolAt l D Z hz ad hk a_this a_strip a_strip_items a_told a_told_items k_strip_items k_told_items v_fromBack v_set v_shifted v_strip_count f_strip_items v_told_count f_told_items (6 * y5) hw) (cwV 1 hts (g_V mm_320 mm_322 mm_18 mm_45 mm_323) rfl rfl rfl hd_Re_symbolAt ⟨Nat.le_of_ble_eq_true rfl, Nat.le_of_ble_eq_true rfl⟩) hP hK hZ hS rfl rfl rfl rfl rfl hl.1 rfl (Nat.le_of_ble_eq_true rfl) d_Re_isRow_87 ⟨Nat.le_of_ble_eq_true rfl, Nat.le_of_ble_eq_true rfl⟩ (fun r13 hw => ?_)
      refine lv_istore (lv' := [(6, .int r13), (0, .ref a_this), (1, .int y1), (2, .int y2), (4, .int y4), (5, .int y5)]) hx hb d_Re_isRow_90 hl (by decide) rfl (fun ls hl => ?_)
      refine lv_iload hx hb d_Re_isRow_92 (lv_at hl 0 rfl) ?_
      refine lv_iconst (v := (-1)) hx hb d_Re_isRow_94 (by decide) ?_
      refine lv_icmp_eq (tgt := 107) hx hb d_Re_isRow_95 (by decide) (fun c14 => ?_) (fun c14 => ?_)
      · have hw := hw.1 c14
        refine lv_iconst (v := 0) hx hb d_Re_isRow_107 (by decide) ?_
        have hP9 := hP.sub (ws' := [(a_this, .inr (2, [.ref a_strip, .ref a_told, .int v_fromBack, .int v_set, .int v_shifted])), (a_strip, .inr (0, [.ref a_strip_items, .int v_strip_count])), (a_strip_items, .inl (k_strip_items, 800, .inl f_strip_items)), (a_told, .inr (0, [.ref a_told_items, .int v_told_count])), (a_told_items, .inl (k_told_items, 260, .inl f_told_items))]) [0, 1, 2, 3, 4] rfl
        have hD9 := hD.sub (ws' := [(a_this, .inr (2, [.ref a_strip, .ref a_told, .int v_fromBack, .int v_set, .int v_shifted])), (a_strip, .inr (0, [.ref a_strip_items, .int v_strip_count])), (a_strip_items, .inl (k_strip_items, 800, .inl f_strip_items)), (a_told, .inr (0, [.ref a_told_items, .int v_told_count])), (a_told_items, .inl (k_told_items, 260, .inl f_told_items))]) [0, 1, 2, 3, 4] (by decide) rfl
        exact W.zret (v := 0) (ty := .boolean) hx hb hr rfl (fun t ht hW => ⟨⟨0, (v_set, v_shifted, v_told_count, f_told_items), rfl, hw, by rw [ht]; exact hP9, va_K.moved hW.alike hK, hD9⟩, hS.F ht⟩) hS.2.2 d_Re_isRow_108
      · have hw := hw.2 c14
        refine lv_aload_n hx hb d_Re_isRow_98 rfl (lv_at hl 1 rfl) ?_
        refine lv_iload hx hb d_Re_isRow_99 (lv_at hl 0 rfl) ?_
        refine k_rwVi (As := [.int r13]) (rest := []) (wr := []) hz [0, 1, 2, 3, 4] [] [0, 1] 0 2 ⟨hx, hb, hml, hown, hts⟩ (met_Re_isTold l D Z hz ad hk a_this a_strip a_strip_items a_told a_told_items k_strip_items k_told_items v_fromBack v_set v_shifted v_strip_count f_strip_items v_told_count f_told_items r13 _ hw) (cwV 1 hts (g_V mm_332 mm_334 mm_19 mm_45 mm_335) rfl rfl rfl hd_Re_isTold ⟨Nat.le_of_ble_eq_true rfl, Nat.le_of_ble_eq_true rfl⟩) hP hD hK hZ hS hA rfl rfl rfl rfl rfl (by decide) rfl rfl rfl rfl hl.1 rfl (Nat.le_of_ble_eq_true rfl) d_Re_isRow_101 ⟨Nat.le_of_ble_eq_true rfl, Nat.le_of_ble_eq_true rfl⟩ (fun r15 u9 H locs hw hP hD hS => ?_)
        obtain ⟨s16, s17, s18, s19⟩ := u9
        try dsimp only at hw
        have hP : va_P D vwCl [(a_this, .inr (2, [.ref a_strip, .ref a_told, .int v_fromBack, .int s16, .int s17])), (a_strip, .inr (0, [.ref a_strip_items, .int v_strip_count])), (a_strip_items, .inl (k_strip_items, 800, .inl f_strip_items)), (a_told, .inr (0, [.ref a_told_items, .int s18])), (a_told_items, .inl (k_told_items, 260, .inl s19))] H := hP
        have hD : va_D A [(a_this, .inr (2, [.ref a_strip, .ref a_told, .int v_fromBack, .int s16, .int s17])), (a_strip, .inr (0, [.ref a_strip_items, .int v_strip_count])), (a_strip_items, .inl (k_strip_items, 800, .inl f_strip_items)), (a_told, .inr (0, [.ref a_told_items, .int s18])), (a_told_items, .inl (k_told_items, 260, .inl s19))] := hD
        refine lv_if_ne (tgt := 109) hx hb d_Re_isRow_104 (by decide) (fun c20 => ?_) (fun c20 => ?_)
        · have hw := hw.1 c20
          refine lv_iload hx hb d_Re_isRow_109 (lv_at hl 4 rfl) ?_
          refine lv_iload hx hb d_Re_isRow_111 (lv_at hl 5 rfl) ?_
          refine lv_iload hx hb d_Re_isRow_113 (lv_at hl 0 rfl) ?_
          refine lv_imul hx hb d_Re_isRow_115 ?_
          refine lv_iadd hx hb d_Re_isRow_116 ?_
          refine lv_istore (lv' := [(4, .int (y4 + (y5 * r13))), (6, .int r13), (0, .ref a_this), (1, .int y1), (2, .int y2), (5, .int y5)]) hx hb d_Re_isRow_117 hl (by decide) rfl (fun ls hl => ?_)
          refine lv_iinc (v := (y5 + 1)) (lv' := [(5, .int (y5 + 1)), (4, .int (y4 + (y5 * r13))), (6, .int r13), (0, .ref a_this), (1, .int y1), (2, .int y2)]) hx hb d_Re_isRow_119 hl (k := 5) rfl rfl (by decide) rfl (fun ls hl => ?_)
          refine lv_goto (tgt := 73) hx hb d_Re_isRow_122 (by decide) ?_
          exact ih s16 s17 s18 s19 (y4 + (y5 * r13)) (y5 + 1) hw _ _ (hP.sub [0, 1, 2, 3, 4] rfl) (hD.sub [0, 1, 2, 3, 4] (by decide) rfl) hS ls (lv_sub hl [3, 4, 5, 1, 0] rfl)
        · have hw := hw.2 c20
          refine lv_iconst (v := 0) hx hb d_Re_isRow_107 (by decide) ?_
          have hP9 := hP.sub (ws' := [(a_this, .inr (2, [.ref a_strip, .ref a_told, .int v_fromBack, .int s16, .int s17])), (a_strip, .inr (0, [.ref a_strip_items, .int v_strip_count])), (a_strip_items, .inl (k_strip_items, 800, .inl f_strip_items)), (a_told, .inr (0, [.ref a_told_items, .int s18])), (a_told_items, .inl (k_told_items, 260, .inl s19))]) [0, 1, 2, 3, 4] rfl
          have hD9 := hD.sub (ws' := [(a_this, .inr (2, [.ref a_strip, .ref a_told, .int v_fromBack, .int s16, .int s17])), (a_strip, .inr (0, [.ref a_strip_items, .int v_strip_count])), (a_strip_items, .inl (k_strip_items, 800, .inl f_strip_items)), (a_told, .inr (0, [.ref a_told_items, .int s18])), (a_told_items, .inl (k_told_items, 260, .inl s19))]) [0, 1, 2, 3, 4] (by decide) rfl
          exact W.zret (v := 0) (ty := .boolean) hx hb hr rfl (fun t ht hW => ⟨⟨0, (s16, s17, s18, s19), rfl, hw, by rw [ht]; exact hP9, va_K.moved hW.alike hK, hD9⟩, hS.F ht⟩) hS.2.2 d_Re_isRow_108
set_option maxHeartbeats 4000000 in
set_option maxRecDepth 100000 in
theorem met_Re_isRow (l : Launch) (D : va_G) (Z : (Nat → Prop) → State → Heap → Prop) (hz : zk Z) (ad : Nat → Nat) (hk : zs Z ad) (a_this : Nat) (a_strip : Nat) (a_strip_items : Nat) (a_told : Nat) (a_told_items : Nat) (k_strip_items : ClassId) (k_told_items : ClassId) (v_fromBack : Int32) (v_set : Int32) (v_shifted : Int32) (v_strip_count : Int32) (f_strip_items : Nat → Int32) (v_told_count : Int32) (f_told_items : Nat → Int32) (sz : Nat) {post : Int32 → Int32 → Int32 → Int32 → (Nat → Int32) → Prop} (hw : w_Re_isRow post v_set v_shifted v_strip_count f_strip_items v_told_count f_told_items) : Met l y_Re_isRow ws_Re_isRow rm_Re_isRow (va_Pc [.ref a_this] (rw_ D vwCl [(k_strip_items, .int), (k_told_items, .int)] [(a_this, .inr (2, [.ref a_strip, .ref a_told, .int v_fromBack, .int v_set, .int v_shifted])), (a_strip, .inr (0, [.ref a_strip_items, .int v_strip_count])), (a_strip_items, .inl (k_strip_items, 800, .inl f_strip_items)), (a_told, .inr (0, [.ref a_told_items, .int v_told_count])), (a_told_items, .inl (k_told_items, 260, .inl f_told_items))] (Z) sz)) (va_Qi (fun (r : Int32) (u : Int32 × Int32 × Int32 × (Nat → Int32)) => post r u.1 u.2.1 u.2.2.1 u.2.2.2) (fun u t => at_ D vwCl [(k_strip_items, .int), (k_told_items, .int)] (va_A [(a_this, .inr (2, [.ref a_strip, .ref a_told, .int v_fromBack, .int v_set, .int v_shifted])), (a_strip, .inr (0, [.ref a_strip_items, .int v_strip_count])), (a_strip_items, .inl (k_strip_items, 800, .inl f_strip_items)), (a_told, .inr (0, [.ref a_told_items, .int v_told_count])), (a_told_items, .inl (k_told_items, 260, .inl f_told_items))] sz) [(a_this, .inr (2, [.ref a_strip, .ref a_told, .int v_fromBack, .int u.1, .int u.2.1])), (a_strip, .inr (0, [.ref a_strip_items, .int v_strip_count])), (a_strip_items, .inl (k_strip_items, 800, .inl f_strip_items)), (a_told, .inr (0, [.ref a_told_items, .int u.2.2.1])), (a_told_items, .inl (k_told_items, 260, .inl u.2.2.2))] t) (va_A [(a_this, .inr (2, [.ref a_strip, .ref a_told, .int v_fromBack, .int v_set, .int v_shifted])), (a_strip, .inr (0, [.ref a_strip_items, .int v_strip_count])), (a_strip_items, .inl (k_strip_items, 800, .inl f_strip_items)), (a_told, .inr (0, [.ref a_told_items, .int v_told_count])), (a_told_items, .inl (k_told_items, 260, .inl f_told_items))] sz)) 0 0 (va_A [(a_this, .inr (2, [.ref a_strip, .ref a_told, .int v_fromBack, .int v_set, .int v_shifted])), (a_strip, .inr (0, [.ref a_strip_items, .int v_strip_count])), (a_strip_items, .inl (k_strip_items, 800, .inl f_strip_items)), (a_told, .inr (0, [.ref a_told_items, .int v_told_count])), (a_told_items, .inl (k_told_items, 260, .inl f_told_items))] sz) := by
  refine Met.ofW (cc := c_Re_isRow) (maxL := 7) (ret := (some .boolean)) (by decide) rfl ?_
  intro p e s m args below meth c s₁ B hml hv
  obtain ⟨rfl, hsz, hP, hK, hD0, hZ⟩ := hv
  have hx := B.exec
  have hb := B.bytes
  have hr := B.returns
  have hts0 := atoms_spec (ws := ws_Re_isRow) B.pre
  have hts := fun (w : Cond) (h : w ∈ tb) => hts0 w (List.mem_cons_of_mem _ h)
  have hown : s.vm.findClass R_Re = some m.cls := findClass_of_methodNamed B.named
  have hlocks := B.notSynchronized
  subst hsz
  have hD := hD0.self (sz := s.heap.size)
  generalize hAe : va_A [(a_this, .inr (2, [.ref a_strip, .ref a_told, .int v_fromBack, .int v_set, .int v_shifted])), (a_strip, .inr (0, [.ref a_strip_items, .int v_strip_count])), (a_strip_items, .inl (k_strip_items, 800, .inl f_strip_items)), (a_told, .inr (0, [.ref a_told_items, .int v_told_count])), (a_told_items, .inl (k_told_items, 260, .inl f_told_items))] s.heap.size = A at hD hZ ⊢
  have hA : ∀ q : Nat, s.heap.size ≤ q → A q := fun q h => by rw [← hAe]; exact Or.inr h
  have hS : va_S A s.heap s.heap [] := va_S.rf
  have hl := lv_entry ([.ref a_this]) (n := 7) (Nat.le_of_ble_eq_true rfl)
  rw [lg_entry_eq]
  generalize (lg_sl ([.ref a_this]) ++ List.replicate (7 - (lg_sl ([.ref a_this])).length) Slot.unset).toArray = ls at hl ⊢
  have hl : lv_has ls 7 [(0, .ref a_this)] := hl
  unfold w_Re_isRow at hw
  refine lv_aload_n hx hb d_Re_isRow_0 rfl (lv_at hl 0 rfl) ?_
  refine va_get (D := D) (ci := 2) (v := .ref a_strip) (C := R_Re) (T := T_Re) (N := 5) hx hb hts in_Re hown hK hP 0 rfl rfl 0 (by decide) (hts _ mm_105) (fun _ h9 => h9) rfl d_Re_isRow_1 ?_
  refine k_roVi (As := []) (rest := []) hz [1, 2] [0] 1 0 ⟨hx, hb, hml, hown, hts⟩ (met_It_count l D Z hz ad hk a_strip a_strip_items k_strip_items 800 v_strip_count f_strip_items hw) (cwV 0 hts (g_V mm_260 mm_154 mm_155 mm_42 mm_156) rfl rfl rfl hd_It_count ⟨Nat.le_of_ble_eq_true rfl, Nat.le_of_ble_eq_true rfl⟩) hP hK hZ hS rfl rfl rfl rfl rfl hl.1 rfl (Nat.le_of_ble_eq_true rfl) d_Re_isRow_4 ⟨Nat.le_of_ble_eq_true rfl, Nat.le_of_ble_eq_true rfl⟩ (fun r1 hw => ?_)
  refine lv_bipush (v := 7) hx hb d_Re_isRow_7 (by decide) ?_
  refine lv_isub hx hb d_Re_isRow_9 ?_
  refine lv_istore_n (lv' := [(1, .int (r1 - 7)), (0, .ref a_this)]) hx hb d_Re_isRow_10 rfl hl (by decide) rfl (fun ls hl => ?_)
  refine lv_iload_n hx hb d_Re_isRow_11 rfl (lv_at hl 0 rfl) ?_
  refine lv_bipush (v := 6) hx hb d_Re_isRow_12 (by decide) ?_
  refine lv_idiv hx hb d_Re_isRow_14 (by decide) ?_
  refine lv_istore_n (lv' := [(2, .int ((r1 - 7) / 6)), (1, .int (r1 - 7)), (0, .ref a_this)]) hx hb d_Re_isRow_15 rfl hl (by decide) rfl (fun ls hl => ?_)
  refine lv_iload_n hx hb d_Re_isRow_16 rfl (lv_at hl 0 rfl) ?_
  refine lv_iconst (v := 2) hx hb d_Re_isRow_17 (by decide) ?_
  refine lv_icmp_lt (tgt := 37) hx hb d_Re_isRow_18 (by decide) (fun c2 => ?_) (fun c2 => ?_)
  · have hw := hw.1 c2
    refine lv_iconst (v := 0) hx hb d_Re_isRow_37 (by decide) ?_
    have hP9 := hP.sub (ws' := [(a_this, .inr (2, [.ref a_strip, .ref a_told, .int v_fromBack, .int v_set, .int v_shifted])), (a_strip, .inr (0, [.ref a_strip_items, .int v_strip_count])), (a_strip_items, .inl (k_strip_items, 800, .inl f_strip_items)), (a_told, .inr (0, [.ref a_told_items, .int v_told_count])), (a_told_items, .inl (k_told_items, 260, .inl f_told_items))]) [0, 1, 2, 3, 4] rfl
    have hD9 := hD.sub (ws' := [(a_this, .inr (2, [.ref a_strip, .ref a_told, .int v_fromBack, .int v_set, .int v_shifted])), (a_strip, .inr (0, [.ref a_strip_items, .int v_strip_count])), (a_strip_items, .inl (k_strip_items, 800, .inl f_strip_items)), (a_told, .inr (0, [.ref a_told_items, .int v_told_count])), (a_told_items, .inl (k_told_items, 260, .inl f_told_items))]) [0, 1, 2, 3, 4] (by decide) rfl
    exact W.zret (v := 0) (ty := .boolean) hx hb hr rfl (fun t ht hW => ⟨⟨0, (v_set, v_shifted, v_told_count, f_told_items), rfl, hw, by rw [ht]; exact hP9, va_K.moved hW.alike hK, hD9⟩, hS.F ht⟩) hS.2.2 d_Re_isRow_38
  · have hw := hw.2 c2
    refine lv_iload_n hx hb d_Re_isRow_21 rfl (lv_at hl 1 rfl) ?_
    refine lv_iload_n hx hb d_Re_isRow_22 rfl (lv_at hl 0 rfl) ?_
    refine lv_bipush (v := 6) hx hb d_Re_isRow_23 (by decide) ?_
    refine lv_imul hx hb d_Re_isRow_25 ?_
    refine lv_icmp_ne (tgt := 37) hx hb d_Re_isRow_26 (by decide) (fun c3 => ?_) (fun c3 => ?_)
    · have hw := hw.1 c3
      refine lv_iconst (v := 0) hx hb d_Re_isRow_37 (by decide) ?_
      have hP9 := hP.sub (ws' := [(a_this, .inr (2, [.ref a_strip, .ref a_told, .int v_fromBack, .int v_set, .int v_shifted])), (a_strip, .inr (0, [.ref a_strip_items, .int v_strip_count])), (a_strip_items, .inl (k_strip_items, 800, .inl f_strip_items)), (a_told, .inr (0, [.ref a_told_items, .int v_told_count])), (a_told_items, .inl (k_told_items, 260, .inl f_told_items))]) [0, 1, 2, 3, 4] rfl
      have hD9 := hD.sub (ws' := [(a_this, .inr (2, [.ref a_strip, .ref a_told, .int v_fromBack, .int v_set, .int v_shifted])), (a_strip, .inr (0, [.ref a_strip_items, .int v_strip_count])), (a_strip_items, .inl (k_strip_items, 800, .inl f_strip_items)), (a_told, .inr (0, [.ref a_told_items, .int v_told_count])), (a_told_items, .inl (k_told_items, 260, .inl f_told_items))]) [0, 1, 2, 3, 4] (by decide) rfl
      exact W.zret (v := 0) (ty := .boolean) hx hb hr rfl (fun t ht hW => ⟨⟨0, (v_set, v_shifted, v_told_count, f_told_items), rfl, hw, by rw [ht]; exact hP9, va_K.moved hW.alike hK, hD9⟩, hS.F ht⟩) hS.2.2 d_Re_isRow_38
    · have hw := hw.2 c3
      refine lv_aload_n hx hb d_Re_isRow_29 rfl (lv_at hl 2 rfl) ?_
      refine lv_iload_n hx hb d_Re_isRow_30 rfl (lv_at hl 1 rfl) ?_
      refine k_roVi (As := [.int (r1 - 7)]) (rest := []) hz [0, 1, 2, 3, 4] [0, 1] 0 2 ⟨hx, hb, hml, hown, hts⟩ (met_Re_isLastAt l D Z hz ad hk a_this a_strip a_strip_items a_told a_told_items k_strip_items k_told_items v_fromBack v_set v_shifted v_strip_count f_strip_items v_told_count f_told_items (r1 - 7) hw) (cwV 1 hts (g_V mm_315 mm_317 mm_17 mm_45 mm_318) rfl rfl rfl hd_Re_isLastAt ⟨Nat.le_of_ble_eq_true rfl, Nat.le_of_ble_eq_true rfl⟩) hP hK hZ hS rfl rfl rfl rfl rfl hl.1 rfl (Nat.le_of_ble_eq_true rfl) d_Re_isRow_31 ⟨Nat.le_of_ble_eq_true rfl, Nat.le_of_ble_eq_true rfl⟩ (fun r4 hw => ?_)
      refine lv_if_ne (tgt := 39) hx hb d_Re_isRow_34 (by decide) (fun c5 => ?_) (fun c5 => ?_)
      · have hw := hw.1 c5
        refine lv_aload_n hx hb d_Re_isRow_39 rfl (lv_at hl 2 rfl) ?_
        refine lv_iconst (v := 0) hx hb d_Re_isRow_40 (by decide) ?_
        refine k_roVi (As := [.int 0]) (rest := []) hz [0, 1, 2, 3, 4] [0, 1] 0 2 ⟨hx, hb, hml, hown, hts⟩ (met_Re_symbolAt l D Z hz ad hk a_this a_strip a_strip_items a_told a_told_items k_strip_items k_told_items v_fromBack v_set v_shifted v_strip_count f_strip_items v_told_count f_told_items 0 hw) (cwV 1 hts (g_V mm_320 mm_322 mm_18 mm_45 mm_323) rfl rfl rfl hd_Re_symbolAt ⟨Nat.le_of_ble_eq_true rfl, Nat.le_of_ble_eq_true rfl⟩) hP hK hZ hS rfl rfl rfl rfl rfl hl.1 rfl (Nat.le_of_ble_eq_true rfl) d_Re_isRow_41 ⟨Nat.le_of_ble_eq_true rfl, Nat.le_of_ble_eq_true rfl⟩ (fun r6 hw => ?_)
        refine lv_istore_n (lv' := [(3, .int r6), (2, .int ((r1 - 7) / 6)), (1, .int (r1 - 7)), (0, .ref a_this)]) hx hb d_Re_isRow_44 rfl hl (by decide) rfl (fun ls hl => ?_)
        refine lv_iload_n hx hb d_Re_isRow_45 rfl (lv_at hl 0 rfl) ?_
        refine k_roSi (As := [.int r6]) (rest := []) hz [] [] ⟨hx, hb, hml, hown, hts⟩ (met_Se_isFirst l D Z hz ad hk r6 hw) (va_cwS 1 hts (g_S mm_329 mm_330 mm_51 mm_331) rfl rfl rfl hd_Se_isFirst.2 ⟨Nat.le_of_ble_eq_true rfl, Nat.le_of_ble_eq_true rfl⟩) hP hK hZ hS rfl rfl rfl hl.1 rfl (Nat.le_of_ble_eq_true rfl) d_Re_isRow_46 ⟨Nat.le_of_ble_eq_true rfl, Nat.le_of_ble_eq_true rfl⟩ (fun r7 hw => ?_)
        refine lv_if_ne (tgt := 54) hx hb d_Re_isRow_49 (by decide) (fun c8 => ?_) (fun c8 => ?_)
        · have hw := hw.1 c8
          refine lv_aload_n hx hb d_Re_isRow_54 rfl (lv_at hl 3 rfl) ?_
          refine lv_iload_n hx hb d_Re_isRow_55 rfl (lv_at hl 0 rfl) ?_
          refine lv_bipush (v := 103) hx hb d_Re_isRow_56 (by decide) ?_
          refine lv_isub hx hb d_Re_isRow_58 ?_
          refine va_put (D := D) (ci := 2) (v := .int (r6 - 103)) (ty := .int) (C := R_Re) (T := T_Re) (N := 5) hx hb hts in_Re ty_Re tk_Re nn_Re hown hK hP hD hS 0 rfl rfl 3 (by decide) (hts _ mm_108) (fun _ h9 => h9) rfl (by decide +kernel) rfl rfl (Nat.le_of_ble_eq_true rfl) d_Re_isRow_59 (fun H locs hP hD hS => ?_)
          have hP : va_P D vwCl [(a_this, .inr (2, [.ref a_strip, .ref a_told, .int v_fromBack, .int (r6 - 103), .int v_shifted])), (a_strip, .inr (0, [.ref a_strip_items, .int v_strip_count])), (a_strip_items, .inl (k_strip_items, 800, .inl f_strip_items)), (a_told, .inr (0, [.ref a_told_items, .int v_told_count])), (a_told_items, .inl (k_told_items, 260, .inl f_told_items))] H := hP
          have hD : va_D A [(a_this, .inr (2, [.ref a_strip, .ref a_told, .int v_fromBack, .int (r6 - 103), .int v_shifted])), (a_strip, .inr (0, [.ref a_strip_items, .int v_strip_count])), (a_strip_items, .inl (k_strip_items, 800, .inl f_strip_items)), (a_told, .inr (0, [.ref a_told_items, .int v_told_count])), (a_told_items, .inl (k_told_items, 260, .inl f_told_items))] := hD
          refine lv_aload_n hx hb d_Re_isRow_62 rfl (lv_at hl 3 rfl) ?_
          refine lv_iconst (v := 0) hx hb d_Re_isRow_63 (by decide) ?_
          refine va_put (D := D) (ci := 2) (v := .int 0) (ty := .boolean) (C := R_Re) (T := T_Re) (N := 5) hx hb hts in_Re ty_Re tk_Re nn_Re hown hK hP hD hS 0 rfl rfl 4 (by decide) (hts _ mm_109) (fun _ h9 => h9) rfl (by decide +kernel) rfl rfl (Nat.le_of_ble_eq_true rfl) d_Re_isRow_64 (fun H locs hP hD hS => ?_)
          have hP : va_P D vwCl [(a_this, .inr (2, [.ref a_strip, .ref a_told, .int v_fromBack, .int (r6 - 103), .int 0])), (a_strip, .inr (0, [.ref a_strip_items, .int v_strip_count])), (a_strip_items, .inl (k_strip_items, 800, .inl f_strip_items)), (a_told, .inr (0, [.ref a_told_items, .int v_told_count])), (a_told_items, .inl (k_told_items, 260, .inl f_told_items))] H := hP
          have hD : va_D A [(a_this, .inr (2, [.ref a_strip, .ref a_told, .int v_fromBack, .int (r6 - 103), .int 0])), (a_strip, .inr (0, [.ref a_strip_items, .int v_strip_count])), (a_strip_items, .inl (k_strip_items, 800, .inl f_strip_items)), (a_told, .inr (0, [.ref a_told_items, .int v_told_count])), (a_told_items, .inl (k_told_items, 260, .inl f_told_items))] := hD
          refine lv_iload_n hx hb d_Re_isRow_67 rfl (lv_at hl 0 rfl) ?_
          refine lv_istore (lv' := [(4, .int r6), (3, .int r6), (2, .int ((r1 - 7) / 6)), (1, .int (r1 - 7)), (0, .ref a_this)]) hx hb d_Re_isRow_68 hl (by decide) rfl (fun ls hl => ?_)
          refine lv_iconst (v := 1) hx hb d_Re_isRow_70 (by decide) ?_
          refine lv_istore (lv' := [(5, .int 1), (4, .int r6), (3, .int r6), (2, .int ((r1 - 7) / 6)), (1, .int (r1 - 7)), (0, .ref a_this)]) hx hb d_Re_isRow_71 hl (by decide) rfl (fun ls hl => ?_)
          obtain ⟨n9, hw⟩ := hw
          exact lp_Re_isRow_73 l D Z hz ad hk a_this a_strip a_strip_items a_told a_told_items k_strip_items k_told_items v_fromBack v_strip_count f_strip_items (r1 - 7) ((r1 - 7) / 6) hx hb hml hr hts hown hlocks hK hZ hA n9 (r6 - 103) 0 v_told_count f_told_items r6 1 hw _ _ (hP.sub [0, 1, 2, 3, 4] rfl) (hD.sub [0, 1, 2, 3, 4] (by decide) rfl) hS ls (lv_sub hl [5, 4, 3, 1, 0] rfl)
        · have hw := hw.2 c8
          refine lv_iconst (v := 0) hx hb d_Re_isRow_52 (by decide) ?_
          have hP9 := hP.sub (ws' := [(a_this, .inr (2, [.ref a_strip, .ref a_told, .int v_fromBack, .int v_set, .int v_shifted])), (a_strip, .inr (0, [.ref a_strip_items, .int v_strip_count])), (a_strip_items, .inl (k_strip_items, 800, .inl f_strip_items)), (a_told, .inr (0, [.ref a_told_items, .int v_told_count])), (a_told_items, .inl (k_told_items, 260, .inl f_told_items))]) [0, 1, 2, 3, 4] rfl
          have hD9 := hD.sub (ws' := [(a_this, .inr (2, [.ref a_strip, .ref a_told, .int v_fromBack, .int v_set, .int v_shifted])), (a_strip, .inr (0, [.ref a_strip_items, .int v_strip_count])), (a_strip_items, .inl (k_strip_items, 800, .inl f_strip_items)), (a_told, .inr (0, [.ref a_told_items, .int v_told_count])), (a_told_items, .inl (k_told_items, 260, .inl f_told_items))]) [0, 1, 2, 3, 4] (by decide) rfl
          exact W.zret (v := 0) (ty := .boolean) hx hb hr rfl (fun t ht hW => ⟨⟨0, (v_set, v_shifted, v_told_count, f_told_items), rfl, hw, by rw [ht]; exact hP9, va_K.moved hW.alike hK, hD9⟩, hS.F ht⟩) hS.2.2 d_Re_isRow_53
      · have hw := hw.2 c5
        refine lv_iconst (v := 0) hx hb d_Re_isRow_37 (by decide) ?_
        have hP9 := hP.sub (ws' := [(a_this, .inr (2, [.ref a_strip, .ref a_told, .int v_fromBack, .int v_set, .int v_shifted])), (a_strip, .inr (0, [.ref a_strip_items, .int v_strip_count])), (a_strip_items, .inl (k_strip_items, 800, .inl f_strip_items)), (a_told, .inr (0, [.ref a_told_items, .int v_told_count])), (a_told_items, .inl (k_told_items, 260, .inl f_told_items))]) [0, 1, 2, 3, 4] rfl
        have hD9 := hD.sub (ws' := [(a_this, .inr (2, [.ref a_strip, .ref a_told, .int v_fromBack, .int v_set, .int v_shifted])), (a_strip, .inr (0, [.ref a_strip_items, .int v_strip_count])), (a_strip_items, .inl (k_strip_items, 800, .inl f_strip_items)), (a_told, .inr (0, [.ref a_told_items, .int v_told_count])), (a_told_items, .inl (k_told_items, 260, .inl f_told_items))]) [0, 1, 2, 3, 4] (by decide) rfl
        exact W.zret (v := 0) (ty := .boolean) hx hb hr rfl (fun t ht hW => ⟨⟨0, (v_set, v_shifted, v_told_count, f_told_items), rfl, hw, by rw [ht]; exact hP9, va_K.moved hW.alike hK, hD9⟩, hS.F ht⟩) hS.2.2 d_Re_isRow_38
-- LineCodes$Reader.isReadable(Z)Z
def w_Re_isReadable (post : Int32 → Int32 → Int32 → Int32 → Int32 → (Nat → Int32) → Prop) (v_set : Int32) (v_shifted : Int32) (v_strip_count : Int32) (f_strip_items : Nat → Int32) (v_told_count : Int32) (f_told_items : Nat → Int32) (x1 : Int32) : Prop := w_It_empty (fun r1 s2 => w_It_count (fun r3 => (¬ r3 = 59 → w_Re_isRow (fun r5 s6 s7 s8 s9 => (¬ r5 = 0 → (r5 = 0 → vz r5 ∧ post r5 0 s6 s7 s8 s9) ∧ (¬ r5 = 0 → (x1 = 0 → vz r5 ∧ post r5 0 s6 s7 s8 s9) ∧ (¬ x1 = 0 → vz r5 ∧ post r5 1 s6 s7 s8 s9))) ∧ (r5 = 0 → w_It_empty (fun r13 s14 => (r5 = 0 → vz r5 ∧ post r5 0 s6 s7 s14 s9) ∧ (¬ r5 = 0 → (x1 = 0 → vz r5 ∧ post r5 0 s6 s7 s14 s9) ∧ (¬ x1 = 0 → vz r5 ∧ post r5 1 s6 s7 s14 s9))) s8)) v_set v_shifted v_strip_count f_strip_items s2 f_told_items) ∧ (r3 = 59 → w_Re_isThirteen (fun r17 s18 s19 => (¬ r17 = 0 → (r17 = 0 → vz r17 ∧ post r17 0 v_set v_shifted s18 s19) ∧ (¬ r17 = 0 → (x1 = 0 → vz r17 ∧ post r17 0 v_set v_shifted s18 s19) ∧ (¬ x1 = 0 → vz r17 ∧ post r17 1 v_set v_shifted s18 s19))) ∧ (r17 = 0 → w_It_empty (fun r23 s24 => (r17 = 0 → vz r17 ∧ post r17 0 v_set v_shifted s24 s19) ∧ (¬ r17 = 0 → (x1 = 0 → vz r17 ∧ post r17 0 v_set v_shifted s24 s19) ∧ (¬ x1 = 0 → vz r17 ∧ post r17 1 v_set v_shifted s24 s19))) s18)) v_strip_count f_strip_items s2 f_told_items)) v_strip_count) v_told_count
abbrev rm_Re_isReadable : Room := { frames := 5, cells := 0, slots := 0, locals := 117 }
set_option maxHeartbeats 4000000 in
set_option maxRecDepth 100000 in
theorem met_Re_isReadable (l : Launch) (D : va_G) (Z : (Nat → Prop) → State → Heap → Prop) (hz : zk Z) (ad : Nat → Nat) (hk : zs Z ad) (a_this : Nat) (a_strip : Nat) (a_strip_items : Nat) (a_told : Nat) (a_told_items : Nat) (k_strip_items : ClassId) (k_told_items : ClassId) (v_fromBack : Int32) (v_set : Int32) (v_shifted : Int32) (v_strip_count : Int32) (f_strip_items : Nat → Int32) (v_told_count : Int32) (f_told_items : Nat → Int32) (x1 : Int32) (sz : Nat) {post : Int32 → Int32 → Int32 → Int32 → Int32 → (Nat → Int32) → Prop} (hw : w_Re_isReadable post v_set v_shifted v_strip_count f_strip_items v_told_count f_told_items x1) : Met l y_Re_isReadable ws_Re_isReadable rm_Re_isReadable (va_Pc [.ref a_this, .int x1] (rw_ D vwCl [(k_strip_items, .int), (k_told_items, .int)] [(a_this, .inr (2, [.ref a_strip, .ref a_told, .int v_fromBack, .int v_set, .int v_shifted])), (a_strip, .inr (0, [.ref a_strip_items, .int v_strip_count])), (a_strip_items, .inl (k_strip_items, 800, .inl f_strip_items)), (a_told, .inr (0, [.ref a_told_items, .int v_told_count])), (a_told_items, .inl (k_told_items, 260, .inl f_told_items))] (Z) sz)) (va_Qi (fun (r : Int32) (u : Int32 × Int32 × Int32 × Int32 × (Nat → Int32)) => post r u.1 u.2.1 u.2.2.1 u.2.2.2.1 u.2.2.2.2) (fun u t => at_ D vwCl [(k_strip_items, .int), (k_told_items, .int)] (va_A [(a_this, .inr (2, [.ref a_strip, .ref a_told, .int v_fromBack, .int v_set, .int v_shifted])), (a_strip, .inr (0, [.ref a_strip_items, .int v_strip_count])), (a_strip_items, .inl (k_strip_items, 800, .inl f_strip_items)), (a_told, .inr (0, [.ref a_told_items, .int v_told_count])), (a_told_items, .inl (k_told_items, 260, .inl f_told_items))] sz) [(a_this, .inr (2, [.ref a_strip, .ref a_told, .int u.1, .int u.2.1, .int u.2.2.1])), (a_strip, .inr (0, [.ref a_strip_items, .int v_strip_count])), (a_strip_items, .inl (k_strip_items, 800, .inl f_strip_items)), (a_told, .inr (0, [.ref a_told_items, .int u.2.2.2.1])), (a_told_items, .inl (k_told_items, 260, .inl u.2.2.2.2))] t) (va_A [(a_this, .inr (2, [.ref a_strip, .ref a_told, .int v_fromBack, .int v_set, .int v_shifted])), (a_strip, .inr (0, [.ref a_strip_items, .int v_strip_count])), (a_strip_items, .inl (k_strip_items, 800, .inl f_strip_items)), (a_told, .inr (0, [.ref a_told_items, .int v_told_count])), (a_told_items, .inl (k_told_items, 260, .inl f_told_items))] sz)) 0 0 (va_A [(a_this, .inr (2, [.ref a_strip, .ref a_told, .int v_fromBack, .int v_set, .int v_shifted])), (a_strip, .inr (0, [.ref a_strip_items, .int v_strip_count])), (a_strip_items, .inl (k_strip_items, 800, .inl f_strip_items)), (a_told, .inr (0, [.ref a_told_items, .int v_told_count])), (a_told_items, .inl (k_told_items, 260, .inl f_told_items))] sz) := by
  refine Met.ofW (cc := c_Re_isReadable) (maxL := 3) (ret := (some .boolean)) (by decide) rfl ?_
  intro p e s m args below meth c s₁ B hml hv
  obtain ⟨rfl, hsz, hP, hK, hD0, hZ⟩ := hv
  have hx := B.exec
  have hb := B.bytes
  have hr := B.returns
  have hts0 := atoms_spec (ws := ws_Re_isReadable) B.pre
  have hts := fun (w : Cond) (h : w ∈ tb) => hts0 w (List.mem_cons_of_mem _ h)
  have hown : s.vm.findClass R_Re = some m.cls := findClass_of_methodNamed B.named
  have hlocks := B.notSynchronized
  subst hsz
  have hD := hD0.self (sz := s.heap.size)
  generalize hAe : va_A [(a_this, .inr (2, [.ref a_strip, .ref a_told, .int v_fromBack, .int v_set, .int v_shifted])), (a_strip, .inr (0, [.ref a_strip_items, .int v_strip_count])), (a_strip_items, .inl (k_strip_items, 800, .inl f_strip_items)), (a_told, .inr (0, [.ref a_told_items, .int v_told_count])), (a_told_items, .inl (k_told_items, 260, .inl f_told_items))] s.heap.size = A at hD hZ ⊢
  have hA : ∀ q : Nat, s.heap.size ≤ q → A q := fun q h => by rw [← hAe]; exact Or.inr h
  have hS : va_S A s.heap s.heap [] := va_S.rf
  have hl := lv_entry ([.ref a_this, .int x1]) (n := 3) (Nat.le_of_ble_eq_true rfl)
  rw [lg_entry_eq]
  generalize (lg_sl ([.ref a_this, .int x1]) ++ List.replicate (3 - (lg_sl ([.ref a_this, .int x1])).length) Slot.unset).toArray = ls at hl ⊢
  have hl : lv_has ls 3 [(0, .ref a_this), (1, .int x1)] := hl
  unfold w_Re_isReadable at hw
  refine lv_aload_n hx hb d_Re_isReadable_0 rfl (lv_at hl 0 rfl) ?_
  refine va_get (D := D) (ci := 2) (v := .ref a_told) (C := R_Re) (T := T_Re) (N := 5) hx hb hts in_Re hown hK hP 0 rfl rfl 1 (by decide) (hts _ mm_106) (fun _ h9 => h9) rfl d_Re_isReadable_1 ?_
  refine k_rwVi (As := []) (rest := []) (wr := [(a_this, .inr (2, [.ref a_strip, .ref a_told, .int v_fromBack, .int v_set, .int v_shifted])), (a_strip, .inr (0, [.ref a_strip_items, .int v_strip_count])), (a_strip_items, .inl (k_strip_items, 800, .inl f_strip_items))]) hz [3, 4] [0, 1, 2] [1] 3 0 ⟨hx, hb, hml, hown, hts⟩ (met_It_empty l D Z hz ad hk a_told a_told_items k_told_items 260 v_told_count f_told_items _ hw) (cwV 0 hts (g_V mm_259 mm_142 mm_143 mm_42 mm_144) rfl rfl rfl hd_It_empty ⟨Nat.le_of_ble_eq_true rfl, Nat.le_of_ble_eq_true rfl⟩) hP hD hK hZ hS hA rfl rfl rfl rfl rfl (by decide) rfl rfl rfl rfl hl.1 rfl (Nat.le_of_ble_eq_true rfl) d_Re_isReadable_4 ⟨Nat.le_of_ble_eq_true rfl, Nat.le_of_ble_eq_true rfl⟩ (fun r1 s2 H locs hw hP hD hS => ?_)
  try dsimp only at hw
  have hP : va_P D vwCl [(a_this, .inr (2, [.ref a_strip, .ref a_told, .int v_fromBack, .int v_set, .int v_shifted])), (a_strip, .inr (0, [.ref a_strip_items, .int v_strip_count])), (a_strip_items, .inl (k_strip_items, 800, .inl f_strip_items)), (a_told, .inr (0, [.ref a_told_items, .int s2])), (a_told_items, .inl (k_told_items, 260, .inl f_told_items))] H := hP
  have hD : va_D A [(a_this, .inr (2, [.ref a_strip, .ref a_told, .int v_fromBack, .int v_set, .int v_shifted])), (a_strip, .inr (0, [.ref a_strip_items, .int v_strip_count])), (a_strip_items, .inl (k_strip_items, 800, .inl f_strip_items)), (a_told, .inr (0, [.ref a_told_items, .int s2])), (a_told_items, .inl (k_told_items, 260, .inl f_told_items))] := hD
  refine lv_pop hx hb d_Re_isReadable_7 rfl ?_
  refine lv_aload_n hx hb d_Re_isReadable_8 rfl (lv_at hl 0 rfl) ?_
  refine va_get (D := D) (ci := 2) (v := .ref a_strip) (C := R_Re) (T := T_Re) (N := 5) hx hb hts in_Re hown hK hP 0 rfl rfl 0 (by decide) (hts _ mm_105) (fun _ h9 => h9) rfl d_Re_isReadable_9 ?_
  refine k_roVi (As := []) (rest := []) hz [1, 2] [0] 1 0 ⟨hx, hb, hml, hown, hts⟩ (met_It_count l D Z hz ad hk a_strip a_strip_items k_strip_items 800 v_strip_count f_strip_items hw) (cwV 0 hts (g_V mm_260 mm_154 mm_155 mm_42 mm_156) rfl rfl rfl hd_It_count ⟨Nat.le_of_ble_eq_true rfl, Nat.le_of_ble_eq_true rfl⟩) hP hK hZ hS rfl rfl rfl rfl rfl hl.1 rfl (Nat.le_of_ble_eq_true rfl) d_Re_isReadable_12 ⟨Nat.le_of_ble_eq_true rfl, Nat.le_of_ble_eq_true rfl⟩ (fun r3 hw => ?_)
  refine lv_bipush (v := 59) hx hb d_Re_isReadable_15 (by decide) ?_
  refine lv_icmp_ne (tgt := 27) hx hb d_Re_isReadable_17 (by decide) (fun c4 => ?_) (fun c4 => ?_)
  · have hw := hw.1 c4
    refine lv_aload_n hx hb d_Re_isReadable_27 rfl (lv_at hl 0 rfl) ?_
    refine k_rwVi (As := []) (rest := []) (wr := []) hz [0, 1, 2, 3, 4] [] [0, 1] 0 2 ⟨hx, hb, hml, hown, hts⟩ (met_Re_isRow l D Z hz ad hk a_this a_strip a_strip_items a_told a_told_items k_strip_items k_told_items v_fromBack v_set v_shifted v_strip_count f_strip_items s2 f_told_items _ hw) (cwV 0 hts (g_V mm_311 mm_313 mm_16 mm_45 mm_314) rfl rfl rfl hd_Re_isRow ⟨Nat.le_of_ble_eq_true rfl, Nat.le_of_ble_eq_true rfl⟩) hP hD hK hZ hS hA rfl rfl rfl rfl rfl (by decide) rfl rfl rfl rfl hl.1 rfl (Nat.le_of_ble_eq_true rfl) d_Re_isReadable_28 ⟨Nat.le_of_ble_eq_true rfl, Nat.le_of_ble_eq_true rfl⟩ (fun r5 u9 H locs hw hP hD hS => ?_)
    obtain ⟨s6, s7, s8, s9⟩ := u9
    try dsimp only at hw
    have hP : va_P D vwCl [(a_this, .inr (2, [.ref a_strip, .ref a_told, .int v_fromBack, .int s6, .int s7])), (a_strip, .inr (0, [.ref a_strip_items, .int v_strip_count])), (a_strip_items, .inl (k_strip_items, 800, .inl f_strip_items)), (a_told, .inr (0, [.ref a_told_items, .int s8])), (a_told_items, .inl (k_told_items, 260, .inl s9))] H := hP
    have hD : va_D A [(a_this, .inr (2, [.ref a_strip, .ref a_told, .int v_fromBack, .int s6, .int s7])), (a_strip, .inr (0, [.ref a_strip_items, .int v_strip_count])), (a_strip_items, .inl (k_strip_items, 800, .inl f_strip_items)), (a_told, .inr (0, [.ref a_told_items, .int s8])), (a_told_items, .inl (k_told_items, 260, .inl s9))] := hD
    refine lv_istore_n (lv' := [(2, .int r5), (0, .ref a_this), (1, .int x1)]) hx hb d_Re_isReadable_31 rfl hl (by decide) rfl (fun ls hl => ?_)
    refine lv_iload_n hx hb d_Re_isReadable_32 rfl (lv_at hl 0 rfl) ?_
    refine lv_if_ne (tgt := 44) hx hb d_Re_isReadable_33 (by decide) (fun c10 => ?_) (fun c10 => ?_)
    · have hw := hw.1 c10
      refine lv_aload_n hx hb d_Re_isReadable_44 rfl (lv_at hl 1 rfl) ?_
      refine lv_iload_n hx hb d_Re_isReadable_45 rfl (lv_at hl 0 rfl) ?_
      refine lv_if_eq (tgt := 57) hx hb d_Re_isReadable_46 (by decide) (fun c11 => ?_) (fun c11 => ?_)
      · have hw := hw.1 c11
        refine lv_iconst (v := 0) hx hb d_Re_isReadable_57 (by decide) ?_
        refine va_put (D := D) (ci := 2) (v := .int 0) (ty := .boolean) (C := R_Re) (T := T_Re) (N := 5) hx hb hts in_Re ty_Re tk_Re nn_Re hown hK hP hD hS 0 rfl rfl 2 (by decide) (hts _ mm_107) (fun _ h9 => h9) rfl (by decide +kernel) rfl rfl (Nat.le_of_ble_eq_true rfl) d_Re_isReadable_58 (fun H locs hP hD hS => ?_)
        have hP : va_P D vwCl [(a_this, .inr (2, [.ref a_strip, .ref a_told, .int 0, .int s6, .int s7])), (a_strip, .inr (0, [.ref a_strip_items, .int v_strip_count])), (a_strip_items, .inl (k_strip_items, 800, .inl f_strip_items)), (a_told, .inr (0, [.ref a_told_items, .int s8])), (a_told_items, .inl (k_told_items, 260, .inl s9))] H := hP
        have hD : va_D A [(a_this, .inr (2, [.ref a_strip, .ref a_told, .int 0, .int s6, .int s7])), (a_strip, .inr (0, [.ref a_strip_items, .int v_strip_count])), (a_strip_items, .inl (k_strip_items, 800, .inl f_strip_items)), (a_told, .inr (0, [.ref a_told_items, .int s8])), (a_told_items, .inl (k_told_items, 260, .inl s9))] := hD
        refine lv_iload_n hx hb d_Re_isReadable_61 rfl (lv_at hl 0 rfl) ?_
        have hz9 := hw.1
        have hw := hw.2
        have hP9 := hP.sub (ws' := [(a_this, .inr (2, [.ref a_strip, .ref a_told, .int 0, .int s6, .int s7])), (a_strip, .inr (0, [.ref a_strip_items, .int v_strip_count])), (a_strip_items, .inl (k_strip_items, 800, .inl f_strip_items)), (a_told, .inr (0, [.ref a_told_items, .int s8])), (a_told_items, .inl (k_told_items, 260, .inl s9))]) [0, 1, 2, 3, 4] rfl
        have hD9 := hD.sub (ws' := [(a_this, .inr (2, [.ref a_strip, .ref a_told, .int 0, .int s6, .int s7])), (a_strip, .inr (0, [.ref a_strip_items, .int v_strip_count])), (a_strip_items, .inl (k_strip_items, 800, .inl f_strip_items)), (a_told, .inr (0, [.ref a_told_items, .int s8])), (a_told_items, .inl (k_told_items, 260, .inl s9))]) [0, 1, 2, 3, 4] (by decide) rfl
        exact W.zret (v := r5) (ty := .boolean) hx hb hr (vz_n hz9) (fun t ht hW => ⟨⟨r5, (0, s6, s7, s8, s9), rfl, hw, by rw [ht]; exact hP9, va_K.moved hW.alike hK, hD9⟩, hS.F ht⟩) hS.2.2 d_Re_isReadable_62
      · have hw := hw.2 c11
        refine lv_iload_n hx hb d_Re_isReadable_49 rfl (lv_at hl 2 rfl) ?_
        refine lv_if_eq (tgt := 57) hx hb d_Re_isReadable_50 (by decide) (fun c12 => ?_) (fun c12 => ?_)
        · have hw := hw.1 c12
          refine lv_iconst (v := 0) hx hb d_Re_isReadable_57 (by decide) ?_
          refine va_put (D := D) (ci := 2) (v := .int 0) (ty := .boolean) (C := R_Re) (T := T_Re) (N := 5) hx hb hts in_Re ty_Re tk_Re nn_Re hown hK hP hD hS 0 rfl rfl 2 (by decide) (hts _ mm_107) (fun _ h9 => h9) rfl (by decide +kernel) rfl rfl (Nat.le_of_ble_eq_true rfl) d_Re_isReadable_58 (fun H locs hP hD hS => ?_)
          have hP : va_P D vwCl [(a_this, .inr (2, [.ref a_strip, .ref a_told, .int 0, .int s6, .int s7])), (a_strip, .inr (0, [.ref a_strip_items, .int v_strip_count])), (a_strip_items, .inl (k_strip_items, 800, .inl f_strip_items)), (a_told, .inr (0, [.ref a_told_items, .int s8])), (a_told_items, .inl (k_told_items, 260, .inl s9))] H := hP
          have hD : va_D A [(a_this, .inr (2, [.ref a_strip, .ref a_told, .int 0, .int s6, .int s7])), (a_strip, .inr (0, [.ref a_strip_items, .int v_strip_count])), (a_strip_items, .inl (k_strip_items, 800, .inl f_strip_items)), (a_told, .inr (0, [.ref a_told_items, .int s8])), (a_told_items, .inl (k_told_items, 260, .inl s9))] := hD
          refine lv_iload_n hx hb d_Re_isReadable_61 rfl (lv_at hl 0 rfl) ?_
          have hz9 := hw.1
          have hw := hw.2
          have hP9 := hP.sub (ws' := [(a_this, .inr (2, [.ref a_strip, .ref a_told, .int 0, .int s6, .int s7])), (a_strip, .inr (0, [.ref a_strip_items, .int v_strip_count])), (a_strip_items, .inl (k_strip_items, 800, .inl f_strip_items)), (a_told, .inr (0, [.ref a_told_items, .int s8])), (a_told_items, .inl (k_told_items, 260, .inl s9))]) [0, 1, 2, 3, 4] rfl
          have hD9 := hD.sub (ws' := [(a_this, .inr (2, [.ref a_strip, .ref a_told, .int 0, .int s6, .int s7])), (a_strip, .inr (0, [.ref a_strip_items, .int v_strip_count])), (a_strip_items, .inl (k_strip_items, 800, .inl f_strip_items)), (a_told, .inr (0, [.ref a_told_items, .int s8])), (a_told_items, .inl (k_told_items, 260, .inl s9))]) [0, 1, 2, 3, 4] (by decide) rfl
          exact W.zret (v := r5) (ty := .boolean) hx hb hr (vz_n hz9) (fun t ht hW => ⟨⟨r5, (0, s6, s7, s8, s9), rfl, hw, by rw [ht]; exact hP9, va_K.moved hW.alike hK, hD9⟩, hS.F ht⟩) hS.2.2 d_Re_isReadable_62
        · have hw := hw.2 c12
          refine lv_iconst (v := 1) hx hb d_Re_isReadable_53 (by decide) ?_
          refine lv_goto (tgt := 58) hx hb d_Re_isReadable_54 (by decide) ?_
          refine va_put (D := D) (ci := 2) (v := .int 1) (ty := .boolean) (C := R_Re) (T := T_Re) (N := 5) hx hb hts in_Re ty_Re tk_Re nn_Re hown hK hP hD hS 0 rfl rfl 2 (by decide) (hts _ mm_107) (fun _ h9 => h9) rfl (by decide +kernel) rfl rfl (Nat.le_of_ble_eq_true rfl) d_Re_isReadable_58 (fun H locs hP hD hS => ?_)
          have hP : va_P D vwCl [(a_this, .inr (2, [.ref a_strip, .ref a_told, .int 1, .int s6, .int s7])), (a_strip, .inr (0, [.ref a_strip_items, .int v_strip_count])), (a_strip_items, .inl (k_strip_items, 800, .inl f_strip_items)), (a_told, .inr (0, [.ref a_told_items, .int s8])), (a_told_items, .inl (k_told_items, 260, .inl s9))] H := hP
          have hD : va_D A [(a_this, .inr (2, [.ref a_strip, .ref a_told, .int 1, .int s6, .int s7])), (a_strip, .inr (0, [.ref a_strip_items, .int v_strip_count])), (a_strip_items, .inl (k_strip_items, 800, .inl f_strip_items)), (a_told, .inr (0, [.ref a_told_items, .int s8])), (a_told_items, .inl (k_told_items, 260, .inl s9))] := hD
          refine lv_iload_n hx hb d_Re_isReadable_61 rfl (lv_at hl 0 rfl) ?_
          have hz9 := hw.1
          have hw := hw.2
          have hP9 := hP.sub (ws' := [(a_this, .inr (2, [.ref a_strip, .ref a_told, .int 1, .int s6, .int s7])), (a_strip, .inr (0, [.ref a_strip_items, .int v_strip_count])), (a_strip_items, .inl (k_strip_items, 800, .inl f_strip_items)), (a_told, .inr (0, [.ref a_told_items, .int s8])), (a_told_items, .inl (k_told_items, 260, .inl s9))]) [0, 1, 2, 3, 4] rfl
          have hD9 := hD.sub (ws' := [(a_this, .inr (2, [.ref a_strip, .ref a_told, .int 1, .int s6, .int s7])), (a_strip, .inr (0, [.ref a_strip_items, .int v_strip_count])), (a_strip_items, .inl (k_strip_items, 800, .inl f_strip_items)), (a_told, .inr (0, [.ref a_told_items, .int s8])), (a_told_items, .inl (k_told_items, 260, .inl s9))]) [0, 1, 2, 3, 4] (by decide) rfl
          exact W.zret (v := r5) (ty := .boolean) hx hb hr (vz_n hz9) (fun t ht hW => ⟨⟨r5, (1, s6, s7, s8, s9), rfl, hw, by rw [ht]; exact hP9, va_K.moved hW.alike hK, hD9⟩, hS.F ht⟩) hS.2.2 d_Re_isReadable_62
    · have hw := hw.2 c10
      refine lv_aload_n hx hb d_Re_isReadable_36 rfl (lv_at hl 1 rfl) ?_
      refine va_get (D := D) (ci := 2) (v := .ref a_told) (C := R_Re) (T := T_Re) (N := 5) hx hb hts in_Re hown hK hP 0 rfl rfl 1 (by decide) (hts _ mm_106) (fun _ h9 => h9) rfl d_Re_isReadable_37 ?_
      refine k_rwVi (As := []) (rest := []) (wr := [(a_this, .inr (2, [.ref a_strip, .ref a_told, .int v_fromBack, .int s6, .int s7])), (a_strip, .inr (0, [.ref a_strip_items, .int v_strip_count])), (a_strip_items, .inl (k_strip_items, 800, .inl f_strip_items))]) hz [3, 4] [0, 1, 2] [1] 3 0 ⟨hx, hb, hml, hown, hts⟩ (met_It_empty l D Z hz ad hk a_told a_told_items k_told_items 260 s8 s9 _ hw) (cwV 0 hts (g_V mm_259 mm_142 mm_143 mm_42 mm_144) rfl rfl rfl hd_It_empty ⟨Nat.le_of_ble_eq_true rfl, Nat.le_of_ble_eq_true rfl⟩) hP hD hK hZ hS hA rfl rfl rfl rfl rfl (by decide) rfl rfl rfl rfl hl.1 rfl (Nat.le_of_ble_eq_true rfl) d_Re_isReadable_40 ⟨Nat.le_of_ble_eq_true rfl, Nat.le_of_ble_eq_true rfl⟩ (fun r13 s14 H locs hw hP hD hS => ?_)
      try dsimp only at hw
      have hP : va_P D vwCl [(a_this, .inr (2, [.ref a_strip, .ref a_told, .int v_fromBack, .int s6, .int s7])), (a_strip, .inr (0, [.ref a_strip_items, .int v_strip_count])), (a_strip_items, .inl (k_strip_items, 800, .inl f_strip_items)), (a_told, .inr (0, [.ref a_told_items, .int s14])), (a_told_items, .inl (k_told_items, 260, .inl s9))] H := hP
      have hD : va_D A [(a_this, .inr (2, [.ref a_strip, .ref a_told, .int v_fromBack, .int s6, .int s7])), (a_strip, .inr (0, [.ref a_strip_items, .int v_strip_count])), (a_strip_items, .inl (k_strip_items, 800, .inl f_strip_items)), (a_told, .inr (0, [.ref a_told_items, .int s14])), (a_told_items, .inl (k_told_items, 260, .inl s9))] := hD
      refine lv_pop hx hb d_Re_isReadable_43 rfl ?_
      refine lv_aload_n hx hb d_Re_isReadable_44 rfl (lv_at hl 1 rfl) ?_
      refine lv_iload_n hx hb d_Re_isReadable_45 rfl (lv_at hl 0 rfl) ?_
      refine lv_if_eq (tgt := 57) hx hb d_Re_isReadable_46 (by decide) (fun c15 => ?_) (fun c15 => ?_)
      · have hw := hw.1 c15
        refine lv_iconst (v := 0) hx hb d_Re_isReadable_57 (by decide) ?_
        refine va_put (D := D) (ci := 2) (v := .int 0) (ty := .boolean) (C := R_Re) (T := T_Re) (N := 5) hx hb hts in_Re ty_Re tk_Re nn_Re hown hK hP hD hS 0 rfl rfl 2 (by decide) (hts _ mm_107) (fun _ h9 => h9) rfl (by decide +kernel) rfl rfl (Nat.le_of_ble_eq_true rfl) d_Re_isReadable_58 (fun H locs hP hD hS => ?_)
        have hP : va_P D vwCl [(a_this, .inr (2, [.ref a_strip, .ref a_told, .int 0, .int s6, .int s7])), (a_strip, .inr (0, [.ref a_strip_items, .int v_strip_count])), (a_strip_items, .inl (k_strip_items, 800, .inl f_strip_items)), (a_told, .inr (0, [.ref a_told_items, .int s14])), (a_told_items, .inl (k_told_items, 260, .inl s9))] H := hP
        have hD : va_D A [(a_this, .inr (2, [.ref a_strip, .ref a_told, .int 0, .int s6, .int s7])), (a_strip, .inr (0, [.ref a_strip_items, .int v_strip_count])), (a_strip_items, .inl (k_strip_items, 800, .inl f_strip_items)), (a_told, .inr (0, [.ref a_told_items, .int s14])), (a_told_items, .inl (k_told_items, 260, .inl s9))] := hD
        refine lv_iload_n hx hb d_Re_isReadable_61 rfl (lv_at hl 0 rfl) ?_
        have hz9 := hw.1
        have hw := hw.2
        have hP9 := hP.sub (ws' := [(a_this, .inr (2, [.ref a_strip, .ref a_told, .int 0, .int s6, .int s7])), (a_strip, .inr (0, [.ref a_strip_items, .int v_strip_count])), (a_strip_items, .inl (k_strip_items, 800, .inl f_strip_items)), (a_told, .inr (0, [.ref a_told_items, .int s14])), (a_told_items, .inl (k_told_items, 260, .inl s9))]) [0, 1, 2, 3, 4] rfl
        have hD9 := hD.sub (ws' := [(a_this, .inr (2, [.ref a_strip, .ref a_told, .int 0, .int s6, .int s7])), (a_strip, .inr (0, [.ref a_strip_items, .int v_strip_count])), (a_strip_items, .inl (k_strip_items, 800, .inl f_strip_items)), (a_told, .inr (0, [.ref a_told_items, .int s14])), (a_told_items, .inl (k_told_items, 260, .inl s9))]) [0, 1, 2, 3, 4] (by decide) rfl
        exact W.zret (v := r5) (ty := .boolean) hx hb hr (vz_n hz9) (fun t ht hW => ⟨⟨r5, (0, s6, s7, s14, s9), rfl, hw, by rw [ht]; exact hP9, va_K.moved hW.alike hK, hD9⟩, hS.F ht⟩) hS.2.2 d_Re_isReadable_62
      · have hw := hw.2 c15
        refine lv_iload_n hx hb d_Re_isReadable_49 rfl (lv_at hl 2 rfl) ?_
        refine lv_if_eq (tgt := 57) hx hb d_Re_isReadable_50 (by decide) (fun c16 => ?_) (fun c16 => ?_)
        · have hw := hw.1 c16
          refine lv_iconst (v := 0) hx hb d_Re_isReadable_57 (by decide) ?_
          refine va_put (D := D) (ci := 2) (v := .int 0) (ty := .boolean) (C := R_Re) (T := T_Re) (N := 5) hx hb hts in_Re ty_Re tk_Re nn_Re hown hK hP hD hS 0 rfl rfl 2 (by decide) (hts _ mm_107) (fun _ h9 => h9) rfl (by decide +kernel) rfl rfl (Nat.le_of_ble_eq_true rfl) d_Re_isReadable_58 (fun H locs hP hD hS => ?_)
          have hP : va_P D vwCl [(a_this, .inr (2, [.ref a_strip, .ref a_told, .int 0, .int s6, .int s7])), (a_strip, .inr (0, [.ref a_strip_items, .int v_strip_count])), (a_strip_items, .inl (k_strip_items, 800, .inl f_strip_items)), (a_told, .inr (0, [.ref a_told_items, .int s14])), (a_told_items, .inl (k_told_items, 260, .inl s9))] H := hP
          have hD : va_D A [(a_this, .inr (2, [.ref a_strip, .ref a_told, .int 0, .int s6, .int s7])), (a_strip, .inr (0, [.ref a_strip_items, .int v_strip_count])), (a_strip_items, .inl (k_strip_items, 800, .inl f_strip_items)), (a_told, .inr (0, [.ref a_told_items, .int s14])), (a_told_items, .inl (k_told_items, 260, .inl s9))] := hD
          refine lv_iload_n hx hb d_Re_isReadable_61 rfl (lv_at hl 0 rfl) ?_
          have hz9 := hw.1
          have hw := hw.2
          have hP9 := hP.sub (ws' := [(a_this, .inr (2, [.ref a_strip, .ref a_told, .int 0, .int s6, .int s7])), (a_strip, .inr (0, [.ref a_strip_items, .int v_strip_count])), (a_strip_items, .inl (k_strip_items, 800, .inl f_strip_items)), (a_told, .inr (0, [.ref a_told_items, .int s14])), (a_told_items, .inl (k_told_items, 260, .inl s9))]) [0, 1, 2, 3, 4] rfl
          have hD9 := hD.sub (ws' := [(a_this, .inr (2, [.ref a_strip, .ref a_told, .int 0, .int s6, .int s7])), (a_strip, .inr (0, [.ref a_strip_items, .int v_strip_count])), (a_strip_items, .inl (k_strip_items, 800, .inl f_strip_items)), (a_told, .inr (0, [.ref a_told_items, .int s14])), (a_told_items, .inl (k_told_items, 260, .inl s9))]) [0, 1, 2, 3, 4] (by decide) rfl
          exact W.zret (v := r5) (ty := .boolean) hx hb hr (vz_n hz9) (fun t ht hW => ⟨⟨r5, (0, s6, s7, s14, s9), rfl, hw, by rw [ht]; exact hP9, va_K.moved hW.alike hK, hD9⟩, hS.F ht⟩) hS.2.2 d_Re_isReadable_62
        · have hw := hw.2 c16
          refine lv_iconst (v := 1) hx hb d_Re_isReadable_53 (by decide) ?_
          refine lv_goto (tgt := 58) hx hb d_Re_isReadable_54 (by decide) ?_
          refine va_put (D := D) (ci := 2) (v := .int 1) (ty := .boolean) (C := R_Re) (T := T_Re) (N := 5) hx hb hts in_Re ty_Re tk_Re nn_Re hown hK hP hD hS 0 rfl rfl 2 (by decide) (hts _ mm_107) (fun _ h9 => h9) rfl (by decide +kernel) rfl rfl (Nat.le_of_ble_eq_true rfl) d_Re_isReadable_58 (fun H locs hP hD hS => ?_)
          have hP : va_P D vwCl [(a_this, .inr (2, [.ref a_strip, .ref a_told, .int 1, .int s6, .int s7])), (a_strip, .inr (0, [.ref a_strip_items, .int v_strip_count])), (a_strip_items, .inl (k_strip_items, 800, .inl f_strip_items)), (a_told, .inr (0, [.ref a_told_items, .int s14])), (a_told_items, .inl (k_told_items, 260, .inl s9))] H := hP
          have hD : va_D A [(a_this, .inr (2, [.ref a_strip, .ref a_told, .int 1, .int s6, .int s7])), (a_strip, .inr (0, [.ref a_strip_items, .int v_strip_count])), (a_strip_items, .inl (k_strip_items, 800, .inl f_strip_items)), (a_told, .inr (0, [.ref a_told_items, .int s14])), (a_told_items, .inl (k_told_items, 260, .inl s9))] := hD
          refine lv_iload_n hx hb d_Re_isReadable_61 rfl (lv_at hl 0 rfl) ?_
          have hz9 := hw.1
          have hw := hw.2
          have hP9 := hP.sub (ws' := [(a_this, .inr (2, [.ref a_strip, .ref a_told, .int 1, .int s6, .int s7])), (a_strip, .inr (0, [.ref a_strip_items, .int v_strip_count])), (a_strip_items, .inl (k_strip_items, 800, .inl f_strip_items)), (a_told, .inr (0, [.ref a_told_items, .int s14])), (a_told_items, .inl (k_told_items, 260, .inl s9))]) [0, 1, 2, 3, 4] rfl
          have hD9 := hD.sub (ws' := [(a_this, .inr (2, [.ref a_strip, .ref a_told, .int 1, .int s6, .int s7])), (a_strip, .inr (0, [.ref a_strip_items, .int v_strip_count])), (a_strip_items, .inl (k_strip_items, 800, .inl f_strip_items)), (a_told, .inr (0, [.ref a_told_items, .int s14])), (a_told_items, .inl (k_told_items, 260, .inl s9))]) [0, 1, 2, 3, 4] (by decide) rfl
          exact W.zret (v := r5) (ty := .boolean) hx hb hr (vz_n hz9) (fun t ht hW => ⟨⟨r5, (1, s6, s7, s14, s9), rfl, hw, by rw [ht]; exact hP9, va_K.moved hW.alike hK, hD9⟩, hS.F ht⟩) hS.2.2 d_Re_isReadable_62
  · have hw := hw.2 c4
    refine lv_aload_n hx hb d_Re_isReadable_20 rfl (lv_at hl 0 rfl) ?_
    refine k_rwVi (As := []) (rest := []) (wr := []) hz [0, 1, 2, 3, 4] [] [0, 1] 0 2 ⟨hx, hb, hml, hown, hts⟩ (met_Re_isThirteen l D Z hz ad hk a_this a_strip a_strip_items a_told a_told_items k_strip_items k_told_items v_fromBack v_set v_shifted v_strip_count f_strip_items s2 f_told_items _ hw) (cwV 0 hts (g_V mm_261 mm_263 mm_9 mm_45 mm_264) rfl rfl rfl hd_Re_isThirteen ⟨Nat.le_of_ble_eq_true rfl, Nat.le_of_ble_eq_true rfl⟩) hP hD hK hZ hS hA rfl rfl rfl rfl rfl (by decide) rfl rfl rfl rfl hl.1 rfl (Nat.le_of_ble_eq_true rfl) d_Re_isReadable_21 ⟨Nat.le_of_ble_eq_true rfl, Nat.le_of_ble_eq_true rfl⟩ (fun r17 u9 H locs hw hP hD hS => ?_)
    obtain ⟨s18, s19⟩ := u9
    try dsimp only at hw
    have hP : va_P D vwCl [(a_this, .inr (2, [.ref a_strip, .ref a_told, .int v_fromBack, .int v_set, .int v_shifted])), (a_strip, .inr (0, [.ref a_strip_items, .int v_strip_count])), (a_strip_items, .inl (k_strip_items, 800, .inl f_strip_items)), (a_told, .inr (0, [.ref a_told_items, .int s18])), (a_told_items, .inl (k_told_items, 260, .inl s19))] H := hP
    have hD : va_D A [(a_this, .inr (2, [.ref a_strip, .ref a_told, .int v_fromBack, .int v_set, .int v_shifted])), (a_strip, .inr (0, [.ref a_strip_items, .int v_strip_count])), (a_strip_items, .inl (k_strip_items, 800, .inl f_strip_items)), (a_told, .inr (0, [.ref a_told_items, .int s18])), (a_told_items, .inl (k_told_items, 260, .inl s19))] := hD
    refine lv_goto (tgt := 31) hx hb d_Re_isReadable_24 (by decide) ?_
    refine lv_istore_n (lv' := [(2, .int r17), (0, .ref a_this), (1, .int x1)]) hx hb d_Re_isReadable_31 rfl hl (by decide) rfl (fun ls hl => ?_)
    refine lv_iload_n hx hb d_Re_isReadable_32 rfl (lv_at hl 0 rfl) ?_
    refine lv_if_ne (tgt := 44) hx hb d_Re_isReadable_33 (by decide) (fun c20 => ?_) (fun c20 => ?_)
    · have hw := hw.1 c20
      refine lv_aload_n hx hb d_Re_isReadable_44 rfl (lv_at hl 1 rfl) ?_
      refine lv_iload_n hx hb d_Re_isReadable_45 rfl (lv_at hl 0 rfl) ?_
      refine lv_if_eq (tgt := 57) hx hb d_Re_isReadable_46 (by decide) (fun c21 => ?_) (fun c21 => ?_)
      · have hw := hw.1 c21
        refine lv_iconst (v := 0) hx hb d_Re_isReadable_57 (by decide) ?_
        refine va_put (D := D) (ci := 2) (v := .int 0) (ty := .boolean) (C := R_Re) (T := T_Re) (N := 5) hx hb hts in_Re ty_Re tk_Re nn_Re hown hK hP hD hS 0 rfl rfl 2 (by decide) (hts _ mm_107) (fun _ h9 => h9) rfl (by decide +kernel) rfl rfl (Nat.le_of_ble_eq_true rfl) d_Re_isReadable_58 (fun H locs hP hD hS => ?_)
        have hP : va_P D vwCl [(a_this, .inr (2, [.ref a_strip, .ref a_told, .int 0, .int v_set, .int v_shifted])), (a_strip, .inr (0, [.ref a_strip_items, .int v_strip_count])), (a_strip_items, .inl (k_strip_items, 800, .inl f_strip_items)), (a_told, .inr (0, [.ref a_told_items, .int s18])), (a_told_items, .inl (k_told_items, 260, .inl s19))] H := hP
        have hD : va_D A [(a_this, .inr (2, [.ref a_strip, .ref a_told, .int 0, .int v_set, .int v_shifted])), (a_strip, .inr (0, [.ref a_strip_items, .int v_strip_count])), (a_strip_items, .inl (k_strip_items, 800, .inl f_strip_items)), (a_told, .inr (0, [.ref a_told_items, .int s18])), (a_told_items, .inl (k_told_items, 260, .inl s19))] := hD
        refine lv_iload_n hx hb d_Re_isReadable_61 rfl (lv_at hl 0 rfl) ?_
        have hz9 := hw.1
        have hw := hw.2
        have hP9 := hP.sub (ws' := [(a_this, .inr (2, [.ref a_strip, .ref a_told, .int 0, .int v_set, .int v_shifted])), (a_strip, .inr (0, [.ref a_strip_items, .int v_strip_count])), (a_strip_items, .inl (k_strip_items, 800, .inl f_strip_items)), (a_told, .inr (0, [.ref a_told_items, .int s18])), (a_told_items, .inl (k_told_items, 260, .inl s19))]) [0, 1, 2, 3, 4] rfl
        have hD9 := hD.sub (ws' := [(a_this, .inr (2, [.ref a_strip, .ref a_told, .int 0, .int v_set, .int v_shifted])), (a_strip, .inr (0, [.ref a_strip_items, .int v_strip_count])), (a_strip_items, .inl (k_strip_items, 800, .inl f_strip_items)), (a_told, .inr (0, [.ref a_told_items, .int s18])), (a_told_items, .inl (k_told_items, 260, .inl s19))]) [0, 1, 2, 3, 4] (by decide) rfl
        exact W.zret (v := r17) (ty := .boolean) hx hb hr (vz_n hz9) (fun t ht hW => ⟨⟨r17, (0, v_set, v_shifted, s18, s19), rfl, hw, by rw [ht]; exact hP9, va_K.moved hW.alike hK, hD9⟩, hS.F ht⟩) hS.2.2 d_Re_isReadable_62
      · have hw := hw.2 c21
        refine lv_iload_n hx hb d_Re_isReadable_49 rfl (lv_at hl 2 rfl) ?_
        refine lv_if_eq (tgt := 57) hx hb d_Re_isReadable_50 (by decide) (fun c22 => ?_) (fun c22 => ?_)
        · have hw := hw.1 c22
          refine lv_iconst (v := 0) hx hb d_Re_isReadable_57 (by decide) ?_
          refine va_put (D := D) (ci := 2) (v := .int 0) (ty := .boolean) (C := R_Re) (T := T_Re) (N := 5) hx hb hts in_Re ty_Re tk_Re nn_Re hown hK hP hD hS 0 rfl rfl 2 (by decide) (hts _ mm_107) (fun _ h9 => h9) rfl (by decide +kernel) rfl rfl (Nat.le_of_ble_eq_true rfl) d_Re_isReadable_58 (fun H locs hP hD hS => ?_)
          have hP : va_P D vwCl [(a_this, .inr (2, [.ref a_strip, .ref a_told, .int 0, .int v_set, .int v_shifted])), (a_strip, .inr (0, [.ref a_strip_items, .int v_strip_count])), (a_strip_items, .inl (k_strip_items, 800, .inl f_strip_items)), (a_told, .inr (0, [.ref a_told_items, .int s18])), (a_told_items, .inl (k_told_items, 260, .inl s19))] H := hP
          have hD : va_D A [(a_this, .inr (2, [.ref a_strip, .ref a_told, .int 0, .int v_set, .int v_shifted])), (a_strip, .inr (0, [.ref a_strip_items, .int v_strip_count])), (a_strip_items, .inl (k_strip_items, 800, .inl f_strip_items)), (a_told, .inr (0, [.ref a_told_items, .int s18])), (a_told_items, .inl (k_told_items, 260, .inl s19))] := hD
          refine lv_iload_n hx hb d_Re_isReadable_61 rfl (lv_at hl 0 rfl) ?_
          have hz9 := hw.1
          have hw := hw.2
          have hP9 := hP.sub (ws' := [(a_this, .inr (2, [.ref a_strip, .ref a_told, .int 0, .int v_set, .int v_shifted])), (a_strip, .inr (0, [.ref a_strip_items, .int v_strip_count])), (a_strip_items, .inl (k_strip_items, 800, .inl f_strip_items)), (a_told, .inr (0, [.ref a_told_items, .int s18])), (a_told_items, .inl (k_told_items, 260, .inl s19))]) [0, 1, 2, 3, 4] rfl
          have hD9 := hD.sub (ws' := [(a_this, .inr (2, [.ref a_strip, .ref a_told, .int 0, .int v_set, .int v_shifted])), (a_strip, .inr (0, [.ref a_strip_items, .int v_strip_count])), (a_strip_items, .inl (k_strip_items, 800, .inl f_strip_items)), (a_told, .inr (0, [.ref a_told_items, .int s18])), (a_told_items, .inl (k_told_items, 260, .inl s19))]) [0, 1, 2, 3, 4] (by decide) rfl
          exact W.zret (v := r17) (ty := .boolean) hx hb hr (vz_n hz9) (fun t ht hW => ⟨⟨r17, (0, v_set, v_shifted, s18, s19), rfl, hw, by rw [ht]; exact hP9, va_K.moved hW.alike hK, hD9⟩, hS.F ht⟩) hS.2.2 d_Re_isReadable_62
        · have hw := hw.2 c22
          refine lv_iconst (v := 1) hx hb d_Re_isReadable_53 (by decide) ?_
          refine lv_goto (tgt := 58) hx hb d_Re_isReadable_54 (by decide) ?_
          refine va_put (D := D) (ci := 2) (v := .int 1) (ty := .boolean) (C := R_Re) (T := T_Re) (N := 5) hx hb hts in_Re ty_Re tk_Re nn_Re hown hK hP hD hS 0 rfl rfl 2 (by decide) (hts _ mm_107) (fun _ h9 => h9) rfl (by decide +kernel) rfl rfl (Nat.le_of_ble_eq_true rfl) d_Re_isReadable_58 (fun H locs hP hD hS => ?_)
          have hP : va_P D vwCl [(a_this, .inr (2, [.ref a_strip, .ref a_told, .int 1, .int v_set, .int v_shifted])), (a_strip, .inr (0, [.ref a_strip_items, .int v_strip_count])), (a_strip_items, .inl (k_strip_items, 800, .inl f_strip_items)), (a_told, .inr (0, [.ref a_told_items, .int s18])), (a_told_items, .inl (k_told_items, 260, .inl s19))] H := hP
          have hD : va_D A [(a_this, .inr (2, [.ref a_strip, .ref a_told, .int 1, .int v_set, .int v_shifted])), (a_strip, .inr (0, [.ref a_strip_items, .int v_strip_count])), (a_strip_items, .inl (k_strip_items, 800, .inl f_strip_items)), (a_told, .inr (0, [.ref a_told_items, .int s18])), (a_told_items, .inl (k_told_items, 260, .inl s19))] := hD
          refine lv_iload_n hx hb d_Re_isReadable_61 rfl (lv_at hl 0 rfl) ?_
          have hz9 := hw.1
          have hw := hw.2
          have hP9 := hP.sub (ws' := [(a_this, .inr (2, [.ref a_strip, .ref a_told, .int 1, .int v_set, .int v_shifted])), (a_strip, .inr (0, [.ref a_strip_items, .int v_strip_count])), (a_strip_items, .inl (k_strip_items, 800, .inl f_strip_items)), (a_told, .inr (0, [.ref a_told_items, .int s18])), (a_told_items, .inl (k_told_items, 260, .inl s19))]) [0, 1, 2, 3, 4] rfl
          have hD9 := hD.sub (ws' := [(a_this, .inr (2, [.ref a_strip, .ref a_told, .int 1, .int v_set, .int v_shifted])), (a_strip, .inr (0, [.ref a_strip_items, .int v_strip_count])), (a_strip_items, .inl (k_strip_items, 800, .inl f_strip_items)), (a_told, .inr (0, [.ref a_told_items, .int s18])), (a_told_items, .inl (k_told_items, 260, .inl s19))]) [0, 1, 2, 3, 4] (by decide) rfl
          exact W.zret (v := r17) (ty := .boolean) hx hb hr (vz_n hz9) (fun t ht hW => ⟨⟨r17, (1, v_set, v_shifted, s18, s19), rfl, hw, by rw [ht]; exact hP9, va_K.moved hW.alike hK, hD9⟩, hS.F ht⟩) hS.2.2 d_Re_isReadable_62
    · have hw := hw.2 c20
      refine lv_aload_n hx hb d_Re_isReadable_36 rfl (lv_at hl 1 rfl) ?_
      refine va_get (D := D) (ci := 2) (v := .ref a_told) (C := R_Re) (T := T_Re) (N := 5) hx hb hts in_Re hown hK hP 0 rfl rfl 1 (by decide) (hts _ mm_106) (fun _ h9 => h9) rfl d_Re_isReadable_37 ?_
      refine k_rwVi (As := []) (rest := []) (wr := [(a_this, .inr (2, [.ref a_strip, .ref a_told, .int v_fromBack, .int v_set, .int v_shifted])), (a_strip, .inr (0, [.ref a_strip_items, .int v_strip_count])), (a_strip_items, .inl (k_strip_items, 800, .inl f_strip_items))]) hz [3, 4] [0, 1, 2] [1] 3 0 ⟨hx, hb, hml, hown, hts⟩ (met_It_empty l D Z hz ad hk a_told a_told_items k_told_items 260 s18 s19 _ hw) (cwV 0 hts (g_V mm_259 mm_142 mm_143 mm_42 mm_144) rfl rfl rfl hd_It_empty ⟨Nat.le_of_ble_eq_true rfl, Nat.le_of_ble_eq_true rfl⟩) hP hD hK hZ hS hA rfl rfl rfl rfl rfl (by decide) rfl rfl rfl rfl hl.1 rfl (Nat.le_of_ble_eq_true rfl) d_Re_isReadable_40 ⟨Nat.le_of_ble_eq_true rfl, Nat.le_of_ble_eq_true rfl⟩ (fun r23 s24 H locs hw hP hD hS => ?_)
      try dsimp only at hw
      have hP : va_P D vwCl [(a_this, .inr (2, [.ref a_strip, .ref a_told, .int v_fromBack, .int v_set, .int v_shifted])), (a_strip, .inr (0, [.ref a_strip_items, .int v_strip_count])), (a_strip_items, .inl (k_strip_items, 800, .inl f_strip_items)), (a_told, .inr (0, [.ref a_told_items, .int s24])), (a_told_items, .inl (k_told_items, 260, .inl s19))] H := hP
      have hD : va_D A [(a_this, .inr (2, [.ref a_strip, .ref a_told, .int v_fromBack, .int v_set, .int v_shifted])), (a_strip, .inr (0, [.ref a_strip_items, .int v_strip_count])), (a_strip_items, .inl (k_strip_items, 800, .inl f_strip_items)), (a_told, .inr (0, [.ref a_told_items, .int s24])), (a_told_items, .inl (k_told_items, 260, .inl s19))] := hD
      refine lv_pop hx hb d_Re_isReadable_43 rfl ?_
      refine lv_aload_n hx hb d_Re_isReadable_44 rfl (lv_at hl 1 rfl) ?_
      refine lv_iload_n hx hb d_Re_isReadable_45 rfl (lv_at hl 0 rfl) ?_
      refine lv_if_eq (tgt := 57) hx hb d_Re_isReadable_46 (by decide) (fun c25 => ?_) (fun c25 => ?_)
      · have hw := hw.1 c25
        refine lv_iconst (v := 0) hx hb d_Re_isReadable_57 (by decide) ?_
        refine va_put (D := D) (ci := 2) (v := .int 0) (ty := .boolean) (C := R_Re) (T := T_Re) (N := 5) hx hb hts in_Re ty_Re tk_Re nn_Re hown hK hP hD hS 0 rfl rfl 2 (by decide) (hts _ mm_107) (fun _ h9 => h9) rfl (by decide +kernel) rfl rfl (Nat.le_of_ble_eq_true rfl) d_Re_isReadable_58 (fun H locs hP hD hS => ?_)
        have hP : va_P D vwCl [(a_this, .inr (2, [.ref a_strip, .ref a_told, .int 0, .int v_set, .int v_shifted])), (a_strip, .inr (0, [.ref a_strip_items, .int v_strip_count])), (a_strip_items, .inl (k_strip_items, 800, .inl f_strip_items)), (a_told, .inr (0, [.ref a_told_items, .int s24])), (a_told_items, .inl (k_told_items, 260, .inl s19))] H := hP
        have hD : va_D A [(a_this, .inr (2, [.ref a_strip, .ref a_told, .int 0, .int v_set, .int v_shifted])), (a_strip, .inr (0, [.ref a_strip_items, .int v_strip_count])), (a_strip_items, .inl (k_strip_items, 800, .inl f_strip_items)), (a_told, .inr (0, [.ref a_told_items, .int s24])), (a_told_items, .inl (k_told_items, 260, .inl s19))] := hD
        refine lv_iload_n hx hb d_Re_isReadable_61 rfl (lv_at hl 0 rfl) ?_
        have hz9 := hw.1
        have hw := hw.2
        have hP9 := hP.sub (ws' := [(a_this, .inr (2, [.ref a_strip, .ref a_told, .int 0, .int v_set, .int v_shifted])), (a_strip, .inr (0, [.ref a_strip_items, .int v_strip_count])), (a_strip_items, .inl (k_strip_items, 800, .inl f_strip_items)), (a_told, .inr (0, [.ref a_told_items, .int s24])), (a_told_items, .inl (k_told_items, 260, .inl s19))]) [0, 1, 2, 3, 4] rfl
        have hD9 := hD.sub (ws' := [(a_this, .inr (2, [.ref a_strip, .ref a_told, .int 0, .int v_set, .int v_shifted])), (a_strip, .inr (0, [.ref a_strip_items, .int v_strip_count])), (a_strip_items, .inl (k_strip_items, 800, .inl f_strip_items)), (a_told, .inr (0, [.ref a_told_items, .int s24])), (a_told_items, .inl (k_told_items, 260, .inl s19))]) [0, 1, 2, 3, 4] (by decide) rfl
        exact W.zret (v := r17) (ty := .boolean) hx hb hr (vz_n hz9) (fun t ht hW => ⟨⟨r17, (0, v_set, v_shifted, s24, s19), rfl, hw, by rw [ht]; exact hP9, va_K.moved hW.alike hK, hD9⟩, hS.F ht⟩) hS.2.2 d_Re_isReadable_62
      · have hw := hw.2 c25
        refine lv_iload_n hx hb d_Re_isReadable_49 rfl (lv_at hl 2 rfl) ?_
        refine lv_if_eq (tgt := 57) hx hb d_Re_isReadable_50 (by decide) (fun c26 => ?_) (fun c26 => ?_)
        · have hw := hw.1 c26
          refine lv_iconst (v := 0) hx hb d_Re_isReadable_57 (by decide) ?_
          refine va_put (D := D) (ci := 2) (v := .int 0) (ty := .boolean) (C := R_Re) (T := T_Re) (N := 5) hx hb hts in_Re ty_Re tk_Re nn_Re hown hK hP hD hS 0 rfl rfl 2 (by decide) (hts _ mm_107) (fun _ h9 => h9) rfl (by decide +kernel) rfl rfl (Nat.le_of_ble_eq_true rfl) d_Re_isReadable_58 (fun H locs hP hD hS => ?_)
          have hP : va_P D vwCl [(a_this, .inr (2, [.ref a_strip, .ref a_told, .int 0, .int v_set, .int v_shifted])), (a_strip, .inr (0, [.ref a_strip_items, .int v_strip_count])), (a_strip_items, .inl (k_strip_items, 800, .inl f_strip_items)), (a_told, .inr (0, [.ref a_told_items, .int s24])), (a_told_items, .inl (k_told_items, 260, .inl s19))] H := hP
          have hD : va_D A [(a_this, .inr (2, [.ref a_strip, .ref a_told, .int 0, .int v_set, .int v_shifted])), (a_strip, .inr (0, [.ref a_strip_items, .int v_strip_count])), (a_strip_items, .inl (k_strip_items, 800, .inl f_strip_items)), (a_told, .inr (0, [.ref a_told_items, .int s24])), (a_told_items, .inl (k_told_items, 260, .inl s19))] := hD
          refine lv_iload_n hx hb d_Re_isReadable_61 rfl (lv_at hl 0 rfl) ?_
          have hz9 := hw.1
          have hw := hw.2
          have hP9 := hP.sub (ws' := [(a_this, .inr (2, [.ref a_strip, .ref a_told, .int 0, .int v_set, .int v_shifted])), (a_strip, .inr (0, [.ref a_strip_items, .int v_strip_count])), (a_strip_items, .inl (k_strip_items, 800, .inl f_strip_items)), (a_told, .inr (0, [.ref a_told_items, .int s24])), (a_told_items, .inl (k_told_items, 260, .inl s19))]) [0, 1, 2, 3, 4] rfl
          have hD9 := hD.sub (ws' := [(a_this, .inr (2, [.ref a_strip, .ref a_told, .int 0, .int v_set, .int v_shifted])), (a_strip, .inr (0, [.ref a_strip_items, .int v_strip_count])), (a_strip_items, .inl (k_strip_items, 800, .inl f_strip_items)), (a_told, .inr (0, [.ref a_told_items, .int s24])), (a_told_items, .inl (k_told_items, 260, .inl s19))]) [0, 1, 2, 3, 4] (by decide) rfl
          exact W.zret (v := r17) (ty := .boolean) hx hb hr (vz_n hz9) (fun t ht hW => ⟨⟨r17, (0, v_set, v_shifted, s24, s19), rfl, hw, by rw [ht]; exact hP9, va_K.moved hW.alike hK, hD9⟩, hS.F ht⟩) hS.2.2 d_Re_isReadable_62
        · have hw := hw.2 c26
          refine lv_iconst (v := 1) hx hb d_Re_isReadable_53 (by decide) ?_
          refine lv_goto (tgt := 58) hx hb d_Re_isReadable_54 (by decide) ?_
          refine va_put (D := D) (ci := 2) (v := .int 1) (ty := .boolean) (C := R_Re) (T := T_Re) (N := 5) hx hb hts in_Re ty_Re tk_Re nn_Re hown hK hP hD hS 0 rfl rfl 2 (by decide) (hts _ mm_107) (fun _ h9 => h9) rfl (by decide +kernel) rfl rfl (Nat.le_of_ble_eq_true rfl) d_Re_isReadable_58 (fun H locs hP hD hS => ?_)
          have hP : va_P D vwCl [(a_this, .inr (2, [.ref a_strip, .ref a_told, .int 1, .int v_set, .int v_shifted])), (a_strip, .inr (0, [.ref a_strip_items, .int v_strip_count])), (a_strip_items, .inl (k_strip_items, 800, .inl f_strip_items)), (a_told, .inr (0, [.ref a_told_items, .int s24])), (a_told_items, .inl (k_told_items, 260, .inl s19))] H := hP
          have hD : va_D A [(a_this, .inr (2, [.ref a_strip, .ref a_told, .int 1, .int v_set, .int v_shifted])), (a_strip, .inr (0, [.ref a_strip_items, .int v_strip_count])), (a_strip_items, .inl (k_strip_items, 800, .inl f_strip_items)), (a_told, .inr (0, [.ref a_told_items, .int s24])), (a_told_items, .inl (k_told_items, 260, .inl s19))] := hD
          refine lv_iload_n hx hb d_Re_isReadable_61 rfl (lv_at hl 0 rfl) ?_
          have hz9 := hw.1
          have hw := hw.2
          have hP9 := hP.sub (ws' := [(a_this, .inr (2, [.ref a_strip, .ref a_told, .int 1, .int v_set, .int v_shifted])), (a_strip, .inr (0, [.ref a_strip_items, .int v_strip_count])), (a_strip_items, .inl (k_strip_items, 800, .inl f_strip_items)), (a_told, .inr (0, [.ref a_told_items, .int s24])), (a_told_items, .inl (k_told_items, 260, .inl s19))]) [0, 1, 2, 3, 4] rfl
          have hD9 := hD.sub (ws' := [(a_this, .inr (2, [.ref a_strip, .ref a_told, .int 1, .int v_set, .int v_shifted])), (a_strip, .inr (0, [.ref a_strip_items, .int v_strip_count])), (a_strip_items, .inl (k_strip_items, 800, .inl f_strip_items)), (a_told, .inr (0, [.ref a_told_items, .int s24])), (a_told_items, .inl (k_told_items, 260, .inl s19))]) [0, 1, 2, 3, 4] (by decide) rfl
          exact W.zret (v := r17) (ty := .boolean) hx hb hr (vz_n hz9) (fun t ht hW => ⟨⟨r17, (1, v_set, v_shifted, s24, s19), rfl, hw, by rw [ht]; exact hP9, va_K.moved hW.alike hK, hD9⟩, hS.F ht⟩) hS.2.2 d_Re_isReadable_62
-- LineCodes$Reader.toldCount()I
def w_Re_toldCount (post : Int32 → Prop) (v_told_count : Int32) : Prop := w_It_count (fun r1 => post r1) v_told_count
abbrev rm_Re_toldCount : Room := { frames := 1, cells := 0, slots := 0, locals := 20 }
set_option maxHeartbeats 4000000 in
set_option maxRecDepth 100000 in
theorem met_Re_toldCount (l : Launch) (D : va_G) (Z : (Nat → Prop) → State → Heap → Prop) (hz : zk Z) (ad : Nat → Nat) (hk : zs Z ad) (a_this : Nat) (a_strip : Nat) (a_strip_items : Nat) (a_told : Nat) (a_told_items : Nat) (k_strip_items : ClassId) (k_told_items : ClassId) (v_fromBack : Int32) (v_set : Int32) (v_shifted : Int32) (v_strip_count : Int32) (f_strip_items : Nat → Int32) (v_told_count : Int32) (f_told_items : Nat → Int32) {post : Int32 → Prop} (hw : w_Re_toldCount post v_told_count) : Met l y_Re_toldCount ws_Re_toldCount rm_Re_toldCount (va_Pc [.ref a_this] (ro_ D vwCl [(k_strip_items, .int), (k_told_items, .int)] [(a_this, .inr (2, [.ref a_strip, .ref a_told, .int v_fromBack, .int v_set, .int v_shifted])), (a_strip, .inr (0, [.ref a_strip_items, .int v_strip_count])), (a_strip_items, .inl (k_strip_items, 800, .inl f_strip_items)), (a_told, .inr (0, [.ref a_told_items, .int v_told_count])), (a_told_items, .inl (k_told_items, 260, .inl f_told_items))] (Z))) (vp_Si post) 0 0 (fun _ => False) := by
  refine Met.ofW (cc := c_Re_toldCount) (maxL := 1) (ret := (some .int)) (by decide) rfl ?_
  intro p e s m args below meth c s₁ B hml hv
  obtain ⟨rfl, hP, hK, hZ⟩ := hv
  have hx := B.exec
  have hb := B.bytes
  have hr := B.returns
  have hts0 := atoms_spec (ws := ws_Re_toldCount) B.pre
  have hts := fun (w : Cond) (h : w ∈ tb) => hts0 w (List.mem_cons_of_mem _ h)
  have hown : s.vm.findClass R_Re = some m.cls := findClass_of_methodNamed B.named
  have hlocks := B.notSynchronized
  have hS : va_S (fun _ => False) s.heap s.heap [] := va_S.rf
  have hl := lv_entry ([.ref a_this]) (n := 1) (Nat.le_of_ble_eq_true rfl)
  rw [lg_entry_eq]
  generalize (lg_sl ([.ref a_this]) ++ List.replicate (1 - (lg_sl ([.ref a_this])).length) Slot.unset).toArray = ls at hl ⊢
  have hl : lv_has ls 1 [(0, .ref a_this)] := hl
  unfold w_Re_toldCount at hw
  refine lv_aload_n hx hb d_Re_toldCount_0 rfl (lv_at hl 0 rfl) ?_
  refine va_get (D := D) (ci := 2) (v := .ref a_told) (C := R_Re) (T := T_Re) (N := 5) hx hb hts in_Re hown hK hP 0 rfl rfl 1 (by decide) (hts _ mm_106) (fun _ h9 => h9) rfl d_Re_toldCount_1 ?_
  refine k_roVi (As := []) (rest := []) hz [3, 4] [1] 3 0 ⟨hx, hb, hml, hown, hts⟩ (met_It_count l D Z hz ad hk a_told a_told_items k_told_items 260 v_told_count f_told_items hw) (cwV 0 hts (g_V mm_260 mm_154 mm_155 mm_42 mm_156) rfl rfl rfl hd_It_count ⟨Nat.le_of_ble_eq_true rfl, Nat.le_of_ble_eq_true rfl⟩) hP hK hZ hS rfl rfl rfl rfl rfl hl.1 rfl (Nat.le_of_ble_eq_true rfl) d_Re_toldCount_4 ⟨Nat.le_of_ble_eq_true rfl, Nat.le_of_ble_eq_true rfl⟩ (fun r1 hw => ?_)
  exact W.iret (v := r1) hx hb hr (fun t ht hW => ⟨r1, rfl, hw, ht⟩) hS.2.2 d_Re_toldCount_7
-- LineCodes$Reader.toldAt(I)I
def w_Re_toldAt (post : Int32 → Prop) (v_told_count : Int32) (f_told_items : Nat → Int32) (x1 : Int32) : Prop := w_It_at (fun r1 => post r1) 260 v_told_count f_told_items x1
abbrev rm_Re_toldAt : Room := { frames := 1, cells := 0, slots := 0, locals := 21 }
set_option maxHeartbeats 4000000 in
set_option maxRecDepth 100000 in
theorem met_Re_toldAt (l : Launch) (D : va_G) (Z : (Nat → Prop) → State → Heap → Prop) (hz : zk Z) (ad : Nat → Nat) (hk : zs Z ad) (a_this : Nat) (a_strip : Nat) (a_strip_items : Nat) (a_told : Nat) (a_told_items : Nat) (k_strip_items : ClassId) (k_told_items : ClassId) (v_fromBack : Int32) (v_set : Int32) (v_shifted : Int32) (v_strip_count : Int32) (f_strip_items : Nat → Int32) (v_told_count : Int32) (f_told_items : Nat → Int32) (x1 : Int32) {post : Int32 → Prop} (hw : w_Re_toldAt post v_told_count f_told_items x1) : Met l y_Re_toldAt ws_Re_toldAt rm_Re_toldAt (va_Pc [.ref a_this, .int x1] (ro_ D vwCl [(k_strip_items, .int), (k_told_items, .int)] [(a_this, .inr (2, [.ref a_strip, .ref a_told, .int v_fromBack, .int v_set, .int v_shifted])), (a_strip, .inr (0, [.ref a_strip_items, .int v_strip_count])), (a_strip_items, .inl (k_strip_items, 800, .inl f_strip_items)), (a_told, .inr (0, [.ref a_told_items, .int v_told_count])), (a_told_items, .inl (k_told_items, 260, .inl f_told_items))] (Z))) (vp_Si post) 0 0 (fun _ => False) := by
  refine Met.ofW (cc := c_Re_toldAt) (maxL := 2) (ret := (some .int)) (by decide) rfl ?_
  intro p e s m args below meth c s₁ B hml hv
  obtain ⟨rfl, hP, hK, hZ⟩ := hv
  have hx := B.exec
  have hb := B.bytes
  have hr := B.returns
  have hts0 := atoms_spec (ws := ws_Re_toldAt) B.pre
  have hts := fun (w : Cond) (h : w ∈ tb) => hts0 w (List.mem_cons_of_mem _ h)
  have hown : s.vm.findClass R_Re = some m.cls := findClass_of_methodNamed B.named
  have hlocks := B.notSynchronized
  have hS : va_S (fun _ => False) s.heap s.heap [] := va_S.rf
  have hl := lv_entry ([.ref a_this, .int x1]) (n := 2) (Nat.le_of_ble_eq_true rfl)
  rw [lg_entry_eq]
  generalize (lg_sl ([.ref a_this, .int x1]) ++ List.replicate (2 - (lg_sl ([.ref a_this, .int x1])).length) Slot.unset).toArray = ls at hl ⊢
  have hl : lv_has ls 2 [(0, .ref a_this), (1, .int x1)] := hl
  unfold w_Re_toldAt at hw
  refine lv_aload_n hx hb d_Re_toldAt_0 rfl (lv_at hl 0 rfl) ?_
  refine va_get (D := D) (ci := 2) (v := .ref a_told) (C := R_Re) (T := T_Re) (N := 5) hx hb hts in_Re hown hK hP 0 rfl rfl 1 (by decide) (hts _ mm_106) (fun _ h9 => h9) rfl d_Re_toldAt_1 ?_
  refine lv_iload_n hx hb d_Re_toldAt_4 rfl (lv_at hl 1 rfl) ?_
  refine k_roVi (As := [.int x1]) (rest := []) hz [3, 4] [1] 3 0 ⟨hx, hb, hml, hown, hts⟩ (met_It_at l D Z hz ad hk a_told a_told_items k_told_items 260 v_told_count f_told_items x1 hw) (cwV 1 hts (g_V mm_273 mm_167 mm_168 mm_42 mm_169) rfl rfl rfl hd_It_at ⟨Nat.le_of_ble_eq_true rfl, Nat.le_of_ble_eq_true rfl⟩) hP hK hZ hS rfl rfl rfl rfl rfl hl.1 rfl (Nat.le_of_ble_eq_true rfl) d_Re_toldAt_5 ⟨Nat.le_of_ble_eq_true rfl, Nat.le_of_ble_eq_true rfl⟩ (fun r1 hw => ?_)
  exact W.iret (v := r1) hx hb hr (fun t ht hW => ⟨r1, rfl, hw, ht⟩) hS.2.2 d_Re_toldAt_8
-- LineCodes$Reader.isFromBack()Z
def w_Re_isFromBack (post : Int32 → Prop) (v_fromBack : Int32) : Prop := vz v_fromBack ∧ post v_fromBack
abbrev rm_Re_isFromBack : Room := { frames := 0, cells := 0, slots := 0, locals := 0 }
set_option maxHeartbeats 4000000 in
set_option maxRecDepth 100000 in
theorem met_Re_isFromBack (l : Launch) (D : va_G) (Z : (Nat → Prop) → State → Heap → Prop) (hz : zk Z) (ad : Nat → Nat) (hk : zs Z ad) (a_this : Nat) (a_strip : Nat) (a_strip_items : Nat) (a_told : Nat) (a_told_items : Nat) (k_strip_items : ClassId) (k_told_items : ClassId) (v_fromBack : Int32) (v_set : Int32) (v_shifted : Int32) (v_strip_count : Int32) (f_strip_items : Nat → Int32) (v_told_count : Int32) (f_told_items : Nat → Int32) {post : Int32 → Prop} (hw : w_Re_isFromBack post v_fromBack) : Met l y_Re_isFromBack ws_Re_isFromBack rm_Re_isFromBack (va_Pc [.ref a_this] (ro_ D vwCl [(k_strip_items, .int), (k_told_items, .int)] [(a_this, .inr (2, [.ref a_strip, .ref a_told, .int v_fromBack, .int v_set, .int v_shifted])), (a_strip, .inr (0, [.ref a_strip_items, .int v_strip_count])), (a_strip_items, .inl (k_strip_items, 800, .inl f_strip_items)), (a_told, .inr (0, [.ref a_told_items, .int v_told_count])), (a_told_items, .inl (k_told_items, 260, .inl f_told_items))] (Z))) (vp_Si post) 0 0 (fun _ => False) := by
  refine Met.ofW (cc := c_Re_isFromBack) (maxL := 1) (ret := (some .boolean)) (by decide) rfl ?_
  intro p e s m args below meth c s₁ B hml hv
  obtain ⟨rfl, hP, hK, hZ⟩ := hv
  have hx := B.exec
  have hb := B.bytes
  have hr := B.returns
  have hts0 := atoms_spec (ws := ws_Re_isFromBack) B.pre
  have hts := fun (w : Cond) (h : w ∈ tb) => hts0 w (List.mem_cons_of_mem _ h)
  have hown : s.vm.findClass R_Re = some m.cls := findClass_of_methodNamed B.named
  have hlocks := B.notSynchronized
  have hS : va_S (fun _ => False) s.heap s.heap [] := va_S.rf
  have hl := lv_entry ([.ref a_this]) (n := 1) (Nat.le_of_ble_eq_true rfl)
  rw [lg_entry_eq]
  generalize (lg_sl ([.ref a_this]) ++ List.replicate (1 - (lg_sl ([.ref a_this])).length) Slot.unset).toArray = ls at hl ⊢
  have hl : lv_has ls 1 [(0, .ref a_this)] := hl
  unfold w_Re_isFromBack at hw
  refine lv_aload_n hx hb d_Re_isFromBack_0 rfl (lv_at hl 0 rfl) ?_
  refine va_get (D := D) (ci := 2) (v := .int v_fromBack) (C := R_Re) (T := T_Re) (N := 5) hx hb hts in_Re hown hK hP 0 rfl rfl 2 (by decide) (hts _ mm_107) (fun _ h9 => h9) rfl d_Re_isFromBack_1 ?_
  have hz9 := hw.1
  have hw := hw.2
  exact W.zret (v := v_fromBack) (ty := .boolean) hx hb hr (vz_n hz9) (fun t ht hW => ⟨v_fromBack, rfl, hw, ht⟩) hS.2.2 d_Re_isFromBack_4
