-- LineCodes$Figures.weightOf(I)I
def w_Fi_weightOf (post : Int32 → Prop) (x0 : Int32) : Prop := (¬ (x0 - x0 / 2 * 2) = 0 → post 3) ∧ ((x0 - x0 / 2 * 2) = 0 → post 1)
abbrev rm_Fi_weightOf : Room := { frames := 0, cells := 0, slots := 0, locals := 0 }
set_option maxHeartbeats 4000000 in
set_option maxRecDepth 100000 in
theorem met_Fi_weightOf (l : Launch) (D : va_G) (Z : (Nat → Prop) → State → Heap → Prop) (hz : zk Z) (ad : Nat → Nat) (hk : zs Z ad) (x0 : Int32) {post : Int32 → Prop} (hw : w_Fi_weightOf post x0) : Met l y_Fi_weightOf ws_Fi_weightOf rm_Fi_weightOf (va_Pc [.int x0] (ro_ D vwCl [] [] (Z))) (vp_Si post) 0 0 (fun _ => False) := by
  refine Met.ofW (cc := c_Fi_weightOf) (maxL := 1) (ret := (some .int)) (by decide) rfl ?_
  intro p e s m args below meth c s₁ B hml hv
  obtain ⟨rfl, hP, hK, hZ⟩ := hv
  have hx := B.exec
  have hb := B.bytes
  have hr := B.returns
  have hts0 := atoms_spec (ws := ws_Fi_weightOf) B.pre
  have hts := fun (w : Cond) (h : w ∈ tb) => hts0 w (List.mem_cons_of_mem _ h)
  have hown : s.vm.findClass R_Fi = some m.cls := findClass_of_methodNamed B.named
  have hlocks := B.notSynchronized
  have hS : va_S (fun _ => False) s.heap s.heap [] := va_S.rf
  have hl := lv_entry ([.int x0]) (n := 1) (Nat.le_of_ble_eq_true rfl)
  rw [lg_entry_eq]
  generalize (lg_sl ([.int x0]) ++ List.replicate (1 - (lg_sl ([.int x0])).length) Slot.unset).toArray = ls at hl ⊢
  have hl : lv_has ls 1 [(0, .int x0)] := hl
  unfold w_Fi_weightOf at hw
  refine lv_iload_n hx hb d_Fi_weightOf_0 rfl (lv_at hl 0 rfl) ?_
  refine lv_iconst (v := 2) hx hb d_Fi_weightOf_1 (by decide) ?_
  refine lv_irem hx hb d_Fi_weightOf_2 (by decide) ?_
  refine lv_if_ne (tgt := 10) hx hb d_Fi_weightOf_3 (by decide) (fun c1 => ?_) (fun c1 => ?_)
  · have hw := hw.1 c1
    refine lv_iconst (v := 3) hx hb d_Fi_weightOf_10 (by decide) ?_
    exact W.iret (v := 3) hx hb hr (fun t ht hW => ⟨3, rfl, hw, ht⟩) hS.2.2 d_Fi_weightOf_11
  · have hw := hw.2 c1
    refine lv_iconst (v := 1) hx hb d_Fi_weightOf_6 (by decide) ?_
    refine lv_goto (tgt := 11) hx hb d_Fi_weightOf_7 (by decide) ?_
    exact W.iret (v := 1) hx hb hr (fun t ht hW => ⟨1, rfl, hw, ht⟩) hS.2.2 d_Fi_weightOf_11
-- LineCodes$Figures.figureOf(JI)I
def w_Fi_figureOf_6 (post : Int32 → Prop) (x2 : Int32) : Nat → Int64 → Int32 → Prop
  | 0, _, _ => False
  | n + 1, y3, y5 => (y5 ≤ x2 → post ((y3 - y3 / 10 * 10).toInt32)) ∧ (¬ y5 ≤ x2 → w_Fi_figureOf_6 post x2 n (y3 / 10) (y5 + (-1)))
def w_Fi_figureOf (post : Int32 → Prop) (x0 : Int64) (x2 : Int32) : Prop := ∃ k6, w_Fi_figureOf_6 post x2 k6 x0 11
abbrev rm_Fi_figureOf : Room := { frames := 0, cells := 0, slots := 0, locals := 0 }
set_option maxHeartbeats 4000000 in
set_option maxRecDepth 100000 in
theorem lp_Fi_figureOf_6 (l : Launch) (D : va_G) (Z : (Nat → Prop) → State → Heap → Prop) (hz : zk Z) (ad : Nat → Nat) (hk : zs Z ad) {p : Program} {e : Env} {s : State} {m : MethodId} {args : Array Value} {below : List Frame} {meth : Method} {c : Code} (x2 : Int32) {post : Int32 → Prop} (hx : p.tables.exec = Jvm.exec) (hb : c.code = c_Fi_figureOf) (hml : c.maxLocals = 6) (hr : meth.sig.returnType = (some .int)) (hts : ∀ w ∈ tb, w.before args s = true) (hown : s.vm.findClass R_Fi = some m.cls) (hlocks : meth.locks = false) (hK : va_K D vwCl [] s) (hZ : Z (fun _ => False) s s.heap) (hP : va_P D vwCl [] s.heap) (hS : va_S (fun _ => False) s.heap s.heap []) : ∀ (n : Nat) (y3 : Int64) (y5 : Int32), w_Fi_figureOf_6 post x2 n y3 y5 → ∀ ls : Array Slot, lv_has ls 6 [(2, .int x2), (3, .long y3), (5, .int y5)] → W p l e (headSpec ws_Fi_figureOf rm_Fi_figureOf).room s m args below meth c s.heap [] 0 0 (MQ below (vp_Si post) args s 0 0 (fun _ => False)) (F0 m 6 ls []) := by
  intro n
  induction n with
  | zero =>
    intro y3 y5 hw
    unfold w_Fi_figureOf_6 at hw
    exact hw.elim
  | succ n ih =>
    intro y3 y5 hw ls hl
    unfold w_Fi_figureOf_6 at hw
    refine lv_iload hx hb d_Fi_figureOf_6 (lv_at hl 2 rfl) ?_
    refine lv_iload_n hx hb d_Fi_figureOf_8 rfl (lv_at hl 0 rfl) ?_
    refine lv_icmp_le (tgt := 24) hx hb d_Fi_figureOf_9 (by decide) (fun c1 => ?_) (fun c1 => ?_)
    · have hw := hw.1 c1
      refine lv_lload_n hx hb d_Fi_figureOf_24 rfl (lv_at hl 1 rfl) ?_
      refine lv_ldc2 (v := 10) hx hb hown (hts _ mm_518) d_Fi_figureOf_25 ?_
      refine lv_lrem hx hb d_Fi_figureOf_28 (by decide) ?_
      refine lv_l2i hx hb d_Fi_figureOf_29 rfl ?_
      exact W.iret (v := (y3 - y3 / 10 * 10).toInt32) hx hb hr (fun t ht hW => ⟨(y3 - y3 / 10 * 10).toInt32, rfl, hw, ht⟩) hS.2.2 d_Fi_figureOf_30
    · have hw := hw.2 c1
      refine lv_lload_n hx hb d_Fi_figureOf_12 rfl (lv_at hl 1 rfl) ?_
      refine lv_ldc2 (v := 10) hx hb hown (hts _ mm_518) d_Fi_figureOf_13 ?_
      refine lv_ldiv hx hb d_Fi_figureOf_16 (by decide) ?_
      refine lv_lstore_n (lv' := [(3, .long (y3 / 10)), (2, .int x2), (5, .int y5)]) hx hb d_Fi_figureOf_17 rfl hl (by decide) rfl (fun ls hl => ?_)
      refine lv_iinc (v := (y5 + (-1))) (lv' := [(5, .int (y5 + (-1))), (3, .long (y3 / 10)), (2, .int x2)]) hx hb d_Fi_figureOf_18 hl (k := 2) rfl rfl (by decide) rfl (fun ls hl => ?_)
      refine lv_goto (tgt := 6) hx hb d_Fi_figureOf_21 (by decide) ?_
      exact ih (y3 / 10) (y5 + (-1)) hw ls (lv_sub hl [2, 1, 0] rfl)
set_option maxHeartbeats 4000000 in
set_option maxRecDepth 100000 in
theorem met_Fi_figureOf (l : Launch) (D : va_G) (Z : (Nat → Prop) → State → Heap → Prop) (hz : zk Z) (ad : Nat → Nat) (hk : zs Z ad) (x0 : Int64) (x2 : Int32) {post : Int32 → Prop} (hw : w_Fi_figureOf post x0 x2) : Met l y_Fi_figureOf ws_Fi_figureOf rm_Fi_figureOf (va_Pc [.long x0, .int x2] (ro_ D vwCl [] [] (Z))) (vp_Si post) 0 0 (fun _ => False) := by
  refine Met.ofW (cc := c_Fi_figureOf) (maxL := 6) (ret := (some .int)) (by decide) rfl ?_
  intro p e s m args below meth c s₁ B hml hv
  obtain ⟨rfl, hP, hK, hZ⟩ := hv
  have hx := B.exec
  have hb := B.bytes
  have hr := B.returns
  have hts0 := atoms_spec (ws := ws_Fi_figureOf) B.pre
  have hts := fun (w : Cond) (h : w ∈ tb) => hts0 w (List.mem_cons_of_mem _ h)
  have hown : s.vm.findClass R_Fi = some m.cls := findClass_of_methodNamed B.named
  have hlocks := B.notSynchronized
  have hS : va_S (fun _ => False) s.heap s.heap [] := va_S.rf
  have hl := lv_entry ([.long x0, .int x2]) (n := 6) (Nat.le_of_ble_eq_true rfl)
  rw [lg_entry_eq]
  generalize (lg_sl ([.long x0, .int x2]) ++ List.replicate (6 - (lg_sl ([.long x0, .int x2])).length) Slot.unset).toArray = ls at hl ⊢
  have hl : lv_has ls 6 [(0, .long x0), (2, .int x2)] := hl
  unfold w_Fi_figureOf at hw
  refine lv_lload_n hx hb d_Fi_figureOf_0 rfl (lv_at hl 0 rfl) ?_
  refine lv_lstore_n (lv' := [(3, .long x0), (0, .long x0), (2, .int x2)]) hx hb d_Fi_figureOf_1 rfl hl (by decide) rfl (fun ls hl => ?_)
  refine lv_bipush (v := 11) hx hb d_Fi_figureOf_2 (by decide) ?_
  refine lv_istore (lv' := [(5, .int 11), (3, .long x0), (0, .long x0), (2, .int x2)]) hx hb d_Fi_figureOf_4 hl (by decide) rfl (fun ls hl => ?_)
  obtain ⟨n9, hw⟩ := hw
  exact lp_Fi_figureOf_6 l D Z hz ad hk x2 hx hb hml hr hts hown hlocks hK hZ hP hS n9 x0 11 hw ls (lv_sub hl [3, 1, 0] rfl)
-- LineCodes$Figures.checkOf(J)I
def w_Fi_checkOf_4 (post : Int32 → Prop) (x0 : Int64) : Nat → Int32 → Int32 → Prop
  | 0, _, _ => False
  | n + 1, y2, y3 => (12 ≤ y3 → post ((10 - (y2 - y2 / 10 * 10)) - (10 - (y2 - y2 / 10 * 10)) / 10 * 10)) ∧ (¬ 12 ≤ y3 → w_Fi_weightOf (fun r2 => w_Fi_figureOf (fun r3 => w_Fi_checkOf_4 post x0 n (y2 + (r2 * r3)) (y3 + 1)) x0 y3) y3)
def w_Fi_checkOf (post : Int32 → Prop) (x0 : Int64) : Prop := ∃ k4, w_Fi_checkOf_4 post x0 k4 0 0
abbrev rm_Fi_checkOf : Room := { frames := 1, cells := 0, slots := 0, locals := 25 }
set_option maxHeartbeats 4000000 in
set_option maxRecDepth 100000 in
theorem lp_Fi_checkOf_4 (l : Launch) (D : va_G) (Z : (Nat → Prop) → State → Heap → Prop) (hz : zk Z) (ad : Nat → Nat) (hk : zs Z ad) {p : Program} {e : Env} {s : State} {m : MethodId} {args : Array Value} {below : List Frame} {meth : Method} {c : Code} (x0 : Int64) {post : Int32 → Prop} (hx : p.tables.exec = Jvm.exec) (hb : c.code = c_Fi_checkOf) (hml : c.maxLocals = 4) (hr : meth.sig.returnType = (some .int)) (hts : ∀ w ∈ tb, w.before args s = true) (hown : s.vm.findClass R_Fi = some m.cls) (hlocks : meth.locks = false) (hK : va_K D vwCl [] s) (hZ : Z (fun _ => False) s s.heap) (hP : va_P D vwCl [] s.heap) (hS : va_S (fun _ => False) s.heap s.heap []) : ∀ (n : Nat) (y2 : Int32) (y3 : Int32), w_Fi_checkOf_4 post x0 n y2 y3 → ∀ ls : Array Slot, lv_has ls 4 [(0, .long x0), (2, .int y2), (3, .int y3)] → W p l e (headSpec ws_Fi_checkOf rm_Fi_checkOf).room s m args below meth c s.heap [] 0 0 (MQ below (vp_Si post) args s 0 0 (fun _ => False)) (F0 m 4 ls []) := by
  intro n
  induction n with
  | zero =>
    intro y2 y3 hw
    unfold w_Fi_checkOf_4 at hw
    exact hw.elim
  | succ n ih =>
    intro y2 y3 hw ls hl
    unfold w_Fi_checkOf_4 at hw
    refine lv_iload_n hx hb d_Fi_checkOf_4 rfl (lv_at hl 2 rfl) ?_
    refine lv_bipush (v := 12) hx hb d_Fi_checkOf_5 (by decide) ?_
    refine lv_icmp_ge (tgt := 29) hx hb d_Fi_checkOf_7 (by decide) (fun c1 => ?_) (fun c1 => ?_)
    · have hw := hw.1 c1
      refine lv_bipush (v := 10) hx hb d_Fi_checkOf_29 (by decide) ?_
      refine lv_iload_n hx hb d_Fi_checkOf_31 rfl (lv_at hl 1 rfl) ?_
      refine lv_bipush (v := 10) hx hb d_Fi_checkOf_32 (by decide) ?_
      refine lv_irem hx hb d_Fi_checkOf_34 (by decide) ?_
      refine lv_isub hx hb d_Fi_checkOf_35 ?_
      refine lv_bipush (v := 10) hx hb d_Fi_checkOf_36 (by decide) ?_
      refine lv_irem hx hb d_Fi_checkOf_38 (by decide) ?_
      exact W.iret (v := ((10 - (y2 - y2 / 10 * 10)) - (10 - (y2 - y2 / 10 * 10)) / 10 * 10)) hx hb hr (fun t ht hW => ⟨((10 - (y2 - y2 / 10 * 10)) - (10 - (y2 - y2 / 10 * 10)) / 10 * 10), rfl, hw, ht⟩) hS.2.2 d_Fi_checkOf_39
    · have hw := hw.2 c1
      refine lv_iload_n hx hb d_Fi_checkOf_10 rfl (lv_at hl 1 rfl) ?_
      refine lv_iload_n hx hb d_Fi_checkOf_11 rfl (lv_at hl 2 rfl) ?_
      refine k_roSi (As := [.int y3]) (rest := [.int y2]) hz [] [] ⟨hx, hb, hml, hown, hts⟩ (met_Fi_weightOf l D Z hz ad hk y3 hw) (va_cwS 1 hts (g_S mm_514 mm_309 mm_54 mm_310) rfl rfl rfl hd_Fi_weightOf.2 ⟨Nat.le_of_ble_eq_true rfl, Nat.le_of_ble_eq_true rfl⟩) hP hK hZ hS rfl rfl rfl hl.1 rfl (Nat.le_of_ble_eq_true rfl) d_Fi_checkOf_12 ⟨Nat.le_of_ble_eq_true rfl, Nat.le_of_ble_eq_true rfl⟩ (fun r2 hw => ?_)
      refine lv_lload_n hx hb d_Fi_checkOf_15 rfl (lv_at hl 0 rfl) ?_
      refine lv_iload_n hx hb d_Fi_checkOf_16 rfl (lv_at hl 2 rfl) ?_
      refine k_roSi (As := [.long x0, .int y3]) (rest := [.int r2, .int y2]) hz [] [] ⟨hx, hb, hml, hown, hts⟩ (met_Fi_figureOf l D Z hz ad hk x0 y3 hw) (va_cwS 2 hts (g_S mm_515 mm_516 mm_54 mm_517) rfl rfl rfl hd_Fi_figureOf.2 ⟨Nat.le_of_ble_eq_true rfl, Nat.le_of_ble_eq_true rfl⟩) hP hK hZ hS rfl rfl rfl hl.1 rfl (Nat.le_of_ble_eq_true rfl) d_Fi_checkOf_17 ⟨Nat.le_of_ble_eq_true rfl, Nat.le_of_ble_eq_true rfl⟩ (fun r3 hw => ?_)
      refine lv_imul hx hb d_Fi_checkOf_20 ?_
      refine lv_iadd hx hb d_Fi_checkOf_21 ?_
      refine lv_istore_n (lv' := [(2, .int (y2 + (r2 * r3))), (0, .long x0), (3, .int y3)]) hx hb d_Fi_checkOf_22 rfl hl (by decide) rfl (fun ls hl => ?_)
      refine lv_iinc (v := (y3 + 1)) (lv' := [(3, .int (y3 + 1)), (2, .int (y2 + (r2 * r3))), (0, .long x0)]) hx hb d_Fi_checkOf_23 hl (k := 2) rfl rfl (by decide) rfl (fun ls hl => ?_)
      refine lv_goto (tgt := 4) hx hb d_Fi_checkOf_26 (by decide) ?_
      exact ih (y2 + (r2 * r3)) (y3 + 1) hw ls (lv_sub hl [2, 1, 0] rfl)
set_option maxHeartbeats 4000000 in
set_option maxRecDepth 100000 in
theorem met_Fi_checkOf (l : Launch) (D : va_G) (Z : (Nat → Prop) → State → Heap → Prop) (hz : zk Z) (ad : Nat → Nat) (hk : zs Z ad) (x0 : Int64) {post : Int32 → Prop} (hw : w_Fi_checkOf post x0) : Met l y_Fi_checkOf ws_Fi_checkOf rm_Fi_checkOf (va_Pc [.long x0] (ro_ D vwCl [] [] (Z))) (vp_Si post) 0 0 (fun _ => False) := by
  refine Met.ofW (cc := c_Fi_checkOf) (maxL := 4) (ret := (some .int)) (by decide) rfl ?_
  intro p e s m args below meth c s₁ B hml hv
  obtain ⟨rfl, hP, hK, hZ⟩ := hv
  have hx := B.exec
  have hb := B.bytes
  have hr := B.returns
  have hts0 := atoms_spec (ws := ws_Fi_checkOf) B.pre
  have hts := fun (w : Cond) (h : w ∈ tb) => hts0 w (List.mem_cons_of_mem _ h)
  have hown : s.vm.findClass R_Fi = some m.cls := findClass_of_methodNamed B.named
  have hlocks := B.notSynchronized
  have hS : va_S (fun _ => False) s.heap s.heap [] := va_S.rf
  have hl := lv_entry ([.long x0]) (n := 4) (Nat.le_of_ble_eq_true rfl)
  rw [lg_entry_eq]
  generalize (lg_sl ([.long x0]) ++ List.replicate (4 - (lg_sl ([.long x0])).length) Slot.unset).toArray = ls at hl ⊢
  have hl : lv_has ls 4 [(0, .long x0)] := hl
  unfold w_Fi_checkOf at hw
  refine lv_iconst (v := 0) hx hb d_Fi_checkOf_0 (by decide) ?_
  refine lv_istore_n (lv' := [(2, .int 0), (0, .long x0)]) hx hb d_Fi_checkOf_1 rfl hl (by decide) rfl (fun ls hl => ?_)
  refine lv_iconst (v := 0) hx hb d_Fi_checkOf_2 (by decide) ?_
  refine lv_istore_n (lv' := [(3, .int 0), (2, .int 0), (0, .long x0)]) hx hb d_Fi_checkOf_3 rfl hl (by decide) rfl (fun ls hl => ?_)
  obtain ⟨n9, hw⟩ := hw
  exact lp_Fi_checkOf_4 l D Z hz ad hk x0 hx hb hml hr hts hown hlocks hK hZ hP hS n9 0 0 hw ls (lv_sub hl [2, 1, 0] rfl)
