-- LineCodes.refuseByteCount(I)V
def w_Lc_refuseByteCount (post : Prop) (xp : String → Prop) (x0 : Int32) : Prop := (x0 < 1 → xp "java/lang/IllegalArgumentException") ∧ (¬ x0 < 1 → (x0 ≤ 8 → post) ∧ (¬ x0 ≤ 8 → xp "java/lang/IllegalArgumentException"))
abbrev rm_Lc_refuseByteCount : Room := { frames := 6, cells := 1, slots := 6, locals := 90 }
-- LineCodes.write(IJ)I
def w_Lc_write_7 (post : Int32 → Int32 → (Nat → Int32) → Prop) (xp : String → Int32 → (Nat → Int32) → Prop) (v_text_count : Int32) (f_text_items : Nat → Int32) (x1 : Int32) (x2 : Int64) : Nat → Int32 → Prop
  | 0, _ => False
  | n + 1, y4 => (x1 ≤ y4 → w_Lc_addBytes (fun r2 s3 s4 => post r2 s3 s4) 64 v_text_count f_text_items x1 x2) ∧ (¬ x1 ≤ y4 → w_Lc_byteOf (fun r5 => (r5 ≤ 128 → w_Lc_write_7 post xp v_text_count f_text_items x1 x2 n (y4 + 1)) ∧ (¬ r5 ≤ 128 → xp "java/lang/IllegalArgumentException" v_text_count f_text_items)) x2 y4)
def w_Lc_write (post : Int32 → Int32 → (Nat → Int32) → Prop) (xp : String → Int32 → (Nat → Int32) → Prop) (v_text_count : Int32) (f_text_items : Nat → Int32) (x1 : Int32) (x2 : Int64) : Prop := w_Lc_refuseByteCount (∃ k7, w_Lc_write_7 post xp v_text_count f_text_items x1 x2 k7 0) (fun E9 => xp E9 v_text_count f_text_items) x1
abbrev rm_Lc_write : Room := { frames := 7, cells := 2, slots := 12, locals := 110 }
-- LineCodes.refuseModule(I)V
def w_Lc_refuseModule (post : Prop) (xp : String → Prop) (x0 : Int32) : Prop := (x0 < 1 → xp "java/lang/IllegalArgumentException") ∧ (¬ x0 < 1 → (x0 ≤ 50 → post) ∧ (¬ x0 ≤ 50 → xp "java/lang/IllegalArgumentException"))
abbrev rm_Lc_refuseModule : Room := { frames := 6, cells := 1, slots := 6, locals := 90 }
-- LineCodes.bars(I)I
def w_Lc_bars_34 (post : Int32 → Int32 → (Nat → Int32) → Prop) (xp : String → Int32 → (Nat → Int32) → Prop) (v_row_count : Int32) (f_row_items : Nat → Int32) (x1 : Int32) : Nat → Int32 → (Nat → Int32) → Int32 → Prop
  | 0, _, _, _ => False
  | n + 1, v_strip_count, f_strip_items, y2 => w_It_count (fun r5 => (r5 ≤ y2 → w_It_count (fun r7 => post r7 v_strip_count f_strip_items) v_strip_count) ∧ (¬ r5 ≤ y2 → w_It_at (fun r8 => w_Wi_ofSymbol (fun r9 => w_Lc_addWidths (fun s10 s11 => w_Lc_bars_34 post xp v_row_count f_row_items x1 n s10 s11 (y2 + 1)) v_strip_count f_strip_items r9 x1) r8) 99 v_row_count f_row_items y2)) v_row_count
def w_Lc_bars (post : Int32 → Int32 → (Nat → Int32) → Prop) (xp : String → Int32 → (Nat → Int32) → Prop) (v_row_count : Int32) (f_row_items : Nat → Int32) (v_strip_count : Int32) (f_strip_items : Nat → Int32) (x1 : Int32) : Prop := w_Lc_refuseModule (w_It_count (fun r1 => (¬ r1 = 0 → w_It_empty (fun r3 s4 => ∃ k34, w_Lc_bars_34 post xp v_row_count f_row_items x1 k34 s4 f_strip_items 0) v_strip_count) ∧ (r1 = 0 → xp "java/lang/IllegalStateException" v_strip_count f_strip_items)) v_row_count) (fun E9 => xp E9 v_strip_count f_strip_items) x1
abbrev rm_Lc_bars : Room := { frames := 7, cells := 2, slots := 12, locals := 110 }
-- LineCodes.refuseTwelve(J)V
def w_Lc_refuseTwelve (post : Prop) (xp : String → Prop) (x0 : Int64) : Prop := ((lg_cmp x0 0) < 0 → xp "java/lang/IllegalArgumentException") ∧ (¬ (lg_cmp x0 0) < 0 → ((lg_cmp x0 999999999999) ≤ 0 → post) ∧ (¬ (lg_cmp x0 999999999999) ≤ 0 → xp "java/lang/IllegalArgumentException"))
abbrev rm_Lc_refuseTwelve : Room := { frames := 6, cells := 1, slots := 6, locals := 90 }
-- LineCodes.checkFigure(J)I
def w_Lc_checkFigure (post : Int32 → Prop) (xp : String → Prop) (x1 : Int64) : Prop := w_Lc_refuseTwelve (w_Fi_checkOf (fun r1 => post r1) x1) (fun E9 => xp E9) x1
abbrev rm_Lc_checkFigure : Room := { frames := 7, cells := 1, slots := 6, locals := 111 }
-- LineCodes.thirteen(JI)I
def w_Lc_thirteen_113 (post : Int32 → Int32 → (Nat → Int32) → Prop) (xp : String → Int32 → (Nat → Int32) → Prop) (x1 : Int64) (x3 : Int32) : Nat → Int32 → (Nat → Int32) → Int32 → Prop
  | 0, _, _, _ => False
  | n + 1, v_strip_count, f_strip_items, y5 => (12 ≤ y5 → w_Fi_checkOf (fun r11 => w_Wi_ofFigure (fun r12 => w_Lc_addWidths (fun s13 s14 => w_Lc_addWidths (fun s15 s16 => w_It_count (fun r17 => post r17 s15 s16) s15) s13 s14 111 x3) v_strip_count f_strip_items r12 x3) r11) x1) ∧ (¬ 12 ≤ y5 → w_Fi_figureOf (fun r18 => w_Wi_ofFigure (fun r19 => w_Lc_addWidths (fun s20 s21 => w_Lc_thirteen_113 post xp x1 x3 n s20 s21 (y5 + 1)) v_strip_count f_strip_items r19 x3) r18) x1 y5)
def w_Lc_thirteen_36 (post : Int32 → Int32 → (Nat → Int32) → Prop) (xp : String → Int32 → (Nat → Int32) → Prop) (x1 : Int64) (x3 : Int32) (y4 : Int32) : Nat → Int32 → (Nat → Int32) → Int32 → Prop
  | 0, _, _, _ => False
  | n + 1, v_strip_count, f_strip_items, y5 => (6 < y5 → w_Lc_addWidths (fun s8 s9 => ∃ k113, w_Lc_thirteen_113 post xp x1 x3 k113 s8 s9 7) v_strip_count f_strip_items 11111 x3) ∧ (¬ 6 < y5 → w_Fi_figureOf (fun r22 => w_Wi_ofFigure (fun r23 => (¬ ((y4 >>> ((6 - y5) &&& 31)) &&& 1) = 1 → w_Lc_addWidths (fun s25 s26 => w_Lc_thirteen_36 post xp x1 x3 y4 n s25 s26 (y5 + 1)) v_strip_count f_strip_items r23 x3) ∧ (((y4 >>> ((6 - y5) &&& 31)) &&& 1) = 1 → w_Wi_turned (fun r27 => w_Lc_addWidths (fun s28 s29 => w_Lc_thirteen_36 post xp x1 x3 y4 n s28 s29 (y5 + 1)) v_strip_count f_strip_items r27 x3) r23)) r22) x1 y5)
def w_Lc_thirteen (post : Int32 → Int32 → (Nat → Int32) → Prop) (xp : String → Int32 → (Nat → Int32) → Prop) (v_strip_count : Int32) (f_strip_items : Nat → Int32) (x1 : Int64) (x3 : Int32) : Prop := w_Lc_refuseTwelve (w_Lc_refuseModule (w_It_empty (fun r1 s2 => w_Fi_figureOf (fun r3 => w_Wi_turnsOf (fun r4 => w_Lc_addWidths (fun s5 s6 => ∃ k36, w_Lc_thirteen_36 post xp x1 x3 r4 k36 s5 s6 1) s2 f_strip_items 111 x3) r3) x1 0) v_strip_count) (fun E9 => xp E9 v_strip_count f_strip_items) x3) (fun E9 => xp E9 v_strip_count f_strip_items) x1
abbrev rm_Lc_thirteen : Room := { frames := 7, cells := 2, slots := 12, locals := 111 }
-- LineCodes.put(IJ)I
def w_Lc_put_7 (post : Int32 → Int32 → (Nat → Int32) → Prop) (xp : String → Int32 → (Nat → Int32) → Prop) (v_strip_count : Int32) (f_strip_items : Nat → Int32) (x1 : Int32) (x2 : Int64) : Nat → Int32 → Prop
  | 0, _ => False
  | n + 1, y4 => (x1 ≤ y4 → w_Lc_addBytes (fun r2 s3 s4 => post r2 s3 s4) 800 v_strip_count f_strip_items x1 x2) ∧ (¬ x1 ≤ y4 → w_Lc_byteOf (fun r5 => (¬ r5 = 0 → w_Lc_put_7 post xp v_strip_count f_strip_items x1 x2 n (y4 + 1)) ∧ (r5 = 0 → xp "java/lang/IllegalArgumentException" v_strip_count f_strip_items)) x2 y4)
def w_Lc_put (post : Int32 → Int32 → (Nat → Int32) → Prop) (xp : String → Int32 → (Nat → Int32) → Prop) (v_strip_count : Int32) (f_strip_items : Nat → Int32) (x1 : Int32) (x2 : Int64) : Prop := w_Lc_refuseByteCount (∃ k7, w_Lc_put_7 post xp v_strip_count f_strip_items x1 x2 k7 0) (fun E9 => xp E9 v_strip_count f_strip_items) x1
abbrev rm_Lc_put : Room := { frames := 7, cells := 2, slots := 12, locals := 110 }
-- LineCodes.spoil(II)I
def w_Lc_spoil (post : Int32 → (Nat → Int32) → Prop) (xp : String → (Nat → Int32) → Prop) (v_strip_count : Int32) (f_strip_items : Nat → Int32) (x1 : Int32) (x2 : Int32) : Prop := (x1 < 0 → xp "java/lang/IndexOutOfBoundsException" f_strip_items) ∧ (¬ x1 < 0 → w_It_count (fun r2 => (x1 < r2 → (x2 < 1 → xp "java/lang/IllegalArgumentException" f_strip_items) ∧ (¬ x2 < 1 → (x2 ≤ 2000 → w_It_replace (fun r6 s7 => post r6 s7) 800 v_strip_count f_strip_items x1 x2) ∧ (¬ x2 ≤ 2000 → xp "java/lang/IllegalArgumentException" f_strip_items))) ∧ (¬ x1 < r2 → xp "java/lang/IndexOutOfBoundsException" f_strip_items)) v_strip_count)
abbrev rm_Lc_spoil : Room := { frames := 6, cells := 1, slots := 6, locals := 90 }
