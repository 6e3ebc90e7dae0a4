def R_Lw : String := "LineCodesLaw"
def R_Lc : String := "LineCodes"
def R_It : String := "LineCodes$Items"
def R_Se : String := "LineCodes$Sets"
def R_Wi : String := "LineCodes$Widths"
def R_Fi : String := "LineCodes$Figures"
def R_Pa : String := "LineCodes$Packer"
def R_Re : String := "LineCodes$Reader"
def R_Md : String := "LineCodesModel"
def T_It : u_T := fun k => match k with
  | 0 => ("LineCodes$Items", "items", "[I", true)
  | _ => ("LineCodes$Items", "count", "I", false)
def ty_It : Nat → FieldType := fun k => match k with
  | 0 => .array .int
  | _ => .int
theorem nn_It : ∀ a, a < 2 → ∀ b, b < 2 → a ≠ b → (T_It a).2.1 ≠ (T_It b).2.1 := by decide +kernel
theorem tk_It : ∀ k, k < 2 → parseFieldDescriptor (T_It k).2.2.1 = some (ty_It k) := by decide +kernel
def T_Pa : u_T := fun k => match k with
  | 0 => ("LineCodes$Packer", "text", "LLineCodes$Items;", true)
  | 1 => ("LineCodes$Packer", "row", "LLineCodes$Items;", true)
  | _ => ("LineCodes$Packer", "costs", "[I", true)
def ty_Pa : Nat → FieldType := fun k => match k with
  | 0 => .object "LineCodes$Items"
  | 1 => .object "LineCodes$Items"
  | _ => .array .int
theorem nn_Pa : ∀ a, a < 3 → ∀ b, b < 3 → a ≠ b → (T_Pa a).2.1 ≠ (T_Pa b).2.1 := by decide +kernel
theorem tk_Pa : ∀ k, k < 3 → parseFieldDescriptor (T_Pa k).2.2.1 = some (ty_Pa k) := by decide +kernel
def T_Re : u_T := fun k => match k with
  | 0 => ("LineCodes$Reader", "strip", "LLineCodes$Items;", true)
  | 1 => ("LineCodes$Reader", "told", "LLineCodes$Items;", true)
  | 2 => ("LineCodes$Reader", "fromBack", "Z", false)
  | 3 => ("LineCodes$Reader", "set", "I", false)
  | _ => ("LineCodes$Reader", "shifted", "Z", false)
def ty_Re : Nat → FieldType := fun k => match k with
  | 0 => .object "LineCodes$Items"
  | 1 => .object "LineCodes$Items"
  | 2 => .boolean
  | 3 => .int
  | _ => .boolean
theorem nn_Re : ∀ a, a < 5 → ∀ b, b < 5 → a ≠ b → (T_Re a).2.1 ≠ (T_Re b).2.1 := by decide +kernel
theorem tk_Re : ∀ k, k < 5 → parseFieldDescriptor (T_Re k).2.2.1 = some (ty_Re k) := by decide +kernel
def T_Lc : u_T := fun k => match k with
  | 0 => ("LineCodes", "text", "LLineCodes$Items;", true)
  | 1 => ("LineCodes", "row", "LLineCodes$Items;", true)
  | 2 => ("LineCodes", "strip", "LLineCodes$Items;", true)
  | 3 => ("LineCodes", "packer", "LLineCodes$Packer;", true)
  | _ => ("LineCodes", "reader", "LLineCodes$Reader;", true)
def ty_Lc : Nat → FieldType := fun k => match k with
  | 0 => .object "LineCodes$Items"
  | 1 => .object "LineCodes$Items"
  | 2 => .object "LineCodes$Items"
  | 3 => .object "LineCodes$Packer"
  | _ => .object "LineCodes$Reader"
theorem nn_Lc : ∀ a, a < 5 → ∀ b, b < 5 → a ≠ b → (T_Lc a).2.1 ≠ (T_Lc b).2.1 := by decide +kernel
theorem tk_Lc : ∀ k, k < 5 → parseFieldDescriptor (T_Lc k).2.2.1 = some (ty_Lc k) := by decide +kernel
def T_Md : u_T := fun k => match k with
  | 0 => ("LineCodesModel", "bars", "[I", true)
  | 1 => ("LineCodesModel", "figures", "[I", true)
  | 2 => ("LineCodesModel", "turns", "[I", true)
  | 3 => ("LineCodesModel", "thrown", "I", false)
  | 4 => ("LineCodesModel", "text", "[I", true)
  | 5 => ("LineCodesModel", "length", "I", false)
  | 6 => ("LineCodesModel", "least", "[I", true)
  | 7 => ("LineCodesModel", "row", "[I", true)
  | 8 => ("LineCodesModel", "symbols", "I", false)
  | 9 => ("LineCodesModel", "strip", "[I", true)
  | 10 => ("LineCodesModel", "widths", "I", false)
  | 11 => ("LineCodesModel", "turned", "[I", true)
  | 12 => ("LineCodesModel", "found", "[I", true)
  | 13 => ("LineCodesModel", "signs", "[I", true)
  | 14 => ("LineCodesModel", "told", "I", false)
  | 15 => ("LineCodesModel", "back", "Z", false)
  | 16 => ("LineCodesModel", "draft", "[I", true)
  | _ => ("LineCodesModel", "drafted", "I", false)
def ty_Md : Nat → FieldType := fun k => match k with
  | 0 => .array .int
  | 1 => .array .int
  | 2 => .array .int
  | 3 => .int
  | 4 => .array .int
  | 5 => .int
  | 6 => .array .int
  | 7 => .array .int
  | 8 => .int
  | 9 => .array .int
  | 10 => .int
  | 11 => .array .int
  | 12 => .array .int
  | 13 => .array .int
  | 14 => .int
  | 15 => .boolean
  | 16 => .array .int
  | _ => .int
theorem nn_Md : ∀ a, a < 18 → ∀ b, b < 18 → a ≠ b → (T_Md a).2.1 ≠ (T_Md b).2.1 := by decide +kernel
theorem tk_Md : ∀ k, k < 18 → parseFieldDescriptor (T_Md k).2.2.1 = some (ty_Md k) := by decide +kernel
abbrev vwCl : List vw_C := [(R_It, T_It, 2), (R_Pa, T_Pa, 3), (R_Re, T_Re, 5), (R_Lc, T_Lc, 5), (R_Md, T_Md, 18)]
abbrev c_Lc_init : ByteArray := prog_1_method_1_code
def y_Lc_init : MethodName := ⟨R_Lc, "<init>", "()V"⟩
abbrev wc_Lc_init : Cond := .code y_Lc_init c_Lc_init 1 none
abbrev ws_Lc_init : List Cond := wc_Lc_init :: tb
theorem hd_Lc_init : y_Lc_init.cls = R_Lc ∧ y_Lc_init.cls ≠ "java/lang/invoke/MethodHandle" ∧ y_Lc_init.cls ≠ "java/lang/invoke/VarHandle" ∧ (parseMethodDescriptor y_Lc_init.desc).map (fun d => d.parameters.length) = some 0 := by decide +kernel
abbrev c_Lc_write : ByteArray := prog_1_method_2_code
def y_Lc_write : MethodName := ⟨R_Lc, "write", "(IJ)I"⟩
abbrev wc_Lc_write : Cond := .code y_Lc_write c_Lc_write 5 (some .int)
abbrev ws_Lc_write : List Cond := wc_Lc_write :: tb
theorem hd_Lc_write : y_Lc_write.cls = R_Lc ∧ y_Lc_write.cls ≠ "java/lang/invoke/MethodHandle" ∧ y_Lc_write.cls ≠ "java/lang/invoke/VarHandle" ∧ (parseMethodDescriptor y_Lc_write.desc).map (fun d => d.parameters.length) = some 2 := by decide +kernel
abbrev c_Lc_wipe : ByteArray := prog_1_method_3_code
def y_Lc_wipe : MethodName := ⟨R_Lc, "wipe", "()I"⟩
abbrev wc_Lc_wipe : Cond := .code y_Lc_wipe c_Lc_wipe 1 (some .int)
abbrev ws_Lc_wipe : List Cond := wc_Lc_wipe :: tb
theorem hd_Lc_wipe : y_Lc_wipe.cls = R_Lc ∧ y_Lc_wipe.cls ≠ "java/lang/invoke/MethodHandle" ∧ y_Lc_wipe.cls ≠ "java/lang/invoke/VarHandle" ∧ (parseMethodDescriptor y_Lc_wipe.desc).map (fun d => d.parameters.length) = some 0 := by decide +kernel
abbrev c_Lc_pack : ByteArray := prog_1_method_4_code
def y_Lc_pack : MethodName := ⟨R_Lc, "pack", "()I"⟩
abbrev wc_Lc_pack : Cond := .code y_Lc_pack c_Lc_pack 1 (some .int)
abbrev ws_Lc_pack : List Cond := wc_Lc_pack :: tb
theorem hd_Lc_pack : y_Lc_pack.cls = R_Lc ∧ y_Lc_pack.cls ≠ "java/lang/invoke/MethodHandle" ∧ y_Lc_pack.cls ≠ "java/lang/invoke/VarHandle" ∧ (parseMethodDescriptor y_Lc_pack.desc).map (fun d => d.parameters.length) = some 0 := by decide +kernel
abbrev c_Lc_symbol : ByteArray := prog_1_method_5_code
def y_Lc_symbol : MethodName := ⟨R_Lc, "symbol", "(I)I"⟩
abbrev wc_Lc_symbol : Cond := .code y_Lc_symbol c_Lc_symbol 2 (some .int)
abbrev ws_Lc_symbol : List Cond := wc_Lc_symbol :: tb
theorem hd_Lc_symbol : y_Lc_symbol.cls = R_Lc ∧ y_Lc_symbol.cls ≠ "java/lang/invoke/MethodHandle" ∧ y_Lc_symbol.cls ≠ "java/lang/invoke/VarHandle" ∧ (parseMethodDescriptor y_Lc_symbol.desc).map (fun d => d.parameters.length) = some 1 := by decide +kernel
abbrev c_Lc_bars : ByteArray := prog_1_method_6_code
def y_Lc_bars : MethodName := ⟨R_Lc, "bars", "(I)I"⟩
abbrev wc_Lc_bars : Cond := .code y_Lc_bars c_Lc_bars 3 (some .int)
abbrev ws_Lc_bars : List Cond := wc_Lc_bars :: tb
theorem hd_Lc_bars : y_Lc_bars.cls = R_Lc ∧ y_Lc_bars.cls ≠ "java/lang/invoke/MethodHandle" ∧ y_Lc_bars.cls ≠ "java/lang/invoke/VarHandle" ∧ (parseMethodDescriptor y_Lc_bars.desc).map (fun d => d.parameters.length) = some 1 := by decide +kernel
abbrev c_Lc_checkFigure : ByteArray := prog_1_method_7_code
def y_Lc_checkFigure : MethodName := ⟨R_Lc, "checkFigure", "(J)I"⟩
abbrev wc_Lc_checkFigure : Cond := .code y_Lc_checkFigure c_Lc_checkFigure 3 (some .int)
abbrev ws_Lc_checkFigure : List Cond := wc_Lc_checkFigure :: tb
theorem hd_Lc_checkFigure : y_Lc_checkFigure.cls = R_Lc ∧ y_Lc_checkFigure.cls ≠ "java/lang/invoke/MethodHandle" ∧ y_Lc_checkFigure.cls ≠ "java/lang/invoke/VarHandle" ∧ (parseMethodDescriptor y_Lc_checkFigure.desc).map (fun d => d.parameters.length) = some 1 := by decide +kernel
abbrev c_Lc_thirteen : ByteArray := prog_1_method_8_code
def y_Lc_thirteen : MethodName := ⟨R_Lc, "thirteen", "(JI)I"⟩
abbrev wc_Lc_thirteen : Cond := .code y_Lc_thirteen c_Lc_thirteen 8 (some .int)
abbrev ws_Lc_thirteen : List Cond := wc_Lc_thirteen :: tb
theorem hd_Lc_thirteen : y_Lc_thirteen.cls = R_Lc ∧ y_Lc_thirteen.cls ≠ "java/lang/invoke/MethodHandle" ∧ y_Lc_thirteen.cls ≠ "java/lang/invoke/VarHandle" ∧ (parseMethodDescriptor y_Lc_thirteen.desc).map (fun d => d.parameters.length) = some 2 := by decide +kernel
abbrev c_Lc_put : ByteArray := prog_1_method_9_code
def y_Lc_put : MethodName := ⟨R_Lc, "put", "(IJ)I"⟩
abbrev wc_Lc_put : Cond := .code y_Lc_put c_Lc_put 5 (some .int)
abbrev ws_Lc_put : List Cond := wc_Lc_put :: tb
theorem hd_Lc_put : y_Lc_put.cls = R_Lc ∧ y_Lc_put.cls ≠ "java/lang/invoke/MethodHandle" ∧ y_Lc_put.cls ≠ "java/lang/invoke/VarHandle" ∧ (parseMethodDescriptor y_Lc_put.desc).map (fun d => d.parameters.length) = some 2 := by decide +kernel
abbrev c_Lc_clear : ByteArray := prog_1_method_10_code
def y_Lc_clear : MethodName := ⟨R_Lc, "clear", "()I"⟩
abbrev wc_Lc_clear : Cond := .code y_Lc_clear c_Lc_clear 1 (some .int)
abbrev ws_Lc_clear : List Cond := wc_Lc_clear :: tb
theorem hd_Lc_clear : y_Lc_clear.cls = R_Lc ∧ y_Lc_clear.cls ≠ "java/lang/invoke/MethodHandle" ∧ y_Lc_clear.cls ≠ "java/lang/invoke/VarHandle" ∧ (parseMethodDescriptor y_Lc_clear.desc).map (fun d => d.parameters.length) = some 0 := by decide +kernel
abbrev c_Lc_width : ByteArray := prog_1_method_11_code
def y_Lc_width : MethodName := ⟨R_Lc, "width", "(I)I"⟩
abbrev wc_Lc_width : Cond := .code y_Lc_width c_Lc_width 2 (some .int)
abbrev ws_Lc_width : List Cond := wc_Lc_width :: tb
theorem hd_Lc_width : y_Lc_width.cls = R_Lc ∧ y_Lc_width.cls ≠ "java/lang/invoke/MethodHandle" ∧ y_Lc_width.cls ≠ "java/lang/invoke/VarHandle" ∧ (parseMethodDescriptor y_Lc_width.desc).map (fun d => d.parameters.length) = some 1 := by decide +kernel
abbrev c_Lc_spoil : ByteArray := prog_1_method_12_code
def y_Lc_spoil : MethodName := ⟨R_Lc, "spoil", "(II)I"⟩
abbrev wc_Lc_spoil : Cond := .code y_Lc_spoil c_Lc_spoil 3 (some .int)
abbrev ws_Lc_spoil : List Cond := wc_Lc_spoil :: tb
theorem hd_Lc_spoil : y_Lc_spoil.cls = R_Lc ∧ y_Lc_spoil.cls ≠ "java/lang/invoke/MethodHandle" ∧ y_Lc_spoil.cls ≠ "java/lang/invoke/VarHandle" ∧ (parseMethodDescriptor y_Lc_spoil.desc).map (fun d => d.parameters.length) = some 2 := by decide +kernel
abbrev c_Lc_turn : ByteArray := prog_1_method_13_code
def y_Lc_turn : MethodName := ⟨R_Lc, "turn", "()I"⟩
abbrev wc_Lc_turn : Cond := .code y_Lc_turn c_Lc_turn 1 (some .int)
abbrev ws_Lc_turn : List Cond := wc_Lc_turn :: tb
theorem hd_Lc_turn : y_Lc_turn.cls = R_Lc ∧ y_Lc_turn.cls ≠ "java/lang/invoke/MethodHandle" ∧ y_Lc_turn.cls ≠ "java/lang/invoke/VarHandle" ∧ (parseMethodDescriptor y_Lc_turn.desc).map (fun d => d.parameters.length) = some 0 := by decide +kernel
abbrev c_Lc_read : ByteArray := prog_1_method_14_code
def y_Lc_read : MethodName := ⟨R_Lc, "read", "()I"⟩
abbrev wc_Lc_read : Cond := .code y_Lc_read c_Lc_read 2 (some .int)
abbrev ws_Lc_read : List Cond := wc_Lc_read :: tb
theorem hd_Lc_read : y_Lc_read.cls = R_Lc ∧ y_Lc_read.cls ≠ "java/lang/invoke/MethodHandle" ∧ y_Lc_read.cls ≠ "java/lang/invoke/VarHandle" ∧ (parseMethodDescriptor y_Lc_read.desc).map (fun d => d.parameters.length) = some 0 := by decide +kernel
abbrev c_Lc_sign : ByteArray := prog_1_method_15_code
def y_Lc_sign : MethodName := ⟨R_Lc, "sign", "(I)I"⟩
abbrev wc_Lc_sign : Cond := .code y_Lc_sign c_Lc_sign 2 (some .int)
abbrev ws_Lc_sign : List Cond := wc_Lc_sign :: tb
theorem hd_Lc_sign : y_Lc_sign.cls = R_Lc ∧ y_Lc_sign.cls ≠ "java/lang/invoke/MethodHandle" ∧ y_Lc_sign.cls ≠ "java/lang/invoke/VarHandle" ∧ (parseMethodDescriptor y_Lc_sign.desc).map (fun d => d.parameters.length) = some 1 := by decide +kernel
abbrev c_Lc_backwards : ByteArray := prog_1_method_16_code
def y_Lc_backwards : MethodName := ⟨R_Lc, "backwards", "()Z"⟩
abbrev wc_Lc_backwards : Cond := .code y_Lc_backwards c_Lc_backwards 1 (some .boolean)
abbrev ws_Lc_backwards : List Cond := wc_Lc_backwards :: tb
theorem hd_Lc_backwards : y_Lc_backwards.cls = R_Lc ∧ y_Lc_backwards.cls ≠ "java/lang/invoke/MethodHandle" ∧ y_Lc_backwards.cls ≠ "java/lang/invoke/VarHandle" ∧ (parseMethodDescriptor y_Lc_backwards.desc).map (fun d => d.parameters.length) = some 0 := by decide +kernel
abbrev c_Lc_refuseByteCount : ByteArray := prog_1_method_17_code
def y_Lc_refuseByteCount : MethodName := ⟨R_Lc, "refuseByteCount", "(I)V"⟩
abbrev wc_Lc_refuseByteCount : Cond := .code y_Lc_refuseByteCount c_Lc_refuseByteCount 1 none
abbrev ws_Lc_refuseByteCount : List Cond := wc_Lc_refuseByteCount :: tb
theorem hd_Lc_refuseByteCount : y_Lc_refuseByteCount.cls = R_Lc ∧ y_Lc_refuseByteCount.cls ≠ "java/lang/invoke/MethodHandle" ∧ y_Lc_refuseByteCount.cls ≠ "java/lang/invoke/VarHandle" ∧ (parseMethodDescriptor y_Lc_refuseByteCount.desc).map (fun d => d.parameters.length) = some 1 := by decide +kernel
abbrev c_Lc_refuseModule : ByteArray := prog_1_method_18_code
def y_Lc_refuseModule : MethodName := ⟨R_Lc, "refuseModule", "(I)V"⟩
abbrev wc_Lc_refuseModule : Cond := .code y_Lc_refuseModule c_Lc_refuseModule 1 none
abbrev ws_Lc_refuseModule : List Cond := wc_Lc_refuseModule :: tb
theorem hd_Lc_refuseModule : y_Lc_refuseModule.cls = R_Lc ∧ y_Lc_refuseModule.cls ≠ "java/lang/invoke/MethodHandle" ∧ y_Lc_refuseModule.cls ≠ "java/lang/invoke/VarHandle" ∧ (parseMethodDescriptor y_Lc_refuseModule.desc).map (fun d => d.parameters.length) = some 1 := by decide +kernel
abbrev c_Lc_refuseTwelve : ByteArray := prog_1_method_19_code
def y_Lc_refuseTwelve : MethodName := ⟨R_Lc, "refuseTwelve", "(J)V"⟩
abbrev wc_Lc_refuseTwelve : Cond := .code y_Lc_refuseTwelve c_Lc_refuseTwelve 2 none
abbrev ws_Lc_refuseTwelve : List Cond := wc_Lc_refuseTwelve :: tb
theorem hd_Lc_refuseTwelve : y_Lc_refuseTwelve.cls = R_Lc ∧ y_Lc_refuseTwelve.cls ≠ "java/lang/invoke/MethodHandle" ∧ y_Lc_refuseTwelve.cls ≠ "java/lang/invoke/VarHandle" ∧ (parseMethodDescriptor y_Lc_refuseTwelve.desc).map (fun d => d.parameters.length) = some 1 := by decide +kernel
abbrev c_Lc_byteOf : ByteArray := prog_1_method_20_code
def y_Lc_byteOf : MethodName := ⟨R_Lc, "byteOf", "(JI)I"⟩
abbrev wc_Lc_byteOf : Cond := .code y_Lc_byteOf c_Lc_byteOf 3 (some .int)
abbrev ws_Lc_byteOf : List Cond := wc_Lc_byteOf :: tb
theorem hd_Lc_byteOf : y_Lc_byteOf.cls = R_Lc ∧ y_Lc_byteOf.cls ≠ "java/lang/invoke/MethodHandle" ∧ y_Lc_byteOf.cls ≠ "java/lang/invoke/VarHandle" ∧ (parseMethodDescriptor y_Lc_byteOf.desc).map (fun d => d.parameters.length) = some 2 := by decide +kernel
abbrev c_Lc_addBytes : ByteArray := prog_1_method_21_code
def y_Lc_addBytes : MethodName := ⟨R_Lc, "addBytes", "(LLineCodes$Items;IJ)I"⟩
abbrev wc_Lc_addBytes : Cond := .code y_Lc_addBytes c_Lc_addBytes 5 (some .int)
abbrev ws_Lc_addBytes : List Cond := wc_Lc_addBytes :: tb
theorem hd_Lc_addBytes : y_Lc_addBytes.cls = R_Lc ∧ y_Lc_addBytes.cls ≠ "java/lang/invoke/MethodHandle" ∧ y_Lc_addBytes.cls ≠ "java/lang/invoke/VarHandle" ∧ (parseMethodDescriptor y_Lc_addBytes.desc).map (fun d => d.parameters.length) = some 3 := by decide +kernel
abbrev c_Lc_addWidths : ByteArray := prog_1_method_22_code
def y_Lc_addWidths : MethodName := ⟨R_Lc, "addWidths", "(II)V"⟩
abbrev wc_Lc_addWidths : Cond := .code y_Lc_addWidths c_Lc_addWidths 4 none
abbrev ws_Lc_addWidths : List Cond := wc_Lc_addWidths :: tb
theorem hd_Lc_addWidths : y_Lc_addWidths.cls = R_Lc ∧ y_Lc_addWidths.cls ≠ "java/lang/invoke/MethodHandle" ∧ y_Lc_addWidths.cls ≠ "java/lang/invoke/VarHandle" ∧ (parseMethodDescriptor y_Lc_addWidths.desc).map (fun d => d.parameters.length) = some 2 := by decide +kernel
abbrev c_Md_init : ByteArray := prog_9_method_1_code
def y_Md_init : MethodName := ⟨R_Md, "<init>", "()V"⟩
abbrev wc_Md_init : Cond := .code y_Md_init c_Md_init 1 none
abbrev ws_Md_init : List Cond := wc_Md_init :: tb
theorem hd_Md_init : y_Md_init.cls = R_Md ∧ y_Md_init.cls ≠ "java/lang/invoke/MethodHandle" ∧ y_Md_init.cls ≠ "java/lang/invoke/VarHandle" ∧ (parseMethodDescriptor y_Md_init.desc).map (fun d => d.parameters.length) = some 0 := by decide +kernel
abbrev c_Md_thrown : ByteArray := prog_9_method_2_code
def y_Md_thrown : MethodName := ⟨R_Md, "thrown", "()I"⟩
abbrev wc_Md_thrown : Cond := .code y_Md_thrown c_Md_thrown 1 (some .int)
abbrev ws_Md_thrown : List Cond := wc_Md_thrown :: tb
theorem hd_Md_thrown : y_Md_thrown.cls = R_Md ∧ y_Md_thrown.cls ≠ "java/lang/invoke/MethodHandle" ∧ y_Md_thrown.cls ≠ "java/lang/invoke/VarHandle" ∧ (parseMethodDescriptor y_Md_thrown.desc).map (fun d => d.parameters.length) = some 0 := by decide +kernel
abbrev c_Md_write : ByteArray := prog_9_method_3_code
def y_Md_write : MethodName := ⟨R_Md, "write", "(IJ)I"⟩
abbrev wc_Md_write : Cond := .code y_Md_write c_Md_write 5 (some .int)
abbrev ws_Md_write : List Cond := wc_Md_write :: tb
theorem hd_Md_write : y_Md_write.cls = R_Md ∧ y_Md_write.cls ≠ "java/lang/invoke/MethodHandle" ∧ y_Md_write.cls ≠ "java/lang/invoke/VarHandle" ∧ (parseMethodDescriptor y_Md_write.desc).map (fun d => d.parameters.length) = some 2 := by decide +kernel
abbrev c_Md_wipe : ByteArray := prog_9_method_4_code
def y_Md_wipe : MethodName := ⟨R_Md, "wipe", "()I"⟩
abbrev wc_Md_wipe : Cond := .code y_Md_wipe c_Md_wipe 2 (some .int)
abbrev ws_Md_wipe : List Cond := wc_Md_wipe :: tb
theorem hd_Md_wipe : y_Md_wipe.cls = R_Md ∧ y_Md_wipe.cls ≠ "java/lang/invoke/MethodHandle" ∧ y_Md_wipe.cls ≠ "java/lang/invoke/VarHandle" ∧ (parseMethodDescriptor y_Md_wipe.desc).map (fun d => d.parameters.length) = some 0 := by decide +kernel
abbrev c_Md_signOf : ByteArray := prog_9_method_5_code
def y_Md_signOf : MethodName := ⟨R_Md, "signOf", "(II)I"⟩
abbrev wc_Md_signOf : Cond := .code y_Md_signOf c_Md_signOf 2 (some .int)
abbrev ws_Md_signOf : List Cond := wc_Md_signOf :: tb
theorem hd_Md_signOf : y_Md_signOf.cls = R_Md ∧ y_Md_signOf.cls ≠ "java/lang/invoke/MethodHandle" ∧ y_Md_signOf.cls ≠ "java/lang/invoke/VarHandle" ∧ (parseMethodDescriptor y_Md_signOf.desc).map (fun d => d.parameters.length) = some 2 := by decide +kernel
abbrev c_Md_at : ByteArray := prog_9_method_6_code
def y_Md_at : MethodName := ⟨R_Md, "at", "(I)I"⟩
abbrev wc_Md_at : Cond := .code y_Md_at c_Md_at 2 (some .int)
abbrev ws_Md_at : List Cond := wc_Md_at :: tb
theorem hd_Md_at : y_Md_at.cls = R_Md ∧ y_Md_at.cls ≠ "java/lang/invoke/MethodHandle" ∧ y_Md_at.cls ≠ "java/lang/invoke/VarHandle" ∧ (parseMethodDescriptor y_Md_at.desc).map (fun d => d.parameters.length) = some 1 := by decide +kernel
abbrev c_Md_isPair : ByteArray := prog_9_method_7_code
def y_Md_isPair : MethodName := ⟨R_Md, "isPair", "(II)Z"⟩
abbrev wc_Md_isPair : Cond := .code y_Md_isPair c_Md_isPair 3 (some .boolean)
abbrev ws_Md_isPair : List Cond := wc_Md_isPair :: tb
theorem hd_Md_isPair : y_Md_isPair.cls = R_Md ∧ y_Md_isPair.cls ≠ "java/lang/invoke/MethodHandle" ∧ y_Md_isPair.cls ≠ "java/lang/invoke/VarHandle" ∧ (parseMethodDescriptor y_Md_isPair.desc).map (fun d => d.parameters.length) = some 2 := by decide +kernel
abbrev c_Md_tells : ByteArray := prog_9_method_8_code
def y_Md_tells : MethodName := ⟨R_Md, "tells", "(III)I"⟩
abbrev wc_Md_tells : Cond := .code y_Md_tells c_Md_tells 4 (some .int)
abbrev ws_Md_tells : List Cond := wc_Md_tells :: tb
theorem hd_Md_tells : y_Md_tells.cls = R_Md ∧ y_Md_tells.cls ≠ "java/lang/invoke/MethodHandle" ∧ y_Md_tells.cls ≠ "java/lang/invoke/VarHandle" ∧ (parseMethodDescriptor y_Md_tells.desc).map (fun d => d.parameters.length) = some 3 := by decide +kernel
abbrev c_Md_goes : ByteArray := prog_9_method_9_code
def y_Md_goes : MethodName := ⟨R_Md, "goes", "(II)I"⟩
abbrev wc_Md_goes : Cond := .code y_Md_goes c_Md_goes 3 (some .int)
abbrev ws_Md_goes : List Cond := wc_Md_goes :: tb
theorem hd_Md_goes : y_Md_goes.cls = R_Md ∧ y_Md_goes.cls ≠ "java/lang/invoke/MethodHandle" ∧ y_Md_goes.cls ≠ "java/lang/invoke/VarHandle" ∧ (parseMethodDescriptor y_Md_goes.desc).map (fun d => d.parameters.length) = some 2 := by decide +kernel
abbrev c_Md_leastAt : ByteArray := prog_9_method_10_code
def y_Md_leastAt : MethodName := ⟨R_Md, "leastAt", "(II)I"⟩
abbrev wc_Md_leastAt : Cond := .code y_Md_leastAt c_Md_leastAt 3 (some .int)
abbrev ws_Md_leastAt : List Cond := wc_Md_leastAt :: tb
theorem hd_Md_leastAt : y_Md_leastAt.cls = R_Md ∧ y_Md_leastAt.cls ≠ "java/lang/invoke/MethodHandle" ∧ y_Md_leastAt.cls ≠ "java/lang/invoke/VarHandle" ∧ (parseMethodDescriptor y_Md_leastAt.desc).map (fun d => d.parameters.length) = some 2 := by decide +kernel
abbrev c_Md_with : ByteArray := prog_9_method_11_code
def y_Md_with : MethodName := ⟨R_Md, "with", "(III)I"⟩
abbrev wc_Md_with : Cond := .code y_Md_with c_Md_with 5 (some .int)
abbrev ws_Md_with : List Cond := wc_Md_with :: tb
theorem hd_Md_with : y_Md_with.cls = R_Md ∧ y_Md_with.cls ≠ "java/lang/invoke/MethodHandle" ∧ y_Md_with.cls ≠ "java/lang/invoke/VarHandle" ∧ (parseMethodDescriptor y_Md_with.desc).map (fun d => d.parameters.length) = some 3 := by decide +kernel
abbrev c_Md_isOther : ByteArray := prog_9_method_12_code
def y_Md_isOther : MethodName := ⟨R_Md, "isOther", "(II)Z"⟩
abbrev wc_Md_isOther : Cond := .code y_Md_isOther c_Md_isOther 5 (some .boolean)
abbrev ws_Md_isOther : List Cond := wc_Md_isOther :: tb
theorem hd_Md_isOther : y_Md_isOther.cls = R_Md ∧ y_Md_isOther.cls ≠ "java/lang/invoke/MethodHandle" ∧ y_Md_isOther.cls ≠ "java/lang/invoke/VarHandle" ∧ (parseMethodDescriptor y_Md_isOther.desc).map (fun d => d.parameters.length) = some 2 := by decide +kernel
abbrev c_Md_relax : ByteArray := prog_9_method_13_code
def y_Md_relax : MethodName := ⟨R_Md, "relax", "()V"⟩
abbrev wc_Md_relax : Cond := .code y_Md_relax c_Md_relax 6 none
abbrev ws_Md_relax : List Cond := wc_Md_relax :: tb
theorem hd_Md_relax : y_Md_relax.cls = R_Md ∧ y_Md_relax.cls ≠ "java/lang/invoke/MethodHandle" ∧ y_Md_relax.cls ≠ "java/lang/invoke/VarHandle" ∧ (parseMethodDescriptor y_Md_relax.desc).map (fun d => d.parameters.length) = some 0 := by decide +kernel
abbrev c_Md_add : ByteArray := prog_9_method_14_code
def y_Md_add : MethodName := ⟨R_Md, "add", "(I)V"⟩
abbrev wc_Md_add : Cond := .code y_Md_add c_Md_add 2 none
abbrev ws_Md_add : List Cond := wc_Md_add :: tb
theorem hd_Md_add : y_Md_add.cls = R_Md ∧ y_Md_add.cls ≠ "java/lang/invoke/MethodHandle" ∧ y_Md_add.cls ≠ "java/lang/invoke/VarHandle" ∧ (parseMethodDescriptor y_Md_add.desc).map (fun d => d.parameters.length) = some 1 := by decide +kernel
abbrev c_Md_check : ByteArray := prog_9_method_15_code
def y_Md_check : MethodName := ⟨R_Md, "check", "([II)I"⟩
abbrev wc_Md_check : Cond := .code y_Md_check c_Md_check 4 (some .int)
abbrev ws_Md_check : List Cond := wc_Md_check :: tb
theorem hd_Md_check : y_Md_check.cls = R_Md ∧ y_Md_check.cls ≠ "java/lang/invoke/MethodHandle" ∧ y_Md_check.cls ≠ "java/lang/invoke/VarHandle" ∧ (parseMethodDescriptor y_Md_check.desc).map (fun d => d.parameters.length) = some 2 := by decide +kernel
abbrev c_Md_pack : ByteArray := prog_9_method_16_code
def y_Md_pack : MethodName := ⟨R_Md, "pack", "()I"⟩
abbrev wc_Md_pack : Cond := .code y_Md_pack c_Md_pack 5 (some .int)
abbrev ws_Md_pack : List Cond := wc_Md_pack :: tb
theorem hd_Md_pack : y_Md_pack.cls = R_Md ∧ y_Md_pack.cls ≠ "java/lang/invoke/MethodHandle" ∧ y_Md_pack.cls ≠ "java/lang/invoke/VarHandle" ∧ (parseMethodDescriptor y_Md_pack.desc).map (fun d => d.parameters.length) = some 0 := by decide +kernel
abbrev c_Md_symbol : ByteArray := prog_9_method_17_code
def y_Md_symbol : MethodName := ⟨R_Md, "symbol", "(I)I"⟩
abbrev wc_Md_symbol : Cond := .code y_Md_symbol c_Md_symbol 2 (some .int)
abbrev ws_Md_symbol : List Cond := wc_Md_symbol :: tb
theorem hd_Md_symbol : y_Md_symbol.cls = R_Md ∧ y_Md_symbol.cls ≠ "java/lang/invoke/MethodHandle" ∧ y_Md_symbol.cls ≠ "java/lang/invoke/VarHandle" ∧ (parseMethodDescriptor y_Md_symbol.desc).map (fun d => d.parameters.length) = some 1 := by decide +kernel
abbrev c_Md_lay : ByteArray := prog_9_method_18_code
def y_Md_lay : MethodName := ⟨R_Md, "lay", "(III)V"⟩
abbrev wc_Md_lay : Cond := .code y_Md_lay c_Md_lay 6 none
abbrev ws_Md_lay : List Cond := wc_Md_lay :: tb
theorem hd_Md_lay : y_Md_lay.cls = R_Md ∧ y_Md_lay.cls ≠ "java/lang/invoke/MethodHandle" ∧ y_Md_lay.cls ≠ "java/lang/invoke/VarHandle" ∧ (parseMethodDescriptor y_Md_lay.desc).map (fun d => d.parameters.length) = some 3 := by decide +kernel
abbrev c_Md_noModule : ByteArray := prog_9_method_19_code
def y_Md_noModule : MethodName := ⟨R_Md, "noModule", "(I)Z"⟩
abbrev wc_Md_noModule : Cond := .code y_Md_noModule c_Md_noModule 1 (some .boolean)
abbrev ws_Md_noModule : List Cond := wc_Md_noModule :: tb
theorem hd_Md_noModule : y_Md_noModule.cls = R_Md ∧ y_Md_noModule.cls ≠ "java/lang/invoke/MethodHandle" ∧ y_Md_noModule.cls ≠ "java/lang/invoke/VarHandle" ∧ (parseMethodDescriptor y_Md_noModule.desc).map (fun d => d.parameters.length) = some 1 := by decide +kernel
abbrev c_Md_bars : ByteArray := prog_9_method_20_code
def y_Md_bars : MethodName := ⟨R_Md, "bars", "(I)I"⟩
abbrev wc_Md_bars : Cond := .code y_Md_bars c_Md_bars 3 (some .int)
abbrev ws_Md_bars : List Cond := wc_Md_bars :: tb
theorem hd_Md_bars : y_Md_bars.cls = R_Md ∧ y_Md_bars.cls ≠ "java/lang/invoke/MethodHandle" ∧ y_Md_bars.cls ≠ "java/lang/invoke/VarHandle" ∧ (parseMethodDescriptor y_Md_bars.desc).map (fun d => d.parameters.length) = some 1 := by decide +kernel
abbrev c_Md_noTwelve : ByteArray := prog_9_method_21_code
def y_Md_noTwelve : MethodName := ⟨R_Md, "noTwelve", "(J)Z"⟩
abbrev wc_Md_noTwelve : Cond := .code y_Md_noTwelve c_Md_noTwelve 2 (some .boolean)
abbrev ws_Md_noTwelve : List Cond := wc_Md_noTwelve :: tb
theorem hd_Md_noTwelve : y_Md_noTwelve.cls = R_Md ∧ y_Md_noTwelve.cls ≠ "java/lang/invoke/MethodHandle" ∧ y_Md_noTwelve.cls ≠ "java/lang/invoke/VarHandle" ∧ (parseMethodDescriptor y_Md_noTwelve.desc).map (fun d => d.parameters.length) = some 1 := by decide +kernel
abbrev c_Md_figure : ByteArray := prog_9_method_22_code
def y_Md_figure : MethodName := ⟨R_Md, "figure", "(JI)I"⟩
abbrev wc_Md_figure : Cond := .code y_Md_figure c_Md_figure 6 (some .int)
abbrev ws_Md_figure : List Cond := wc_Md_figure :: tb
theorem hd_Md_figure : y_Md_figure.cls = R_Md ∧ y_Md_figure.cls ≠ "java/lang/invoke/MethodHandle" ∧ y_Md_figure.cls ≠ "java/lang/invoke/VarHandle" ∧ (parseMethodDescriptor y_Md_figure.desc).map (fun d => d.parameters.length) = some 2 := by decide +kernel
abbrev c_Md_checkFigure : ByteArray := prog_9_method_23_code
def y_Md_checkFigure : MethodName := ⟨R_Md, "checkFigure", "(J)I"⟩
abbrev wc_Md_checkFigure : Cond := .code y_Md_checkFigure c_Md_checkFigure 5 (some .int)
abbrev ws_Md_checkFigure : List Cond := wc_Md_checkFigure :: tb
theorem hd_Md_checkFigure : y_Md_checkFigure.cls = R_Md ∧ y_Md_checkFigure.cls ≠ "java/lang/invoke/MethodHandle" ∧ y_Md_checkFigure.cls ≠ "java/lang/invoke/VarHandle" ∧ (parseMethodDescriptor y_Md_checkFigure.desc).map (fun d => d.parameters.length) = some 1 := by decide +kernel
abbrev c_Md_reversed : ByteArray := prog_9_method_24_code
def y_Md_reversed : MethodName := ⟨R_Md, "reversed", "(I)I"⟩
abbrev wc_Md_reversed : Cond := .code y_Md_reversed c_Md_reversed 1 (some .int)
abbrev ws_Md_reversed : List Cond := wc_Md_reversed :: tb
theorem hd_Md_reversed : y_Md_reversed.cls = R_Md ∧ y_Md_reversed.cls ≠ "java/lang/invoke/MethodHandle" ∧ y_Md_reversed.cls ≠ "java/lang/invoke/VarHandle" ∧ (parseMethodDescriptor y_Md_reversed.desc).map (fun d => d.parameters.length) = some 1 := by decide +kernel
abbrev c_Md_isTurned : ByteArray := prog_9_method_25_code
def y_Md_isTurned : MethodName := ⟨R_Md, "isTurned", "(II)Z"⟩
abbrev wc_Md_isTurned : Cond := .code y_Md_isTurned c_Md_isTurned 3 (some .boolean)
abbrev ws_Md_isTurned : List Cond := wc_Md_isTurned :: tb
theorem hd_Md_isTurned : y_Md_isTurned.cls = R_Md ∧ y_Md_isTurned.cls ≠ "java/lang/invoke/MethodHandle" ∧ y_Md_isTurned.cls ≠ "java/lang/invoke/VarHandle" ∧ (parseMethodDescriptor y_Md_isTurned.desc).map (fun d => d.parameters.length) = some 2 := by decide +kernel
abbrev c_Md_thirteen : ByteArray := prog_9_method_26_code
def y_Md_thirteen : MethodName := ⟨R_Md, "thirteen", "(JI)I"⟩
abbrev wc_Md_thirteen : Cond := .code y_Md_thirteen c_Md_thirteen 7 (some .int)
abbrev ws_Md_thirteen : List Cond := wc_Md_thirteen :: tb
theorem hd_Md_thirteen : y_Md_thirteen.cls = R_Md ∧ y_Md_thirteen.cls ≠ "java/lang/invoke/MethodHandle" ∧ y_Md_thirteen.cls ≠ "java/lang/invoke/VarHandle" ∧ (parseMethodDescriptor y_Md_thirteen.desc).map (fun d => d.parameters.length) = some 2 := by decide +kernel
abbrev c_Md_put : ByteArray := prog_9_method_27_code
def y_Md_put : MethodName := ⟨R_Md, "put", "(IJ)I"⟩
abbrev wc_Md_put : Cond := .code y_Md_put c_Md_put 5 (some .int)
abbrev ws_Md_put : List Cond := wc_Md_put :: tb
theorem hd_Md_put : y_Md_put.cls = R_Md ∧ y_Md_put.cls ≠ "java/lang/invoke/MethodHandle" ∧ y_Md_put.cls ≠ "java/lang/invoke/VarHandle" ∧ (parseMethodDescriptor y_Md_put.desc).map (fun d => d.parameters.length) = some 2 := by decide +kernel
abbrev c_Md_clear : ByteArray := prog_9_method_28_code
def y_Md_clear : MethodName := ⟨R_Md, "clear", "()I"⟩
abbrev wc_Md_clear : Cond := .code y_Md_clear c_Md_clear 2 (some .int)
abbrev ws_Md_clear : List Cond := wc_Md_clear :: tb
theorem hd_Md_clear : y_Md_clear.cls = R_Md ∧ y_Md_clear.cls ≠ "java/lang/invoke/MethodHandle" ∧ y_Md_clear.cls ≠ "java/lang/invoke/VarHandle" ∧ (parseMethodDescriptor y_Md_clear.desc).map (fun d => d.parameters.length) = some 0 := by decide +kernel
abbrev c_Md_width : ByteArray := prog_9_method_29_code
def y_Md_width : MethodName := ⟨R_Md, "width", "(I)I"⟩
abbrev wc_Md_width : Cond := .code y_Md_width c_Md_width 2 (some .int)
abbrev ws_Md_width : List Cond := wc_Md_width :: tb
theorem hd_Md_width : y_Md_width.cls = R_Md ∧ y_Md_width.cls ≠ "java/lang/invoke/MethodHandle" ∧ y_Md_width.cls ≠ "java/lang/invoke/VarHandle" ∧ (parseMethodDescriptor y_Md_width.desc).map (fun d => d.parameters.length) = some 1 := by decide +kernel
abbrev c_Md_spoil : ByteArray := prog_9_method_30_code
def y_Md_spoil : MethodName := ⟨R_Md, "spoil", "(II)I"⟩
abbrev wc_Md_spoil : Cond := .code y_Md_spoil c_Md_spoil 4 (some .int)
abbrev ws_Md_spoil : List Cond := wc_Md_spoil :: tb
theorem hd_Md_spoil : y_Md_spoil.cls = R_Md ∧ y_Md_spoil.cls ≠ "java/lang/invoke/MethodHandle" ∧ y_Md_spoil.cls ≠ "java/lang/invoke/VarHandle" ∧ (parseMethodDescriptor y_Md_spoil.desc).map (fun d => d.parameters.length) = some 2 := by decide +kernel
abbrev c_Md_reverse : ByteArray := prog_9_method_31_code
def y_Md_reverse : MethodName := ⟨R_Md, "reverse", "([I[I)V"⟩
abbrev wc_Md_reverse : Cond := .code y_Md_reverse c_Md_reverse 4 none
abbrev ws_Md_reverse : List Cond := wc_Md_reverse :: tb
theorem hd_Md_reverse : y_Md_reverse.cls = R_Md ∧ y_Md_reverse.cls ≠ "java/lang/invoke/MethodHandle" ∧ y_Md_reverse.cls ≠ "java/lang/invoke/VarHandle" ∧ (parseMethodDescriptor y_Md_reverse.desc).map (fun d => d.parameters.length) = some 2 := by decide +kernel
abbrev c_Md_turn : ByteArray := prog_9_method_32_code
def y_Md_turn : MethodName := ⟨R_Md, "turn", "()I"⟩
abbrev wc_Md_turn : Cond := .code y_Md_turn c_Md_turn 1 (some .int)
abbrev ws_Md_turn : List Cond := wc_Md_turn :: tb
theorem hd_Md_turn : y_Md_turn.cls = R_Md ∧ y_Md_turn.cls ≠ "java/lang/invoke/MethodHandle" ∧ y_Md_turn.cls ≠ "java/lang/invoke/VarHandle" ∧ (parseMethodDescriptor y_Md_turn.desc).map (fun d => d.parameters.length) = some 0 := by decide +kernel
abbrev c_Md_counts : ByteArray := prog_9_method_33_code
def y_Md_counts : MethodName := ⟨R_Md, "counts", "(IIII)I"⟩
abbrev wc_Md_counts : Cond := .code y_Md_counts c_Md_counts 8 (some .int)
abbrev ws_Md_counts : List Cond := wc_Md_counts :: tb
theorem hd_Md_counts : y_Md_counts.cls = R_Md ∧ y_Md_counts.cls ≠ "java/lang/invoke/MethodHandle" ∧ y_Md_counts.cls ≠ "java/lang/invoke/VarHandle" ∧ (parseMethodDescriptor y_Md_counts.desc).map (fun d => d.parameters.length) = some 4 := by decide +kernel
abbrev c_Md_sumOf : ByteArray := prog_9_method_34_code
def y_Md_sumOf : MethodName := ⟨R_Md, "sumOf", "(II)I"⟩
abbrev wc_Md_sumOf : Cond := .code y_Md_sumOf c_Md_sumOf 5 (some .int)
abbrev ws_Md_sumOf : List Cond := wc_Md_sumOf :: tb
theorem hd_Md_sumOf : y_Md_sumOf.cls = R_Md ∧ y_Md_sumOf.cls ≠ "java/lang/invoke/MethodHandle" ∧ y_Md_sumOf.cls ≠ "java/lang/invoke/VarHandle" ∧ (parseMethodDescriptor y_Md_sumOf.desc).map (fun d => d.parameters.length) = some 2 := by decide +kernel
abbrev c_Md_place : ByteArray := prog_9_method_35_code
def y_Md_place : MethodName := ⟨R_Md, "place", "([II)I"⟩
abbrev wc_Md_place : Cond := .code y_Md_place c_Md_place 3 (some .int)
abbrev ws_Md_place : List Cond := wc_Md_place :: tb
theorem hd_Md_place : y_Md_place.cls = R_Md ∧ y_Md_place.cls ≠ "java/lang/invoke/MethodHandle" ∧ y_Md_place.cls ≠ "java/lang/invoke/VarHandle" ∧ (parseMethodDescriptor y_Md_place.desc).map (fun d => d.parameters.length) = some 2 := by decide +kernel
abbrev c_Md_isThirteen : ByteArray := prog_9_method_36_code
def y_Md_isThirteen : MethodName := ⟨R_Md, "isThirteen", "()Z"⟩
abbrev wc_Md_isThirteen : Cond := .code y_Md_isThirteen c_Md_isThirteen 7 (some .boolean)
abbrev ws_Md_isThirteen : List Cond := wc_Md_isThirteen :: tb
theorem hd_Md_isThirteen : y_Md_isThirteen.cls = R_Md ∧ y_Md_isThirteen.cls ≠ "java/lang/invoke/MethodHandle" ∧ y_Md_isThirteen.cls ≠ "java/lang/invoke/VarHandle" ∧ (parseMethodDescriptor y_Md_isThirteen.desc).map (fun d => d.parameters.length) = some 0 := by decide +kernel
abbrev c_Md_tell : ByteArray := prog_9_method_37_code
def y_Md_tell : MethodName := ⟨R_Md, "tell", "(I)V"⟩
abbrev wc_Md_tell : Cond := .code y_Md_tell c_Md_tell 2 none
abbrev ws_Md_tell : List Cond := wc_Md_tell :: tb
theorem hd_Md_tell : y_Md_tell.cls = R_Md ∧ y_Md_tell.cls ≠ "java/lang/invoke/MethodHandle" ∧ y_Md_tell.cls ≠ "java/lang/invoke/VarHandle" ∧ (parseMethodDescriptor y_Md_tell.desc).map (fun d => d.parameters.length) = some 1 := by decide +kernel
abbrev c_Md_isRow : ByteArray := prog_9_method_38_code
def y_Md_isRow : MethodName := ⟨R_Md, "isRow", "(I)Z"⟩
abbrev wc_Md_isRow : Cond := .code y_Md_isRow c_Md_isRow 5 (some .boolean)
abbrev ws_Md_isRow : List Cond := wc_Md_isRow :: tb
theorem hd_Md_isRow : y_Md_isRow.cls = R_Md ∧ y_Md_isRow.cls ≠ "java/lang/invoke/MethodHandle" ∧ y_Md_isRow.cls ≠ "java/lang/invoke/VarHandle" ∧ (parseMethodDescriptor y_Md_isRow.desc).map (fun d => d.parameters.length) = some 1 := by decide +kernel
abbrev c_Md_isSome : ByteArray := prog_9_method_39_code
def y_Md_isSome : MethodName := ⟨R_Md, "isSome", "()Z"⟩
abbrev wc_Md_isSome : Cond := .code y_Md_isSome c_Md_isSome 1 (some .boolean)
abbrev ws_Md_isSome : List Cond := wc_Md_isSome :: tb
theorem hd_Md_isSome : y_Md_isSome.cls = R_Md ∧ y_Md_isSome.cls ≠ "java/lang/invoke/MethodHandle" ∧ y_Md_isSome.cls ≠ "java/lang/invoke/VarHandle" ∧ (parseMethodDescriptor y_Md_isSome.desc).map (fun d => d.parameters.length) = some 0 := by decide +kernel
abbrev c_Md_read : ByteArray := prog_9_method_40_code
def y_Md_read : MethodName := ⟨R_Md, "read", "()I"⟩
abbrev wc_Md_read : Cond := .code y_Md_read c_Md_read 4 (some .int)
abbrev ws_Md_read : List Cond := wc_Md_read :: tb
theorem hd_Md_read : y_Md_read.cls = R_Md ∧ y_Md_read.cls ≠ "java/lang/invoke/MethodHandle" ∧ y_Md_read.cls ≠ "java/lang/invoke/VarHandle" ∧ (parseMethodDescriptor y_Md_read.desc).map (fun d => d.parameters.length) = some 0 := by decide +kernel
abbrev c_Md_sign : ByteArray := prog_9_method_41_code
def y_Md_sign : MethodName := ⟨R_Md, "sign", "(I)I"⟩
abbrev wc_Md_sign : Cond := .code y_Md_sign c_Md_sign 2 (some .int)
abbrev ws_Md_sign : List Cond := wc_Md_sign :: tb
theorem hd_Md_sign : y_Md_sign.cls = R_Md ∧ y_Md_sign.cls ≠ "java/lang/invoke/MethodHandle" ∧ y_Md_sign.cls ≠ "java/lang/invoke/VarHandle" ∧ (parseMethodDescriptor y_Md_sign.desc).map (fun d => d.parameters.length) = some 1 := by decide +kernel
abbrev c_Md_backwards : ByteArray := prog_9_method_42_code
def y_Md_backwards : MethodName := ⟨R_Md, "backwards", "()Z"⟩
abbrev wc_Md_backwards : Cond := .code y_Md_backwards c_Md_backwards 1 (some .boolean)
abbrev ws_Md_backwards : List Cond := wc_Md_backwards :: tb
theorem hd_Md_backwards : y_Md_backwards.cls = R_Md ∧ y_Md_backwards.cls ≠ "java/lang/invoke/MethodHandle" ∧ y_Md_backwards.cls ≠ "java/lang/invoke/VarHandle" ∧ (parseMethodDescriptor y_Md_backwards.desc).map (fun d => d.parameters.length) = some 0 := by decide +kernel
abbrev c_Fi_figureOf : ByteArray := prog_2_method_2_code
def y_Fi_figureOf : MethodName := ⟨R_Fi, "figureOf", "(JI)I"⟩
abbrev wc_Fi_figureOf : Cond := .code y_Fi_figureOf c_Fi_figureOf 6 (some .int)
abbrev ws_Fi_figureOf : List Cond := wc_Fi_figureOf :: tb
theorem hd_Fi_figureOf : y_Fi_figureOf.cls = R_Fi ∧ y_Fi_figureOf.cls ≠ "java/lang/invoke/MethodHandle" ∧ y_Fi_figureOf.cls ≠ "java/lang/invoke/VarHandle" ∧ (parseMethodDescriptor y_Fi_figureOf.desc).map (fun d => d.parameters.length) = some 2 := by decide +kernel
abbrev c_Fi_weightOf : ByteArray := prog_2_method_3_code
def y_Fi_weightOf : MethodName := ⟨R_Fi, "weightOf", "(I)I"⟩
abbrev wc_Fi_weightOf : Cond := .code y_Fi_weightOf c_Fi_weightOf 1 (some .int)
abbrev ws_Fi_weightOf : List Cond := wc_Fi_weightOf :: tb
theorem hd_Fi_weightOf : y_Fi_weightOf.cls = R_Fi ∧ y_Fi_weightOf.cls ≠ "java/lang/invoke/MethodHandle" ∧ y_Fi_weightOf.cls ≠ "java/lang/invoke/VarHandle" ∧ (parseMethodDescriptor y_Fi_weightOf.desc).map (fun d => d.parameters.length) = some 1 := by decide +kernel
abbrev c_Fi_checkOf : ByteArray := prog_2_method_4_code
def y_Fi_checkOf : MethodName := ⟨R_Fi, "checkOf", "(J)I"⟩
abbrev wc_Fi_checkOf : Cond := .code y_Fi_checkOf c_Fi_checkOf 4 (some .int)
abbrev ws_Fi_checkOf : List Cond := wc_Fi_checkOf :: tb
theorem hd_Fi_checkOf : y_Fi_checkOf.cls = R_Fi ∧ y_Fi_checkOf.cls ≠ "java/lang/invoke/MethodHandle" ∧ y_Fi_checkOf.cls ≠ "java/lang/invoke/VarHandle" ∧ (parseMethodDescriptor y_Fi_checkOf.desc).map (fun d => d.parameters.length) = some 1 := by decide +kernel
abbrev c_It_init : ByteArray := prog_3_method_1_code
def y_It_init : MethodName := ⟨R_It, "<init>", "(I)V"⟩
abbrev wc_It_init : Cond := .code y_It_init c_It_init 2 none
abbrev ws_It_init : List Cond := wc_It_init :: tb
theorem hd_It_init : y_It_init.cls = R_It ∧ y_It_init.cls ≠ "java/lang/invoke/MethodHandle" ∧ y_It_init.cls ≠ "java/lang/invoke/VarHandle" ∧ (parseMethodDescriptor y_It_init.desc).map (fun d => d.parameters.length) = some 1 := by decide +kernel
abbrev c_It_count : ByteArray := prog_3_method_2_code
def y_It_count : MethodName := ⟨R_It, "count", "()I"⟩
abbrev wc_It_count : Cond := .code y_It_count c_It_count 1 (some .int)
abbrev ws_It_count : List Cond := wc_It_count :: tb
theorem hd_It_count : y_It_count.cls = R_It ∧ y_It_count.cls ≠ "java/lang/invoke/MethodHandle" ∧ y_It_count.cls ≠ "java/lang/invoke/VarHandle" ∧ (parseMethodDescriptor y_It_count.desc).map (fun d => d.parameters.length) = some 0 := by decide +kernel
abbrev c_It_hasRoomFor : ByteArray := prog_3_method_3_code
def y_It_hasRoomFor : MethodName := ⟨R_It, "hasRoomFor", "(I)Z"⟩
abbrev wc_It_hasRoomFor : Cond := .code y_It_hasRoomFor c_It_hasRoomFor 2 (some .boolean)
abbrev ws_It_hasRoomFor : List Cond := wc_It_hasRoomFor :: tb
theorem hd_It_hasRoomFor : y_It_hasRoomFor.cls = R_It ∧ y_It_hasRoomFor.cls ≠ "java/lang/invoke/MethodHandle" ∧ y_It_hasRoomFor.cls ≠ "java/lang/invoke/VarHandle" ∧ (parseMethodDescriptor y_It_hasRoomFor.desc).map (fun d => d.parameters.length) = some 1 := by decide +kernel
abbrev c_It_at : ByteArray := prog_3_method_4_code
def y_It_at : MethodName := ⟨R_It, "at", "(I)I"⟩
abbrev wc_It_at : Cond := .code y_It_at c_It_at 2 (some .int)
abbrev ws_It_at : List Cond := wc_It_at :: tb
theorem hd_It_at : y_It_at.cls = R_It ∧ y_It_at.cls ≠ "java/lang/invoke/MethodHandle" ∧ y_It_at.cls ≠ "java/lang/invoke/VarHandle" ∧ (parseMethodDescriptor y_It_at.desc).map (fun d => d.parameters.length) = some 1 := by decide +kernel
abbrev c_It_add : ByteArray := prog_3_method_5_code
def y_It_add : MethodName := ⟨R_It, "add", "(I)Z"⟩
abbrev wc_It_add : Cond := .code y_It_add c_It_add 2 (some .boolean)
abbrev ws_It_add : List Cond := wc_It_add :: tb
theorem hd_It_add : y_It_add.cls = R_It ∧ y_It_add.cls ≠ "java/lang/invoke/MethodHandle" ∧ y_It_add.cls ≠ "java/lang/invoke/VarHandle" ∧ (parseMethodDescriptor y_It_add.desc).map (fun d => d.parameters.length) = some 1 := by decide +kernel
abbrev c_It_replace : ByteArray := prog_3_method_6_code
def y_It_replace : MethodName := ⟨R_It, "replace", "(II)I"⟩
abbrev wc_It_replace : Cond := .code y_It_replace c_It_replace 4 (some .int)
abbrev ws_It_replace : List Cond := wc_It_replace :: tb
theorem hd_It_replace : y_It_replace.cls = R_It ∧ y_It_replace.cls ≠ "java/lang/invoke/MethodHandle" ∧ y_It_replace.cls ≠ "java/lang/invoke/VarHandle" ∧ (parseMethodDescriptor y_It_replace.desc).map (fun d => d.parameters.length) = some 2 := by decide +kernel
abbrev c_It_empty : ByteArray := prog_3_method_7_code
def y_It_empty : MethodName := ⟨R_It, "empty", "()I"⟩
abbrev wc_It_empty : Cond := .code y_It_empty c_It_empty 2 (some .int)
abbrev ws_It_empty : List Cond := wc_It_empty :: tb
theorem hd_It_empty : y_It_empty.cls = R_It ∧ y_It_empty.cls ≠ "java/lang/invoke/MethodHandle" ∧ y_It_empty.cls ≠ "java/lang/invoke/VarHandle" ∧ (parseMethodDescriptor y_It_empty.desc).map (fun d => d.parameters.length) = some 0 := by decide +kernel
abbrev c_It_reverse : ByteArray := prog_3_method_8_code
def y_It_reverse : MethodName := ⟨R_It, "reverse", "()V"⟩
abbrev wc_It_reverse : Cond := .code y_It_reverse c_It_reverse 2 none
abbrev ws_It_reverse : List Cond := wc_It_reverse :: tb
theorem hd_It_reverse : y_It_reverse.cls = R_It ∧ y_It_reverse.cls ≠ "java/lang/invoke/MethodHandle" ∧ y_It_reverse.cls ≠ "java/lang/invoke/VarHandle" ∧ (parseMethodDescriptor y_It_reverse.desc).map (fun d => d.parameters.length) = some 0 := by decide +kernel
abbrev c_Pa_init : ByteArray := prog_4_method_1_code
def y_Pa_init : MethodName := ⟨R_Pa, "<init>", "(LLineCodes$Items;LLineCodes$Items;)V"⟩
abbrev wc_Pa_init : Cond := .code y_Pa_init c_Pa_init 3 none
abbrev ws_Pa_init : List Cond := wc_Pa_init :: tb
theorem hd_Pa_init : y_Pa_init.cls = R_Pa ∧ y_Pa_init.cls ≠ "java/lang/invoke/MethodHandle" ∧ y_Pa_init.cls ≠ "java/lang/invoke/VarHandle" ∧ (parseMethodDescriptor y_Pa_init.desc).map (fun d => d.parameters.length) = some 2 := by decide +kernel
abbrev c_Pa_makeRow : ByteArray := prog_4_method_2_code
def y_Pa_makeRow : MethodName := ⟨R_Pa, "makeRow", "()V"⟩
abbrev wc_Pa_makeRow : Cond := .code y_Pa_makeRow c_Pa_makeRow 2 none
abbrev ws_Pa_makeRow : List Cond := wc_Pa_makeRow :: tb
theorem hd_Pa_makeRow : y_Pa_makeRow.cls = R_Pa ∧ y_Pa_makeRow.cls ≠ "java/lang/invoke/MethodHandle" ∧ y_Pa_makeRow.cls ≠ "java/lang/invoke/VarHandle" ∧ (parseMethodDescriptor y_Pa_makeRow.desc).map (fun d => d.parameters.length) = some 0 := by decide +kernel
abbrev c_Pa_fillCosts : ByteArray := prog_4_method_3_code
def y_Pa_fillCosts : MethodName := ⟨R_Pa, "fillCosts", "(I)V"⟩
abbrev wc_Pa_fillCosts : Cond := .code y_Pa_fillCosts c_Pa_fillCosts 5 none
abbrev ws_Pa_fillCosts : List Cond := wc_Pa_fillCosts :: tb
theorem hd_Pa_fillCosts : y_Pa_fillCosts.cls = R_Pa ∧ y_Pa_fillCosts.cls ≠ "java/lang/invoke/MethodHandle" ∧ y_Pa_fillCosts.cls ≠ "java/lang/invoke/VarHandle" ∧ (parseMethodDescriptor y_Pa_fillCosts.desc).map (fun d => d.parameters.length) = some 1 := by decide +kernel
abbrev c_Pa_costOfTelling : ByteArray := prog_4_method_4_code
def y_Pa_costOfTelling : MethodName := ⟨R_Pa, "costOfTelling", "(II)I"⟩
abbrev wc_Pa_costOfTelling : Cond := .code y_Pa_costOfTelling c_Pa_costOfTelling 5 (some .int)
abbrev ws_Pa_costOfTelling : List Cond := wc_Pa_costOfTelling :: tb
theorem hd_Pa_costOfTelling : y_Pa_costOfTelling.cls = R_Pa ∧ y_Pa_costOfTelling.cls ≠ "java/lang/invoke/MethodHandle" ∧ y_Pa_costOfTelling.cls ≠ "java/lang/invoke/VarHandle" ∧ (parseMethodDescriptor y_Pa_costOfTelling.desc).map (fun d => d.parameters.length) = some 2 := by decide +kernel
abbrev c_Pa_addSymbols : ByteArray := prog_4_method_5_code
def y_Pa_addSymbols : MethodName := ⟨R_Pa, "addSymbols", "()V"⟩
abbrev wc_Pa_addSymbols : Cond := .code y_Pa_addSymbols c_Pa_addSymbols 5 none
abbrev ws_Pa_addSymbols : List Cond := wc_Pa_addSymbols :: tb
theorem hd_Pa_addSymbols : y_Pa_addSymbols.cls = R_Pa ∧ y_Pa_addSymbols.cls ≠ "java/lang/invoke/MethodHandle" ∧ y_Pa_addSymbols.cls ≠ "java/lang/invoke/VarHandle" ∧ (parseMethodDescriptor y_Pa_addSymbols.desc).map (fun d => d.parameters.length) = some 0 := by decide +kernel
abbrev c_Pa_cheapestFirstSet : ByteArray := prog_4_method_6_code
def y_Pa_cheapestFirstSet : MethodName := ⟨R_Pa, "cheapestFirstSet", "()I"⟩
abbrev wc_Pa_cheapestFirstSet : Cond := .code y_Pa_cheapestFirstSet c_Pa_cheapestFirstSet 3 (some .int)
abbrev ws_Pa_cheapestFirstSet : List Cond := wc_Pa_cheapestFirstSet :: tb
theorem hd_Pa_cheapestFirstSet : y_Pa_cheapestFirstSet.cls = R_Pa ∧ y_Pa_cheapestFirstSet.cls ≠ "java/lang/invoke/MethodHandle" ∧ y_Pa_cheapestFirstSet.cls ≠ "java/lang/invoke/VarHandle" ∧ (parseMethodDescriptor y_Pa_cheapestFirstSet.desc).map (fun d => d.parameters.length) = some 0 := by decide +kernel
abbrev c_Pa_nextSet : ByteArray := prog_4_method_7_code
def y_Pa_nextSet : MethodName := ⟨R_Pa, "nextSet", "(II)I"⟩
abbrev wc_Pa_nextSet : Cond := .code y_Pa_nextSet c_Pa_nextSet 5 (some .int)
abbrev ws_Pa_nextSet : List Cond := wc_Pa_nextSet :: tb
theorem hd_Pa_nextSet : y_Pa_nextSet.cls = R_Pa ∧ y_Pa_nextSet.cls ≠ "java/lang/invoke/MethodHandle" ∧ y_Pa_nextSet.cls ≠ "java/lang/invoke/VarHandle" ∧ (parseMethodDescriptor y_Pa_nextSet.desc).map (fun d => d.parameters.length) = some 2 := by decide +kernel
abbrev c_Pa_addTold : ByteArray := prog_4_method_8_code
def y_Pa_addTold : MethodName := ⟨R_Pa, "addTold", "(II)I"⟩
abbrev wc_Pa_addTold : Cond := .code y_Pa_addTold c_Pa_addTold 5 (some .int)
abbrev ws_Pa_addTold : List Cond := wc_Pa_addTold :: tb
theorem hd_Pa_addTold : y_Pa_addTold.cls = R_Pa ∧ y_Pa_addTold.cls ≠ "java/lang/invoke/MethodHandle" ∧ y_Pa_addTold.cls ≠ "java/lang/invoke/VarHandle" ∧ (parseMethodDescriptor y_Pa_addTold.desc).map (fun d => d.parameters.length) = some 2 := by decide +kernel
abbrev c_Pa_checkSymbol : ByteArray := prog_4_method_9_code
def y_Pa_checkSymbol : MethodName := ⟨R_Pa, "checkSymbol", "()I"⟩
abbrev wc_Pa_checkSymbol : Cond := .code y_Pa_checkSymbol c_Pa_checkSymbol 3 (some .int)
abbrev ws_Pa_checkSymbol : List Cond := wc_Pa_checkSymbol :: tb
theorem hd_Pa_checkSymbol : y_Pa_checkSymbol.cls = R_Pa ∧ y_Pa_checkSymbol.cls ≠ "java/lang/invoke/MethodHandle" ∧ y_Pa_checkSymbol.cls ≠ "java/lang/invoke/VarHandle" ∧ (parseMethodDescriptor y_Pa_checkSymbol.desc).map (fun d => d.parameters.length) = some 0 := by decide +kernel
abbrev c_Pa_cost : ByteArray := prog_4_method_10_code
def y_Pa_cost : MethodName := ⟨R_Pa, "cost", "(II)I"⟩
abbrev wc_Pa_cost : Cond := .code y_Pa_cost c_Pa_cost 4 (some .int)
abbrev ws_Pa_cost : List Cond := wc_Pa_cost :: tb
theorem hd_Pa_cost : y_Pa_cost.cls = R_Pa ∧ y_Pa_cost.cls ≠ "java/lang/invoke/MethodHandle" ∧ y_Pa_cost.cls ≠ "java/lang/invoke/VarHandle" ∧ (parseMethodDescriptor y_Pa_cost.desc).map (fun d => d.parameters.length) = some 2 := by decide +kernel
abbrev c_Pa_setCost : ByteArray := prog_4_method_11_code
def y_Pa_setCost : MethodName := ⟨R_Pa, "setCost", "(III)V"⟩
abbrev wc_Pa_setCost : Cond := .code y_Pa_setCost c_Pa_setCost 5 none
abbrev ws_Pa_setCost : List Cond := wc_Pa_setCost :: tb
theorem hd_Pa_setCost : y_Pa_setCost.cls = R_Pa ∧ y_Pa_setCost.cls ≠ "java/lang/invoke/MethodHandle" ∧ y_Pa_setCost.cls ≠ "java/lang/invoke/VarHandle" ∧ (parseMethodDescriptor y_Pa_setCost.desc).map (fun d => d.parameters.length) = some 3 := by decide +kernel
abbrev c_Re_init : ByteArray := prog_5_method_1_code
def y_Re_init : MethodName := ⟨R_Re, "<init>", "(LLineCodes$Items;)V"⟩
abbrev wc_Re_init : Cond := .code y_Re_init c_Re_init 2 none
abbrev ws_Re_init : List Cond := wc_Re_init :: tb
theorem hd_Re_init : y_Re_init.cls = R_Re ∧ y_Re_init.cls ≠ "java/lang/invoke/MethodHandle" ∧ y_Re_init.cls ≠ "java/lang/invoke/VarHandle" ∧ (parseMethodDescriptor y_Re_init.desc).map (fun d => d.parameters.length) = some 1 := by decide +kernel
abbrev c_Re_toldCount : ByteArray := prog_5_method_2_code
def y_Re_toldCount : MethodName := ⟨R_Re, "toldCount", "()I"⟩
abbrev wc_Re_toldCount : Cond := .code y_Re_toldCount c_Re_toldCount 1 (some .int)
abbrev ws_Re_toldCount : List Cond := wc_Re_toldCount :: tb
theorem hd_Re_toldCount : y_Re_toldCount.cls = R_Re ∧ y_Re_toldCount.cls ≠ "java/lang/invoke/MethodHandle" ∧ y_Re_toldCount.cls ≠ "java/lang/invoke/VarHandle" ∧ (parseMethodDescriptor y_Re_toldCount.desc).map (fun d => d.parameters.length) = some 0 := by decide +kernel
abbrev c_Re_toldAt : ByteArray := prog_5_method_3_code
def y_Re_toldAt : MethodName := ⟨R_Re, "toldAt", "(I)I"⟩
abbrev wc_Re_toldAt : Cond := .code y_Re_toldAt c_Re_toldAt 2 (some .int)
abbrev ws_Re_toldAt : List Cond := wc_Re_toldAt :: tb
theorem hd_Re_toldAt : y_Re_toldAt.cls = R_Re ∧ y_Re_toldAt.cls ≠ "java/lang/invoke/MethodHandle" ∧ y_Re_toldAt.cls ≠ "java/lang/invoke/VarHandle" ∧ (parseMethodDescriptor y_Re_toldAt.desc).map (fun d => d.parameters.length) = some 1 := by decide +kernel
abbrev c_Re_isFromBack : ByteArray := prog_5_method_4_code
def y_Re_isFromBack : MethodName := ⟨R_Re, "isFromBack", "()Z"⟩
abbrev wc_Re_isFromBack : Cond := .code y_Re_isFromBack c_Re_isFromBack 1 (some .boolean)
abbrev ws_Re_isFromBack : List Cond := wc_Re_isFromBack :: tb
theorem hd_Re_isFromBack : y_Re_isFromBack.cls = R_Re ∧ y_Re_isFromBack.cls ≠ "java/lang/invoke/MethodHandle" ∧ y_Re_isFromBack.cls ≠ "java/lang/invoke/VarHandle" ∧ (parseMethodDescriptor y_Re_isFromBack.desc).map (fun d => d.parameters.length) = some 0 := by decide +kernel
abbrev c_Re_isReadable : ByteArray := prog_5_method_5_code
def y_Re_isReadable : MethodName := ⟨R_Re, "isReadable", "(Z)Z"⟩
abbrev wc_Re_isReadable : Cond := .code y_Re_isReadable c_Re_isReadable 3 (some .boolean)
abbrev ws_Re_isReadable : List Cond := wc_Re_isReadable :: tb
theorem hd_Re_isReadable : y_Re_isReadable.cls = R_Re ∧ y_Re_isReadable.cls ≠ "java/lang/invoke/MethodHandle" ∧ y_Re_isReadable.cls ≠ "java/lang/invoke/VarHandle" ∧ (parseMethodDescriptor y_Re_isReadable.desc).map (fun d => d.parameters.length) = some 1 := by decide +kernel
abbrev c_Re_isThirteen : ByteArray := prog_5_method_6_code
def y_Re_isThirteen : MethodName := ⟨R_Re, "isThirteen", "()Z"⟩
abbrev wc_Re_isThirteen : Cond := .code y_Re_isThirteen c_Re_isThirteen 3 (some .boolean)
abbrev ws_Re_isThirteen : List Cond := wc_Re_isThirteen :: tb
theorem hd_Re_isThirteen : y_Re_isThirteen.cls = R_Re ∧ y_Re_isThirteen.cls ≠ "java/lang/invoke/MethodHandle" ∧ y_Re_isThirteen.cls ≠ "java/lang/invoke/VarHandle" ∧ (parseMethodDescriptor y_Re_isThirteen.desc).map (fun d => d.parameters.length) = some 0 := by decide +kernel
abbrev c_Re_areSidesAndMiddleRight : ByteArray := prog_5_method_7_code
def y_Re_areSidesAndMiddleRight : MethodName := ⟨R_Re, "areSidesAndMiddleRight", "()Z"⟩
abbrev wc_Re_areSidesAndMiddleRight : Cond := .code y_Re_areSidesAndMiddleRight c_Re_areSidesAndMiddleRight 2 (some .boolean)
abbrev ws_Re_areSidesAndMiddleRight : List Cond := wc_Re_areSidesAndMiddleRight :: tb
theorem hd_Re_areSidesAndMiddleRight : y_Re_areSidesAndMiddleRight.cls = R_Re ∧ y_Re_areSidesAndMiddleRight.cls ≠ "java/lang/invoke/MethodHandle" ∧ y_Re_areSidesAndMiddleRight.cls ≠ "java/lang/invoke/VarHandle" ∧ (parseMethodDescriptor y_Re_areSidesAndMiddleRight.desc).map (fun d => d.parameters.length) = some 0 := by decide +kernel
abbrev c_Re_isLeftHalf : ByteArray := prog_5_method_8_code
def y_Re_isLeftHalf : MethodName := ⟨R_Re, "isLeftHalf", "()Z"⟩
abbrev wc_Re_isLeftHalf : Cond := .code y_Re_isLeftHalf c_Re_isLeftHalf 6 (some .boolean)
abbrev ws_Re_isLeftHalf : List Cond := wc_Re_isLeftHalf :: tb
theorem hd_Re_isLeftHalf : y_Re_isLeftHalf.cls = R_Re ∧ y_Re_isLeftHalf.cls ≠ "java/lang/invoke/MethodHandle" ∧ y_Re_isLeftHalf.cls ≠ "java/lang/invoke/VarHandle" ∧ (parseMethodDescriptor y_Re_isLeftHalf.desc).map (fun d => d.parameters.length) = some 0 := by decide +kernel
abbrev c_Re_isRightHalf : ByteArray := prog_5_method_9_code
def y_Re_isRightHalf : MethodName := ⟨R_Re, "isRightHalf", "()Z"⟩
abbrev wc_Re_isRightHalf : Cond := .code y_Re_isRightHalf c_Re_isRightHalf 3 (some .boolean)
abbrev ws_Re_isRightHalf : List Cond := wc_Re_isRightHalf :: tb
theorem hd_Re_isRightHalf : y_Re_isRightHalf.cls = R_Re ∧ y_Re_isRightHalf.cls ≠ "java/lang/invoke/MethodHandle" ∧ y_Re_isRightHalf.cls ≠ "java/lang/invoke/VarHandle" ∧ (parseMethodDescriptor y_Re_isRightHalf.desc).map (fun d => d.parameters.length) = some 0 := by decide +kernel
abbrev c_Re_isRow : ByteArray := prog_5_method_10_code
def y_Re_isRow : MethodName := ⟨R_Re, "isRow", "()Z"⟩
abbrev wc_Re_isRow : Cond := .code y_Re_isRow c_Re_isRow 7 (some .boolean)
abbrev ws_Re_isRow : List Cond := wc_Re_isRow :: tb
theorem hd_Re_isRow : y_Re_isRow.cls = R_Re ∧ y_Re_isRow.cls ≠ "java/lang/invoke/MethodHandle" ∧ y_Re_isRow.cls ≠ "java/lang/invoke/VarHandle" ∧ (parseMethodDescriptor y_Re_isRow.desc).map (fun d => d.parameters.length) = some 0 := by decide +kernel
abbrev c_Re_isTold : ByteArray := prog_5_method_11_code
def y_Re_isTold : MethodName := ⟨R_Re, "isTold", "(I)Z"⟩
abbrev wc_Re_isTold : Cond := .code y_Re_isTold c_Re_isTold 2 (some .boolean)
abbrev ws_Re_isTold : List Cond := wc_Re_isTold :: tb
theorem hd_Re_isTold : y_Re_isTold.cls = R_Re ∧ y_Re_isTold.cls ≠ "java/lang/invoke/MethodHandle" ∧ y_Re_isTold.cls ≠ "java/lang/invoke/VarHandle" ∧ (parseMethodDescriptor y_Re_isTold.desc).map (fun d => d.parameters.length) = some 1 := by decide +kernel
abbrev c_Re_isSwitched : ByteArray := prog_5_method_12_code
def y_Re_isSwitched : MethodName := ⟨R_Re, "isSwitched", "(I)Z"⟩
abbrev wc_Re_isSwitched : Cond := .code y_Re_isSwitched c_Re_isSwitched 3 (some .boolean)
abbrev ws_Re_isSwitched : List Cond := wc_Re_isSwitched :: tb
theorem hd_Re_isSwitched : y_Re_isSwitched.cls = R_Re ∧ y_Re_isSwitched.cls ≠ "java/lang/invoke/MethodHandle" ∧ y_Re_isSwitched.cls ≠ "java/lang/invoke/VarHandle" ∧ (parseMethodDescriptor y_Re_isSwitched.desc).map (fun d => d.parameters.length) = some 1 := by decide +kernel
abbrev c_Re_figureCountsAt : ByteArray := prog_5_method_13_code
def y_Re_figureCountsAt : MethodName := ⟨R_Re, "figureCountsAt", "(I)I"⟩
abbrev wc_Re_figureCountsAt : Cond := .code y_Re_figureCountsAt c_Re_figureCountsAt 3 (some .int)
abbrev ws_Re_figureCountsAt : List Cond := wc_Re_figureCountsAt :: tb
theorem hd_Re_figureCountsAt : y_Re_figureCountsAt.cls = R_Re ∧ y_Re_figureCountsAt.cls ≠ "java/lang/invoke/MethodHandle" ∧ y_Re_figureCountsAt.cls ≠ "java/lang/invoke/VarHandle" ∧ (parseMethodDescriptor y_Re_figureCountsAt.desc).map (fun d => d.parameters.length) = some 1 := by decide +kernel
abbrev c_Re_symbolAt : ByteArray := prog_5_method_14_code
def y_Re_symbolAt : MethodName := ⟨R_Re, "symbolAt", "(I)I"⟩
abbrev wc_Re_symbolAt : Cond := .code y_Re_symbolAt c_Re_symbolAt 3 (some .int)
abbrev ws_Re_symbolAt : List Cond := wc_Re_symbolAt :: tb
theorem hd_Re_symbolAt : y_Re_symbolAt.cls = R_Re ∧ y_Re_symbolAt.cls ≠ "java/lang/invoke/MethodHandle" ∧ y_Re_symbolAt.cls ≠ "java/lang/invoke/VarHandle" ∧ (parseMethodDescriptor y_Re_symbolAt.desc).map (fun d => d.parameters.length) = some 1 := by decide +kernel
abbrev c_Re_isLastAt : ByteArray := prog_5_method_15_code
def y_Re_isLastAt : MethodName := ⟨R_Re, "isLastAt", "(I)Z"⟩
abbrev wc_Re_isLastAt : Cond := .code y_Re_isLastAt c_Re_isLastAt 3 (some .boolean)
abbrev ws_Re_isLastAt : List Cond := wc_Re_isLastAt :: tb
theorem hd_Re_isLastAt : y_Re_isLastAt.cls = R_Re ∧ y_Re_isLastAt.cls ≠ "java/lang/invoke/MethodHandle" ∧ y_Re_isLastAt.cls ≠ "java/lang/invoke/VarHandle" ∧ (parseMethodDescriptor y_Re_isLastAt.desc).map (fun d => d.parameters.length) = some 1 := by decide +kernel
abbrev c_Re_sumOf : ByteArray := prog_5_method_16_code
def y_Re_sumOf : MethodName := ⟨R_Re, "sumOf", "(II)I"⟩
abbrev wc_Re_sumOf : Cond := .code y_Re_sumOf c_Re_sumOf 5 (some .int)
abbrev ws_Re_sumOf : List Cond := wc_Re_sumOf :: tb
theorem hd_Re_sumOf : y_Re_sumOf.cls = R_Re ∧ y_Re_sumOf.cls ≠ "java/lang/invoke/MethodHandle" ∧ y_Re_sumOf.cls ≠ "java/lang/invoke/VarHandle" ∧ (parseMethodDescriptor y_Re_sumOf.desc).map (fun d => d.parameters.length) = some 2 := by decide +kernel
abbrev c_Re_countsOf : ByteArray := prog_5_method_17_code
def y_Re_countsOf : MethodName := ⟨R_Re, "countsOf", "(IIII)I"⟩
abbrev wc_Re_countsOf : Cond := .code y_Re_countsOf c_Re_countsOf 8 (some .int)
abbrev ws_Re_countsOf : List Cond := wc_Re_countsOf :: tb
theorem hd_Re_countsOf : y_Re_countsOf.cls = R_Re ∧ y_Re_countsOf.cls ≠ "java/lang/invoke/MethodHandle" ∧ y_Re_countsOf.cls ≠ "java/lang/invoke/VarHandle" ∧ (parseMethodDescriptor y_Re_countsOf.desc).map (fun d => d.parameters.length) = some 4 := by decide +kernel
abbrev c_Se_isFirst : ByteArray := prog_6_method_2_code
def y_Se_isFirst : MethodName := ⟨R_Se, "isFirst", "(I)Z"⟩
abbrev wc_Se_isFirst : Cond := .code y_Se_isFirst c_Se_isFirst 1 (some .boolean)
abbrev ws_Se_isFirst : List Cond := wc_Se_isFirst :: tb
theorem hd_Se_isFirst : y_Se_isFirst.cls = R_Se ∧ y_Se_isFirst.cls ≠ "java/lang/invoke/MethodHandle" ∧ y_Se_isFirst.cls ≠ "java/lang/invoke/VarHandle" ∧ (parseMethodDescriptor y_Se_isFirst.desc).map (fun d => d.parameters.length) = some 1 := by decide +kernel
abbrev c_Se_firstOf : ByteArray := prog_6_method_3_code
def y_Se_firstOf : MethodName := ⟨R_Se, "firstOf", "(I)I"⟩
abbrev wc_Se_firstOf : Cond := .code y_Se_firstOf c_Se_firstOf 1 (some .int)
abbrev ws_Se_firstOf : List Cond := wc_Se_firstOf :: tb
theorem hd_Se_firstOf : y_Se_firstOf.cls = R_Se ∧ y_Se_firstOf.cls ≠ "java/lang/invoke/MethodHandle" ∧ y_Se_firstOf.cls ≠ "java/lang/invoke/VarHandle" ∧ (parseMethodDescriptor y_Se_firstOf.desc).map (fun d => d.parameters.length) = some 1 := by decide +kernel
abbrev c_Se_switchTo : ByteArray := prog_6_method_4_code
def y_Se_switchTo : MethodName := ⟨R_Se, "switchTo", "(I)I"⟩
abbrev wc_Se_switchTo : Cond := .code y_Se_switchTo c_Se_switchTo 1 (some .int)
abbrev ws_Se_switchTo : List Cond := wc_Se_switchTo :: tb
theorem hd_Se_switchTo : y_Se_switchTo.cls = R_Se ∧ y_Se_switchTo.cls ≠ "java/lang/invoke/MethodHandle" ∧ y_Se_switchTo.cls ≠ "java/lang/invoke/VarHandle" ∧ (parseMethodDescriptor y_Se_switchTo.desc).map (fun d => d.parameters.length) = some 1 := by decide +kernel
abbrev c_Se_setAfter : ByteArray := prog_6_method_5_code
def y_Se_setAfter : MethodName := ⟨R_Se, "setAfter", "(II)I"⟩
abbrev wc_Se_setAfter : Cond := .code y_Se_setAfter c_Se_setAfter 3 (some .int)
abbrev ws_Se_setAfter : List Cond := wc_Se_setAfter :: tb
theorem hd_Se_setAfter : y_Se_setAfter.cls = R_Se ∧ y_Se_setAfter.cls ≠ "java/lang/invoke/MethodHandle" ∧ y_Se_setAfter.cls ≠ "java/lang/invoke/VarHandle" ∧ (parseMethodDescriptor y_Se_setAfter.desc).map (fun d => d.parameters.length) = some 2 := by decide +kernel
abbrev c_Se_otherOfAB : ByteArray := prog_6_method_6_code
def y_Se_otherOfAB : MethodName := ⟨R_Se, "otherOfAB", "(I)I"⟩
abbrev wc_Se_otherOfAB : Cond := .code y_Se_otherOfAB c_Se_otherOfAB 1 (some .int)
abbrev ws_Se_otherOfAB : List Cond := wc_Se_otherOfAB :: tb
theorem hd_Se_otherOfAB : y_Se_otherOfAB.cls = R_Se ∧ y_Se_otherOfAB.cls ≠ "java/lang/invoke/MethodHandle" ∧ y_Se_otherOfAB.cls ≠ "java/lang/invoke/VarHandle" ∧ (parseMethodDescriptor y_Se_otherOfAB.desc).map (fun d => d.parameters.length) = some 1 := by decide +kernel
abbrev c_Se_symbolOf : ByteArray := prog_6_method_7_code
def y_Se_symbolOf : MethodName := ⟨R_Se, "symbolOf", "(II)I"⟩
abbrev wc_Se_symbolOf : Cond := .code y_Se_symbolOf c_Se_symbolOf 2 (some .int)
abbrev ws_Se_symbolOf : List Cond := wc_Se_symbolOf :: tb
theorem hd_Se_symbolOf : y_Se_symbolOf.cls = R_Se ∧ y_Se_symbolOf.cls ≠ "java/lang/invoke/MethodHandle" ∧ y_Se_symbolOf.cls ≠ "java/lang/invoke/VarHandle" ∧ (parseMethodDescriptor y_Se_symbolOf.desc).map (fun d => d.parameters.length) = some 2 := by decide +kernel
abbrev c_Se_signOf : ByteArray := prog_6_method_8_code
def y_Se_signOf : MethodName := ⟨R_Se, "signOf", "(II)I"⟩
abbrev wc_Se_signOf : Cond := .code y_Se_signOf c_Se_signOf 2 (some .int)
abbrev ws_Se_signOf : List Cond := wc_Se_signOf :: tb
theorem hd_Se_signOf : y_Se_signOf.cls = R_Se ∧ y_Se_signOf.cls ≠ "java/lang/invoke/MethodHandle" ∧ y_Se_signOf.cls ≠ "java/lang/invoke/VarHandle" ∧ (parseMethodDescriptor y_Se_signOf.desc).map (fun d => d.parameters.length) = some 2 := by decide +kernel
abbrev c_Se_pairOf : ByteArray := prog_6_method_9_code
def y_Se_pairOf : MethodName := ⟨R_Se, "pairOf", "(II)I"⟩
abbrev wc_Se_pairOf : Cond := .code y_Se_pairOf c_Se_pairOf 2 (some .int)
abbrev ws_Se_pairOf : List Cond := wc_Se_pairOf :: tb
theorem hd_Se_pairOf : y_Se_pairOf.cls = R_Se ∧ y_Se_pairOf.cls ≠ "java/lang/invoke/MethodHandle" ∧ y_Se_pairOf.cls ≠ "java/lang/invoke/VarHandle" ∧ (parseMethodDescriptor y_Se_pairOf.desc).map (fun d => d.parameters.length) = some 2 := by decide +kernel
abbrev c_Se_isFigure : ByteArray := prog_6_method_10_code
def y_Se_isFigure : MethodName := ⟨R_Se, "isFigure", "(I)Z"⟩
abbrev wc_Se_isFigure : Cond := .code y_Se_isFigure c_Se_isFigure 1 (some .boolean)
abbrev ws_Se_isFigure : List Cond := wc_Se_isFigure :: tb
theorem hd_Se_isFigure : y_Se_isFigure.cls = R_Se ∧ y_Se_isFigure.cls ≠ "java/lang/invoke/MethodHandle" ∧ y_Se_isFigure.cls ≠ "java/lang/invoke/VarHandle" ∧ (parseMethodDescriptor y_Se_isFigure.desc).map (fun d => d.parameters.length) = some 1 := by decide +kernel
abbrev c_Wi_ofSymbol : ByteArray := prog_7_method_2_code
def y_Wi_ofSymbol : MethodName := ⟨R_Wi, "ofSymbol", "(I)I"⟩
abbrev wc_Wi_ofSymbol : Cond := .code y_Wi_ofSymbol c_Wi_ofSymbol 1 (some .int)
abbrev ws_Wi_ofSymbol : List Cond := wc_Wi_ofSymbol :: tb
theorem hd_Wi_ofSymbol : y_Wi_ofSymbol.cls = R_Wi ∧ y_Wi_ofSymbol.cls ≠ "java/lang/invoke/MethodHandle" ∧ y_Wi_ofSymbol.cls ≠ "java/lang/invoke/VarHandle" ∧ (parseMethodDescriptor y_Wi_ofSymbol.desc).map (fun d => d.parameters.length) = some 1 := by decide +kernel
abbrev c_Wi_ofFigure : ByteArray := prog_7_method_3_code
def y_Wi_ofFigure : MethodName := ⟨R_Wi, "ofFigure", "(I)I"⟩
abbrev wc_Wi_ofFigure : Cond := .code y_Wi_ofFigure c_Wi_ofFigure 1 (some .int)
abbrev ws_Wi_ofFigure : List Cond := wc_Wi_ofFigure :: tb
theorem hd_Wi_ofFigure : y_Wi_ofFigure.cls = R_Wi ∧ y_Wi_ofFigure.cls ≠ "java/lang/invoke/MethodHandle" ∧ y_Wi_ofFigure.cls ≠ "java/lang/invoke/VarHandle" ∧ (parseMethodDescriptor y_Wi_ofFigure.desc).map (fun d => d.parameters.length) = some 1 := by decide +kernel
abbrev c_Wi_turnsOf : ByteArray := prog_7_method_4_code
def y_Wi_turnsOf : MethodName := ⟨R_Wi, "turnsOf", "(I)I"⟩
abbrev wc_Wi_turnsOf : Cond := .code y_Wi_turnsOf c_Wi_turnsOf 1 (some .int)
abbrev ws_Wi_turnsOf : List Cond := wc_Wi_turnsOf :: tb
theorem hd_Wi_turnsOf : y_Wi_turnsOf.cls = R_Wi ∧ y_Wi_turnsOf.cls ≠ "java/lang/invoke/MethodHandle" ∧ y_Wi_turnsOf.cls ≠ "java/lang/invoke/VarHandle" ∧ (parseMethodDescriptor y_Wi_turnsOf.desc).map (fun d => d.parameters.length) = some 1 := by decide +kernel
abbrev c_Wi_symbolWith : ByteArray := prog_7_method_5_code
def y_Wi_symbolWith : MethodName := ⟨R_Wi, "symbolWith", "(I)I"⟩
abbrev wc_Wi_symbolWith : Cond := .code y_Wi_symbolWith c_Wi_symbolWith 1 (some .int)
abbrev ws_Wi_symbolWith : List Cond := wc_Wi_symbolWith :: tb
theorem hd_Wi_symbolWith : y_Wi_symbolWith.cls = R_Wi ∧ y_Wi_symbolWith.cls ≠ "java/lang/invoke/MethodHandle" ∧ y_Wi_symbolWith.cls ≠ "java/lang/invoke/VarHandle" ∧ (parseMethodDescriptor y_Wi_symbolWith.desc).map (fun d => d.parameters.length) = some 1 := by decide +kernel
abbrev c_Wi_figureWith : ByteArray := prog_7_method_6_code
def y_Wi_figureWith : MethodName := ⟨R_Wi, "figureWith", "(I)I"⟩
abbrev wc_Wi_figureWith : Cond := .code y_Wi_figureWith c_Wi_figureWith 1 (some .int)
abbrev ws_Wi_figureWith : List Cond := wc_Wi_figureWith :: tb
theorem hd_Wi_figureWith : y_Wi_figureWith.cls = R_Wi ∧ y_Wi_figureWith.cls ≠ "java/lang/invoke/MethodHandle" ∧ y_Wi_figureWith.cls ≠ "java/lang/invoke/VarHandle" ∧ (parseMethodDescriptor y_Wi_figureWith.desc).map (fun d => d.parameters.length) = some 1 := by decide +kernel
abbrev c_Wi_firstFigureWith : ByteArray := prog_7_method_7_code
def y_Wi_firstFigureWith : MethodName := ⟨R_Wi, "firstFigureWith", "(I)I"⟩
abbrev wc_Wi_firstFigureWith : Cond := .code y_Wi_firstFigureWith c_Wi_firstFigureWith 1 (some .int)
abbrev ws_Wi_firstFigureWith : List Cond := wc_Wi_firstFigureWith :: tb
theorem hd_Wi_firstFigureWith : y_Wi_firstFigureWith.cls = R_Wi ∧ y_Wi_firstFigureWith.cls ≠ "java/lang/invoke/MethodHandle" ∧ y_Wi_firstFigureWith.cls ≠ "java/lang/invoke/VarHandle" ∧ (parseMethodDescriptor y_Wi_firstFigureWith.desc).map (fun d => d.parameters.length) = some 1 := by decide +kernel
abbrev c_Wi_turned : ByteArray := prog_7_method_8_code
def y_Wi_turned : MethodName := ⟨R_Wi, "turned", "(I)I"⟩
abbrev wc_Wi_turned : Cond := .code y_Wi_turned c_Wi_turned 1 (some .int)
abbrev ws_Wi_turned : List Cond := wc_Wi_turned :: tb
theorem hd_Wi_turned : y_Wi_turned.cls = R_Wi ∧ y_Wi_turned.cls ≠ "java/lang/invoke/MethodHandle" ∧ y_Wi_turned.cls ≠ "java/lang/invoke/VarHandle" ∧ (parseMethodDescriptor y_Wi_turned.desc).map (fun d => d.parameters.length) = some 1 := by decide +kernel
abbrev c_Wi_entry : ByteArray := prog_7_method_9_code
def y_Wi_entry : MethodName := ⟨R_Wi, "entry", "([II)I"⟩
abbrev wc_Wi_entry : Cond := .code y_Wi_entry c_Wi_entry 2 (some .int)
abbrev ws_Wi_entry : List Cond := wc_Wi_entry :: tb
theorem hd_Wi_entry : y_Wi_entry.cls = R_Wi ∧ y_Wi_entry.cls ≠ "java/lang/invoke/MethodHandle" ∧ y_Wi_entry.cls ≠ "java/lang/invoke/VarHandle" ∧ (parseMethodDescriptor y_Wi_entry.desc).map (fun d => d.parameters.length) = some 2 := by decide +kernel
abbrev c_Wi_placeOf : ByteArray := prog_7_method_10_code
def y_Wi_placeOf : MethodName := ⟨R_Wi, "placeOf", "([II)I"⟩
abbrev wc_Wi_placeOf : Cond := .code y_Wi_placeOf c_Wi_placeOf 3 (some .int)
abbrev ws_Wi_placeOf : List Cond := wc_Wi_placeOf :: tb
theorem hd_Wi_placeOf : y_Wi_placeOf.cls = R_Wi ∧ y_Wi_placeOf.cls ≠ "java/lang/invoke/MethodHandle" ∧ y_Wi_placeOf.cls ≠ "java/lang/invoke/VarHandle" ∧ (parseMethodDescriptor y_Wi_placeOf.desc).map (fun d => d.parameters.length) = some 2 := by decide +kernel
abbrev c_Lw_write : ByteArray := method_3_code
def y_Lw_write : MethodName := ⟨R_Lw, "write", "(LLineCodes;IJ[J)I"⟩
abbrev wc_Lw_write : Cond := .codeWith y_Lw_write c_Lw_write 6 (some .int) [(0, 11, 14, 13)]
abbrev ws_Lw_write : List Cond := wc_Lw_write :: tb
theorem hd_Lw_write : y_Lw_write.cls = R_Lw ∧ y_Lw_write.cls ≠ "java/lang/invoke/MethodHandle" ∧ y_Lw_write.cls ≠ "java/lang/invoke/VarHandle" ∧ (parseMethodDescriptor y_Lw_write.desc).map (fun d => d.parameters.length) = some 4 := by decide +kernel
abbrev c_Lw_bars : ByteArray := method_4_code
def y_Lw_bars : MethodName := ⟨R_Lw, "bars", "(LLineCodes;I[J)I"⟩
abbrev wc_Lw_bars : Cond := .codeWith y_Lw_bars c_Lw_bars 4 (some .int) [(0, 9, 12, 13), (0, 9, 15, 19)]
abbrev ws_Lw_bars : List Cond := wc_Lw_bars :: tb
theorem hd_Lw_bars : y_Lw_bars.cls = R_Lw ∧ y_Lw_bars.cls ≠ "java/lang/invoke/MethodHandle" ∧ y_Lw_bars.cls ≠ "java/lang/invoke/VarHandle" ∧ (parseMethodDescriptor y_Lw_bars.desc).map (fun d => d.parameters.length) = some 3 := by decide +kernel
abbrev c_Lw_checkFigure : ByteArray := method_5_code
def y_Lw_checkFigure : MethodName := ⟨R_Lw, "checkFigure", "(LLineCodes;J[J)I"⟩
abbrev wc_Lw_checkFigure : Cond := .codeWith y_Lw_checkFigure c_Lw_checkFigure 5 (some .int) [(0, 9, 12, 13)]
abbrev ws_Lw_checkFigure : List Cond := wc_Lw_checkFigure :: tb
theorem hd_Lw_checkFigure : y_Lw_checkFigure.cls = R_Lw ∧ y_Lw_checkFigure.cls ≠ "java/lang/invoke/MethodHandle" ∧ y_Lw_checkFigure.cls ≠ "java/lang/invoke/VarHandle" ∧ (parseMethodDescriptor y_Lw_checkFigure.desc).map (fun d => d.parameters.length) = some 3 := by decide +kernel
abbrev c_Lw_thirteen : ByteArray := method_6_code
def y_Lw_thirteen : MethodName := ⟨R_Lw, "thirteen", "(LLineCodes;JI[J)I"⟩
abbrev wc_Lw_thirteen : Cond := .codeWith y_Lw_thirteen c_Lw_thirteen 6 (some .int) [(0, 11, 14, 13)]
abbrev ws_Lw_thirteen : List Cond := wc_Lw_thirteen :: tb
theorem hd_Lw_thirteen : y_Lw_thirteen.cls = R_Lw ∧ y_Lw_thirteen.cls ≠ "java/lang/invoke/MethodHandle" ∧ y_Lw_thirteen.cls ≠ "java/lang/invoke/VarHandle" ∧ (parseMethodDescriptor y_Lw_thirteen.desc).map (fun d => d.parameters.length) = some 4 := by decide +kernel
abbrev c_Lw_put : ByteArray := method_7_code
def y_Lw_put : MethodName := ⟨R_Lw, "put", "(LLineCodes;IJ[J)I"⟩
abbrev wc_Lw_put : Cond := .codeWith y_Lw_put c_Lw_put 6 (some .int) [(0, 11, 14, 13)]
abbrev ws_Lw_put : List Cond := wc_Lw_put :: tb
theorem hd_Lw_put : y_Lw_put.cls = R_Lw ∧ y_Lw_put.cls ≠ "java/lang/invoke/MethodHandle" ∧ y_Lw_put.cls ≠ "java/lang/invoke/VarHandle" ∧ (parseMethodDescriptor y_Lw_put.desc).map (fun d => d.parameters.length) = some 4 := by decide +kernel
abbrev c_Lw_spoil : ByteArray := method_8_code
def y_Lw_spoil : MethodName := ⟨R_Lw, "spoil", "(LLineCodes;II[J)I"⟩
abbrev wc_Lw_spoil : Cond := .codeWith y_Lw_spoil c_Lw_spoil 5 (some .int) [(0, 10, 13, 36), (0, 10, 17, 13)]
abbrev ws_Lw_spoil : List Cond := wc_Lw_spoil :: tb
theorem hd_Lw_spoil : y_Lw_spoil.cls = R_Lw ∧ y_Lw_spoil.cls ≠ "java/lang/invoke/MethodHandle" ∧ y_Lw_spoil.cls ≠ "java/lang/invoke/VarHandle" ∧ (parseMethodDescriptor y_Lw_spoil.desc).map (fun d => d.parameters.length) = some 4 := by decide +kernel
abbrev c_Lw_law : ByteArray := code
def y_Lw_law : MethodName := ⟨R_Lw, "law", "([I)Z"⟩
