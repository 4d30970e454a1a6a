/-! NAMES: the words that every method may use (TB), the words of the nest (NW), classes, methods -/
def TB : List Cond := lw_tbl.filter goodWord
def NW : List Cond := tables_1.filter nw_ok
theorem TB_good : GoodIn TB TB := fun w hw => ⟨hw, good_of_word (List.mem_filter.mp hw).2⟩
theorem tb_in {w : Cond} (h : w ∈ tables_1) (hg : goodWord w = true) : w ∈ TB := List.mem_filter.mpr ⟨List.mem_append_right _ h, hg⟩
theorem tb_sel {w : Cond} (h : w ∈ k2_sels lw_privs) (hg : goodWord w = true) : w ∈ TB := List.mem_filter.mpr ⟨List.mem_append_left _ h, hg⟩
theorem nw_in {w : Cond} (h : w ∈ tables_1) (hg : nw_ok w = true) : w ∈ NW := List.mem_filter.mpr ⟨h, hg⟩
abbrev y_Tiles_init : MethodName := ⟨"TileScreen$Tiles", "<init>", "(I)V"⟩
abbrev b_Tiles_init : ByteArray := prog_8_method_1_code
abbrev y_Tiles_get : MethodName := ⟨"TileScreen$Tiles", "get", "(II)I"⟩
abbrev b_Tiles_get : ByteArray := prog_8_method_2_code
abbrev y_Tiles_set : MethodName := ⟨"TileScreen$Tiles", "set", "(III)V"⟩
abbrev b_Tiles_set : ByteArray := prog_8_method_3_code
abbrev y_Tiles_take : MethodName := ⟨"TileScreen$Tiles", "take", "(ILTileScreen$Tiles;I)V"⟩
abbrev b_Tiles_take : ByteArray := prog_8_method_4_code
abbrev y_Tiles_takeAll : MethodName := ⟨"TileScreen$Tiles", "takeAll", "(LTileScreen$Tiles;)V"⟩
abbrev b_Tiles_takeAll : ByteArray := prog_8_method_5_code
abbrev y_Tiles_isSame : MethodName := ⟨"TileScreen$Tiles", "isSame", "(ILTileScreen$Tiles;I)Z"⟩
abbrev b_Tiles_isSame : ByteArray := prog_8_method_6_code
abbrev y_Tiles_find : MethodName := ⟨"TileScreen$Tiles", "find", "(ILTileScreen$Tiles;I)I"⟩
abbrev b_Tiles_find : ByteArray := prog_8_method_7_code
abbrev y_Tiles_countOther : MethodName := ⟨"TileScreen$Tiles", "countOther", "(LTileScreen$Tiles;)I"⟩
abbrev b_Tiles_countOther : ByteArray := prog_8_method_8_code
abbrev y_Cache_init : MethodName := ⟨"TileScreen$Cache", "<init>", "()V"⟩
abbrev b_Cache_init : ByteArray := prog_2_method_1_code
abbrev y_Cache_clear : MethodName := ⟨"TileScreen$Cache", "clear", "()V"⟩
abbrev b_Cache_clear : ByteArray := prog_2_method_2_code
abbrev y_Cache_put : MethodName := ⟨"TileScreen$Cache", "put", "(LTileScreen$Tiles;I)V"⟩
abbrev b_Cache_put : ByteArray := prog_2_method_3_code
abbrev y_Line_init : MethodName := ⟨"TileScreen$Line", "<init>", "()V"⟩
abbrev b_Line_init : ByteArray := prog_5_method_1_code
abbrev y_Line_clear : MethodName := ⟨"TileScreen$Line", "clear", "()V"⟩
abbrev b_Line_clear : ByteArray := prog_5_method_2_code
abbrev y_Line_add : MethodName := ⟨"TileScreen$Line", "add", "(I)V"⟩
abbrev b_Line_add : ByteArray := prog_5_method_3_code
abbrev y_Line_addPair : MethodName := ⟨"TileScreen$Line", "addPair", "(I)V"⟩
abbrev b_Line_addPair : ByteArray := prog_5_method_4_code
abbrev y_Line_set : MethodName := ⟨"TileScreen$Line", "set", "(II)V"⟩
abbrev b_Line_set : ByteArray := prog_5_method_5_code
abbrev y_Line_get : MethodName := ⟨"TileScreen$Line", "get", "(I)I"⟩
abbrev b_Line_get : ByteArray := prog_5_method_6_code
abbrev y_Line_removeFirst : MethodName := ⟨"TileScreen$Line", "removeFirst", "()I"⟩
abbrev b_Line_removeFirst : ByteArray := prog_5_method_7_code
abbrev y_Poisons_init : MethodName := ⟨"TileScreen$Poisons", "<init>", "()V"⟩
abbrev b_Poisons_init : ByteArray := prog_7_method_1_code
abbrev y_Poisons_add : MethodName := ⟨"TileScreen$Poisons", "add", "(II)V"⟩
abbrev b_Poisons_add : ByteArray := prog_7_method_2_code
abbrev y_Poisons_spoil : MethodName := ⟨"TileScreen$Poisons", "spoil", "(I)I"⟩
abbrev b_Poisons_spoil : ByteArray := prog_7_method_3_code
abbrev y_Look_init : MethodName := ⟨"TileScreen$Look", "<init>", "()V"⟩
abbrev b_Look_init : ByteArray := prog_6_method_1_code
abbrev y_Look_study : MethodName := ⟨"TileScreen$Look", "study", "(LTileScreen$Tiles;I)V"⟩
abbrev b_Look_study : ByteArray := prog_6_method_2_code
abbrev y_Look_meet : MethodName := ⟨"TileScreen$Look", "meet", "(I)V"⟩
abbrev b_Look_meet : ByteArray := prog_6_method_3_code
abbrev y_Look_indexOf : MethodName := ⟨"TileScreen$Look", "indexOf", "(I)I"⟩
abbrev b_Look_indexOf : ByteArray := prog_6_method_4_code
abbrev y_Feed_init : MethodName := ⟨"TileScreen$Feed", "<init>", "()V"⟩
abbrev b_Feed_init : ByteArray := prog_4_method_1_code
abbrev y_Feed_compose : MethodName := ⟨"TileScreen$Feed", "compose", "(LTileScreen$Tiles;I)V"⟩
abbrev b_Feed_compose : ByteArray := prog_4_method_2_code
abbrev y_Feed_addRecord : MethodName := ⟨"TileScreen$Feed", "addRecord", "(LTileScreen$Tiles;I)V"⟩
abbrev b_Feed_addRecord : ByteArray := prog_4_method_3_code
abbrev y_Feed_chooseKind : MethodName := ⟨"TileScreen$Feed", "chooseKind", "()I"⟩
abbrev b_Feed_chooseKind : ByteArray := prog_4_method_4_code
abbrev y_Feed_isFit : MethodName := ⟨"TileScreen$Feed", "isFit", "(I)Z"⟩
abbrev b_Feed_isFit : ByteArray := prog_4_method_5_code
abbrev y_Feed_lengthOf : MethodName := ⟨"TileScreen$Feed", "lengthOf", "(I)I"⟩
abbrev b_Feed_lengthOf : ByteArray := prog_4_method_6_code
abbrev y_Feed_addContent : MethodName := ⟨"TileScreen$Feed", "addContent", "(ILTileScreen$Tiles;I)V"⟩
abbrev b_Feed_addContent : ByteArray := prog_4_method_7_code
abbrev y_Feed_addPalette : MethodName := ⟨"TileScreen$Feed", "addPalette", "()V"⟩
abbrev b_Feed_addPalette : ByteArray := prog_4_method_8_code
abbrev y_Feed_addBits : MethodName := ⟨"TileScreen$Feed", "addBits", "(LTileScreen$Tiles;II)V"⟩
abbrev b_Feed_addBits : ByteArray := prog_4_method_9_code
abbrev y_Feed_addRuns : MethodName := ⟨"TileScreen$Feed", "addRuns", "(LTileScreen$Tiles;I)V"⟩
abbrev b_Feed_addRuns : ByteArray := prog_4_method_10_code
abbrev y_Feed_addRaw : MethodName := ⟨"TileScreen$Feed", "addRaw", "(LTileScreen$Tiles;I)V"⟩
abbrev b_Feed_addRaw : ByteArray := prog_4_method_11_code
abbrev y_Display_init : MethodName := ⟨"TileScreen$Display", "<init>", "()V"⟩
abbrev b_Display_init : ByteArray := prog_3_method_1_code
abbrev y_Display_forget : MethodName := ⟨"TileScreen$Display", "forget", "()V"⟩
abbrev b_Display_forget : ByteArray := prog_3_method_2_code
abbrev y_Display_receive : MethodName := ⟨"TileScreen$Display", "receive", "(I)Z"⟩
abbrev b_Display_receive : ByteArray := prog_3_method_3_code
abbrev y_Display_readUpdate : MethodName := ⟨"TileScreen$Display", "readUpdate", "()Z"⟩
abbrev b_Display_readUpdate : ByteArray := prog_3_method_4_code
abbrev y_Display_numberAbove : MethodName := ⟨"TileScreen$Display", "numberAbove", "(JI)J"⟩
abbrev b_Display_numberAbove : ByteArray := prog_3_method_5_code
abbrev y_Display_pairAt : MethodName := ⟨"TileScreen$Display", "pairAt", "(I)I"⟩
abbrev b_Display_pairAt : ByteArray := prog_3_method_6_code
abbrev y_Display_readRecord : MethodName := ⟨"TileScreen$Display", "readRecord", "()V"⟩
abbrev b_Display_readRecord : ByteArray := prog_3_method_7_code
abbrev y_Display_readSource : MethodName := ⟨"TileScreen$Display", "readSource", "(ILTileScreen$Tiles;I)V"⟩
abbrev b_Display_readSource : ByteArray := prog_3_method_8_code
abbrev y_Display_readColourCount : MethodName := ⟨"TileScreen$Display", "readColourCount", "()I"⟩
abbrev b_Display_readColourCount : ByteArray := prog_3_method_9_code
abbrev y_Display_readPixels : MethodName := ⟨"TileScreen$Display", "readPixels", "(III)V"⟩
abbrev b_Display_readPixels : ByteArray := prog_3_method_10_code
abbrev y_Display_readRuns : MethodName := ⟨"TileScreen$Display", "readRuns", "(I)V"⟩
abbrev b_Display_readRuns : ByteArray := prog_3_method_11_code
abbrev y_Display_readRaw : MethodName := ⟨"TileScreen$Display", "readRaw", "(I)V"⟩
abbrev b_Display_readRaw : ByteArray := prog_3_method_12_code
abbrev y_Display_paint : MethodName := ⟨"TileScreen$Display", "paint", "(IIII)V"⟩
abbrev b_Display_paint : ByteArray := prog_3_method_13_code
abbrev y_Display_readColour : MethodName := ⟨"TileScreen$Display", "readColour", "()I"⟩
abbrev b_Display_readColour : ByteArray := prog_3_method_14_code
abbrev y_Display_readByte : MethodName := ⟨"TileScreen$Display", "readByte", "()I"⟩
abbrev b_Display_readByte : ByteArray := prog_3_method_15_code
abbrev y_Viewer_init : MethodName := ⟨"TileScreen$Viewer", "<init>", "()V"⟩
abbrev b_Viewer_init : ByteArray := prog_9_method_1_code
abbrev y_Viewer_connect : MethodName := ⟨"TileScreen$Viewer", "connect", "()V"⟩
abbrev b_Viewer_connect : ByteArray := prog_9_method_2_code
abbrev y_Viewer_disconnect : MethodName := ⟨"TileScreen$Viewer", "disconnect", "()V"⟩
abbrev b_Viewer_disconnect : ByteArray := prog_9_method_3_code
abbrev y_Scr_init : MethodName := ⟨"TileScreen", "<init>", "()V"⟩
abbrev b_Scr_init : ByteArray := prog_1_method_1_code
abbrev y_Scr_fill : MethodName := ⟨"TileScreen", "fill", "(IIIII)Z"⟩
abbrev b_Scr_fill : ByteArray := prog_1_method_2_code
abbrev y_Scr_blit : MethodName := ⟨"TileScreen", "blit", "(IIII)Z"⟩
abbrev b_Scr_blit : ByteArray := prog_1_method_3_code
abbrev y_Scr_shade : MethodName := ⟨"TileScreen", "shade", "(IIII)Z"⟩
abbrev b_Scr_shade : ByteArray := prog_1_method_4_code
abbrev y_Scr_frame : MethodName := ⟨"TileScreen", "frame", "()I"⟩
abbrev b_Scr_frame : ByteArray := prog_1_method_5_code
abbrev y_Scr_join : MethodName := ⟨"TileScreen", "join", "(I)Z"⟩
abbrev b_Scr_join : ByteArray := prog_1_method_6_code
abbrev y_Scr_cut : MethodName := ⟨"TileScreen", "cut", "(I)Z"⟩
abbrev b_Scr_cut : ByteArray := prog_1_method_7_code
abbrev y_Scr_credit : MethodName := ⟨"TileScreen", "credit", "(II)I"⟩
abbrev b_Scr_credit : ByteArray := prog_1_method_8_code
abbrev y_Scr_pump : MethodName := ⟨"TileScreen", "pump", "(I)I"⟩
abbrev b_Scr_pump : ByteArray := prog_1_method_9_code
abbrev y_Scr_poison : MethodName := ⟨"TileScreen", "poison", "(III)Z"⟩
abbrev b_Scr_poison : ByteArray := prog_1_method_10_code
abbrev y_Scr_shown : MethodName := ⟨"TileScreen", "shown", "(I)I"⟩
abbrev b_Scr_shown : ByteArray := prog_1_method_11_code
abbrev y_Scr_at : MethodName := ⟨"TileScreen", "at", "(III)I"⟩
abbrev b_Scr_at : ByteArray := prog_1_method_12_code
abbrev y_Scr_about : MethodName := ⟨"TileScreen", "about", "(II)I"⟩
abbrev b_Scr_about : ByteArray := prog_1_method_13_code
abbrev y_Scr_bytesBy : MethodName := ⟨"TileScreen", "bytesBy", "(II)I"⟩
abbrev b_Scr_bytesBy : ByteArray := prog_1_method_14_code
abbrev y_Scr_onLine : MethodName := ⟨"TileScreen", "onLine", "(II)I"⟩
abbrev b_Scr_onLine : ByteArray := prog_1_method_15_code
abbrev y_Scr_isViewer : MethodName := ⟨"TileScreen", "isViewer", "(I)Z"⟩
abbrev b_Scr_isViewer : ByteArray := prog_1_method_16_code
abbrev y_Scr_answerOf : MethodName := ⟨"TileScreen", "answerOf", "(J)I"⟩
abbrev b_Scr_answerOf : ByteArray := prog_1_method_17_code
abbrev y_Scr_isColour : MethodName := ⟨"TileScreen", "isColour", "(I)Z"⟩
abbrev b_Scr_isColour : ByteArray := prog_1_method_18_code
abbrev y_Scr_isInside : MethodName := ⟨"TileScreen", "isInside", "(IIII)Z"⟩
abbrev b_Scr_isInside : ByteArray := prog_1_method_19_code
abbrev y_Scr_tileOf : MethodName := ⟨"TileScreen", "tileOf", "(II)I"⟩
abbrev b_Scr_tileOf : ByteArray := prog_1_method_20_code
abbrev y_Scr_pixelOf : MethodName := ⟨"TileScreen", "pixelOf", "(II)I"⟩
abbrev b_Scr_pixelOf : ByteArray := prog_1_method_21_code
abbrev y_Scr_pixelAt : MethodName := ⟨"TileScreen", "pixelAt", "(LTileScreen$Tiles;II)I"⟩
abbrev b_Scr_pixelAt : ByteArray := prog_1_method_22_code
abbrev y_Scr_sumOf : MethodName := ⟨"TileScreen", "sumOf", "([III)I"⟩
abbrev b_Scr_sumOf : ByteArray := prog_1_method_23_code
abbrev y_Mod_init : MethodName := ⟨"TileScreenModel", "<init>", "()V"⟩
abbrev b_Mod_init : ByteArray := prog_11_method_1_code
abbrev y_Mod_spot : MethodName := ⟨"TileScreenModel", "spot", "(III)I"⟩
abbrev b_Mod_spot : ByteArray := prog_11_method_3_code
abbrev y_Mod_become : MethodName := ⟨"TileScreenModel", "become", "(II)V"⟩
abbrev b_Mod_become : ByteArray := prog_11_method_4_code
abbrev y_Mod_sameTile : MethodName := ⟨"TileScreenModel", "sameTile", "(IIII)Z"⟩
abbrev b_Mod_sameTile : ByteArray := prog_11_method_5_code
abbrev y_Mod_isRect : MethodName := ⟨"TileScreenModel", "isRect", "(IIII)Z"⟩
abbrev b_Mod_isRect : ByteArray := prog_11_method_6_code
abbrev y_Mod_isColour : MethodName := ⟨"TileScreenModel", "isColour", "(I)Z"⟩
abbrev b_Mod_isColour : ByteArray := prog_11_method_7_code
abbrev y_Mod_isViewer : MethodName := ⟨"TileScreenModel", "isViewer", "(I)Z"⟩
abbrev b_Mod_isViewer : ByteArray := prog_11_method_8_code
abbrev y_Mod_fill : MethodName := ⟨"TileScreenModel", "fill", "(IIIII)Z"⟩
abbrev b_Mod_fill : ByteArray := prog_11_method_9_code
abbrev y_Mod_blit : MethodName := ⟨"TileScreenModel", "blit", "(IIII)Z"⟩
abbrev b_Mod_blit : ByteArray := prog_11_method_10_code
abbrev y_Mod_shade : MethodName := ⟨"TileScreenModel", "shade", "(IIII)Z"⟩
abbrev b_Mod_shade : ByteArray := prog_11_method_11_code
abbrev y_Mod_frame : MethodName := ⟨"TileScreenModel", "frame", "()I"⟩
abbrev b_Mod_frame : ByteArray := prog_11_method_12_code
abbrev y_Mod_join : MethodName := ⟨"TileScreenModel", "join", "(I)Z"⟩
abbrev b_Mod_join : ByteArray := prog_11_method_13_code
abbrev y_Mod_leave : MethodName := ⟨"TileScreenModel", "leave", "(I)V"⟩
abbrev b_Mod_leave : ByteArray := prog_11_method_14_code
abbrev y_Mod_cut : MethodName := ⟨"TileScreenModel", "cut", "(I)Z"⟩
abbrev b_Mod_cut : ByteArray := prog_11_method_15_code
abbrev y_Mod_credit : MethodName := ⟨"TileScreenModel", "credit", "(II)I"⟩
abbrev b_Mod_credit : ByteArray := prog_11_method_16_code
abbrev y_Mod_put : MethodName := ⟨"TileScreenModel", "put", "(I)V"⟩
abbrev b_Mod_put : ByteArray := prog_11_method_17_code
abbrev y_Mod_putTwo : MethodName := ⟨"TileScreenModel", "putTwo", "(I)V"⟩
abbrev b_Mod_putTwo : ByteArray := prog_11_method_18_code
abbrev y_Mod_findColours : MethodName := ⟨"TileScreenModel", "findColours", "()V"⟩
abbrev b_Mod_findColours : ByteArray := prog_11_method_19_code
abbrev y_Mod_numberOf : MethodName := ⟨"TileScreenModel", "numberOf", "(I)I"⟩
abbrev b_Mod_numberOf : ByteArray := prog_11_method_20_code
abbrev y_Mod_likeTile : MethodName := ⟨"TileScreenModel", "likeTile", "(I)I"⟩
abbrev b_Mod_likeTile : ByteArray := prog_11_method_21_code
abbrev y_Mod_likeEntry : MethodName := ⟨"TileScreenModel", "likeEntry", "(I)I"⟩
abbrev b_Mod_likeEntry : ByteArray := prog_11_method_22_code
abbrev y_Mod_putBits : MethodName := ⟨"TileScreenModel", "putBits", "(I)V"⟩
abbrev b_Mod_putBits : ByteArray := prog_11_method_23_code
abbrev y_Mod_putRuns : MethodName := ⟨"TileScreenModel", "putRuns", "()V"⟩
abbrev b_Mod_putRuns : ByteArray := prog_11_method_24_code
abbrev y_Mod_write : MethodName := ⟨"TileScreenModel", "write", "(III)Z"⟩
abbrev b_Mod_write : ByteArray := prog_11_method_25_code
abbrev y_Mod_keep : MethodName := ⟨"TileScreenModel", "keep", "(I)V"⟩
abbrev b_Mod_keep : ByteArray := prog_11_method_26_code
abbrev y_Mod_send : MethodName := ⟨"TileScreenModel", "send", "(II)V"⟩
abbrev b_Mod_send : ByteArray := prog_11_method_27_code
abbrev y_Mod_compose : MethodName := ⟨"TileScreenModel", "compose", "(I)V"⟩
abbrev b_Mod_compose : ByteArray := prog_11_method_28_code
abbrev y_Mod_get : MethodName := ⟨"TileScreenModel", "get", "(I)I"⟩
abbrev b_Mod_get : ByteArray := prog_11_method_29_code
abbrev y_Mod_getTwo : MethodName := ⟨"TileScreenModel", "getTwo", "(I)I"⟩
abbrev b_Mod_getTwo : ByteArray := prog_11_method_30_code
abbrev y_Mod_read : MethodName := ⟨"TileScreenModel", "read", "(II)Z"⟩
abbrev b_Mod_read : ByteArray := prog_11_method_31_code
abbrev y_Mod_readLike : MethodName := ⟨"TileScreenModel", "readLike", "(III)Z"⟩
abbrev b_Mod_readLike : ByteArray := prog_11_method_32_code
abbrev y_Mod_readRuns : MethodName := ⟨"TileScreenModel", "readRuns", "(I)Z"⟩
abbrev b_Mod_readRuns : ByteArray := prog_11_method_33_code
abbrev y_Mod_whole : MethodName := ⟨"TileScreenModel", "whole", "(I)Z"⟩
abbrev b_Mod_whole : ByteArray := prog_11_method_34_code
abbrev y_Mod_take : MethodName := ⟨"TileScreenModel", "take", "(II)Z"⟩
abbrev b_Mod_take : ByteArray := prog_11_method_35_code
abbrev y_Mod_pump : MethodName := ⟨"TileScreenModel", "pump", "(I)I"⟩
abbrev b_Mod_pump : ByteArray := prog_11_method_36_code
abbrev y_Mod_poison : MethodName := ⟨"TileScreenModel", "poison", "(III)Z"⟩
abbrev b_Mod_poison : ByteArray := prog_11_method_37_code
abbrev y_Mod_shown : MethodName := ⟨"TileScreenModel", "shown", "(I)I"⟩
abbrev b_Mod_shown : ByteArray := prog_11_method_38_code
abbrev y_Mod_at : MethodName := ⟨"TileScreenModel", "at", "(III)I"⟩
abbrev b_Mod_at : ByteArray := prog_11_method_39_code
abbrev y_Mod_about : MethodName := ⟨"TileScreenModel", "about", "(II)I"⟩
abbrev b_Mod_about : ByteArray := prog_11_method_40_code
abbrev y_Mod_bytesBy : MethodName := ⟨"TileScreenModel", "bytesBy", "(II)I"⟩
abbrev b_Mod_bytesBy : ByteArray := prog_11_method_41_code
abbrev y_Mod_onLine : MethodName := ⟨"TileScreenModel", "onLine", "(II)I"⟩
abbrev b_Mod_onLine : ByteArray := prog_11_method_42_code
abbrev y_Law_credit : MethodName := ⟨"TileScreenLaw", "credit", "(LTileScreen;II[J)I"⟩
abbrev b_Law_credit : ByteArray := method_3_code
abbrev y_Law_law : MethodName := ⟨"TileScreenLaw", "law", "([I)Z"⟩
abbrev b_Law_law : ByteArray := code
def F_Tiles : u_T := fun k => match k with
  | 0 => ("TileScreen$Tiles", "count", "I", true)
  | _ => ("TileScreen$Tiles", "pixels", "[I", true)
def t_Tiles : Nat → FieldType := fun k => match k with
  | 0 => .int
  | _ => .array (.int)
theorem n_Tiles : ∀ a, a < 2 → ∀ b, b < 2 → a ≠ b → (F_Tiles a).2.1 ≠ (F_Tiles b).2.1 := by decide +kernel
theorem t_Tiles_ok : ∀ k, k < 2 → parseFieldDescriptor (F_Tiles k).2.2.1 = some (t_Tiles k) := by decide +kernel
theorem i_Tiles : ∀ w ∈ u_ws "TileScreen$Tiles" F_Tiles 2, w ∈ TB := by
  have h : (u_ws "TileScreen$Tiles" F_Tiles 2).all (fun w => decide (w ∈ tables_1) && goodWord w) = true := by decide +kernel
  exact fun w hw => by have h1 := List.all_eq_true.mp h w hw; rw [Bool.and_eq_true, decide_eq_true_iff] at h1; exact tb_in h1.1 h1.2
def F_Cache : u_T := fun k => match k with
  | 0 => ("TileScreen$Cache", "tiles", "LTileScreen$Tiles;", true)
  | 1 => ("TileScreen$Cache", "place", "I", false)
  | _ => ("TileScreen$Cache", "used", "I", false)
def t_Cache : Nat → FieldType := fun k => match k with
  | 0 => .object "TileScreen$Tiles"
  | 1 => .int
  | _ => .int
theorem n_Cache : ∀ a, a < 3 → ∀ b, b < 3 → a ≠ b → (F_Cache a).2.1 ≠ (F_Cache b).2.1 := by decide +kernel
theorem t_Cache_ok : ∀ k, k < 3 → parseFieldDescriptor (F_Cache k).2.2.1 = some (t_Cache k) := by decide +kernel
theorem i_Cache : ∀ w ∈ u_ws "TileScreen$Cache" F_Cache 3, w ∈ TB := by
  have h : (u_ws "TileScreen$Cache" F_Cache 3).all (fun w => decide (w ∈ tables_1) && goodWord w) = true := by decide +kernel
  exact fun w hw => by have h1 := List.all_eq_true.mp h w hw; rw [Bool.and_eq_true, decide_eq_true_iff] at h1; exact tb_in h1.1 h1.2
def F_Line : u_T := fun k => match k with
  | 0 => ("TileScreen$Line", "bytes", "[I", true)
  | 1 => ("TileScreen$Line", "first", "I", false)
  | _ => ("TileScreen$Line", "size", "I", false)
def t_Line : Nat → FieldType := fun k => match k with
  | 0 => .array (.int)
  | 1 => .int
  | _ => .int
theorem n_Line : ∀ a, a < 3 → ∀ b, b < 3 → a ≠ b → (F_Line a).2.1 ≠ (F_Line b).2.1 := by decide +kernel
theorem t_Line_ok : ∀ k, k < 3 → parseFieldDescriptor (F_Line k).2.2.1 = some (t_Line k) := by decide +kernel
theorem i_Line : ∀ w ∈ u_ws "TileScreen$Line" F_Line 3, w ∈ TB := by
  have h : (u_ws "TileScreen$Line" F_Line 3).all (fun w => decide (w ∈ tables_1) && goodWord w) = true := by decide +kernel
  exact fun w hw => by have h1 := List.all_eq_true.mp h w hw; rw [Bool.and_eq_true, decide_eq_true_iff] at h1; exact tb_in h1.1 h1.2
def F_Poisons : u_T := fun k => match k with
  | 0 => ("TileScreen$Poisons", "ahead", "[I", true)
  | 1 => ("TileScreen$Poisons", "masks", "[I", true)
  | _ => ("TileScreen$Poisons", "count", "I", false)
def t_Poisons : Nat → FieldType := fun k => match k with
  | 0 => .array (.int)
  | 1 => .array (.int)
  | _ => .int
theorem n_Poisons : ∀ a, a < 3 → ∀ b, b < 3 → a ≠ b → (F_Poisons a).2.1 ≠ (F_Poisons b).2.1 := by decide +kernel
theorem t_Poisons_ok : ∀ k, k < 3 → parseFieldDescriptor (F_Poisons k).2.2.1 = some (t_Poisons k) := by decide +kernel
theorem i_Poisons : ∀ w ∈ u_ws "TileScreen$Poisons" F_Poisons 3, w ∈ TB := by
  have h : (u_ws "TileScreen$Poisons" F_Poisons 3).all (fun w => decide (w ∈ tables_1) && goodWord w) = true := by decide +kernel
  exact fun w hw => by have h1 := List.all_eq_true.mp h w hw; rw [Bool.and_eq_true, decide_eq_true_iff] at h1; exact tb_in h1.1 h1.2
def F_Look : u_T := fun k => match k with
  | 0 => ("TileScreen$Look", "palette", "[I", true)
  | 1 => ("TileScreen$Look", "colours", "I", false)
  | _ => ("TileScreen$Look", "runs", "I", false)
def t_Look : Nat → FieldType := fun k => match k with
  | 0 => .array (.int)
  | 1 => .int
  | _ => .int
theorem n_Look : ∀ a, a < 3 → ∀ b, b < 3 → a ≠ b → (F_Look a).2.1 ≠ (F_Look b).2.1 := by decide +kernel
theorem t_Look_ok : ∀ k, k < 3 → parseFieldDescriptor (F_Look k).2.2.1 = some (t_Look k) := by decide +kernel
theorem i_Look : ∀ w ∈ u_ws "TileScreen$Look" F_Look 3, w ∈ TB := by
  have h : (u_ws "TileScreen$Look" F_Look 3).all (fun w => decide (w ∈ tables_1) && goodWord w) = true := by decide +kernel
  exact fun w hw => by have h1 := List.all_eq_true.mp h w hw; rw [Bool.and_eq_true, decide_eq_true_iff] at h1; exact tb_in h1.1 h1.2
def F_Feed : u_T := fun k => match k with
  | 0 => ("TileScreen$Feed", "sent", "LTileScreen$Tiles;", true)
  | 1 => ("TileScreen$Feed", "sentNumber", "J", false)
  | 2 => ("TileScreen$Feed", "cache", "LTileScreen$Cache;", true)
  | 3 => ("TileScreen$Feed", "line", "LTileScreen$Line;", true)
  | 4 => ("TileScreen$Feed", "composed", "[I", true)
  | 5 => ("TileScreen$Feed", "look", "LTileScreen$Look;", true)
  | 6 => ("TileScreen$Feed", "twin", "I", false)
  | _ => ("TileScreen$Feed", "entry", "I", false)
def t_Feed : Nat → FieldType := fun k => match k with
  | 0 => .object "TileScreen$Tiles"
  | 1 => .long
  | 2 => .object "TileScreen$Cache"
  | 3 => .object "TileScreen$Line"
  | 4 => .array (.int)
  | 5 => .object "TileScreen$Look"
  | 6 => .int
  | _ => .int
theorem n_Feed : ∀ a, a < 8 → ∀ b, b < 8 → a ≠ b → (F_Feed a).2.1 ≠ (F_Feed b).2.1 := by decide +kernel
theorem t_Feed_ok : ∀ k, k < 8 → parseFieldDescriptor (F_Feed k).2.2.1 = some (t_Feed k) := by decide +kernel
theorem i_Feed : ∀ w ∈ u_ws "TileScreen$Feed" F_Feed 8, w ∈ TB := by
  have h : (u_ws "TileScreen$Feed" F_Feed 8).all (fun w => decide (w ∈ tables_1) && goodWord w) = true := by decide +kernel
  exact fun w hw => by have h1 := List.all_eq_true.mp h w hw; rw [Bool.and_eq_true, decide_eq_true_iff] at h1; exact tb_in h1.1 h1.2
def F_Display : u_T := fun k => match k with
  | 0 => ("TileScreen$Display", "front", "LTileScreen$Tiles;", true)
  | 1 => ("TileScreen$Display", "frontNumber", "J", false)
  | 2 => ("TileScreen$Display", "back", "LTileScreen$Tiles;", true)
  | 3 => ("TileScreen$Display", "cache", "LTileScreen$Cache;", true)
  | 4 => ("TileScreen$Display", "came", "[I", true)
  | 5 => ("TileScreen$Display", "cameSize", "I", false)
  | 6 => ("TileScreen$Display", "palette", "[I", true)
  | 7 => ("TileScreen$Display", "position", "I", false)
  | 8 => ("TileScreen$Display", "end", "I", false)
  | _ => ("TileScreen$Display", "wrong", "Z", false)
def t_Display : Nat → FieldType := fun k => match k with
  | 0 => .object "TileScreen$Tiles"
  | 1 => .long
  | 2 => .object "TileScreen$Tiles"
  | 3 => .object "TileScreen$Cache"
  | 4 => .array (.int)
  | 5 => .int
  | 6 => .array (.int)
  | 7 => .int
  | 8 => .int
  | _ => .boolean
theorem n_Display : ∀ a, a < 10 → ∀ b, b < 10 → a ≠ b → (F_Display a).2.1 ≠ (F_Display b).2.1 := by decide +kernel
theorem t_Display_ok : ∀ k, k < 10 → parseFieldDescriptor (F_Display k).2.2.1 = some (t_Display k) := by decide +kernel
theorem i_Display : ∀ w ∈ u_ws "TileScreen$Display" F_Display 10, w ∈ TB := by
  have h : (u_ws "TileScreen$Display" F_Display 10).all (fun w => decide (w ∈ tables_1) && goodWord w) = true := by decide +kernel
  exact fun w hw => by have h1 := List.all_eq_true.mp h w hw; rw [Bool.and_eq_true, decide_eq_true_iff] at h1; exact tb_in h1.1 h1.2
def F_Viewer : u_T := fun k => match k with
  | 0 => ("TileScreen$Viewer", "feed", "LTileScreen$Feed;", true)
  | 1 => ("TileScreen$Viewer", "display", "LTileScreen$Display;", true)
  | 2 => ("TileScreen$Viewer", "poisons", "LTileScreen$Poisons;", true)
  | 3 => ("TileScreen$Viewer", "connected", "Z", false)
  | 4 => ("TileScreen$Viewer", "credit", "I", false)
  | _ => ("TileScreen$Viewer", "epoch", "I", false)
def t_Viewer : Nat → FieldType := fun k => match k with
  | 0 => .object "TileScreen$Feed"
  | 1 => .object "TileScreen$Display"
  | 2 => .object "TileScreen$Poisons"
  | 3 => .boolean
  | 4 => .int
  | _ => .int
theorem n_Viewer : ∀ a, a < 6 → ∀ b, b < 6 → a ≠ b → (F_Viewer a).2.1 ≠ (F_Viewer b).2.1 := by decide +kernel
theorem t_Viewer_ok : ∀ k, k < 6 → parseFieldDescriptor (F_Viewer k).2.2.1 = some (t_Viewer k) := by decide +kernel
theorem i_Viewer : ∀ w ∈ u_ws "TileScreen$Viewer" F_Viewer 6, w ∈ TB := by
  have h : (u_ws "TileScreen$Viewer" F_Viewer 6).all (fun w => decide (w ∈ tables_1) && goodWord w) = true := by decide +kernel
  exact fun w hw => by have h1 := List.all_eq_true.mp h w hw; rw [Bool.and_eq_true, decide_eq_true_iff] at h1; exact tb_in h1.1 h1.2
def F_Scr : u_T := fun k => match k with
  | 0 => ("TileScreen", "drawn", "LTileScreen$Tiles;", true)
  | 1 => ("TileScreen", "closed", "LTileScreen$Tiles;", true)
  | 2 => ("TileScreen", "copy", "LTileScreen$Tiles;", true)
  | 3 => ("TileScreen", "viewers", "[LTileScreen$Viewer;", true)
  | _ => ("TileScreen", "number", "I", false)
def t_Scr : Nat → FieldType := fun k => match k with
  | 0 => .object "TileScreen$Tiles"
  | 1 => .object "TileScreen$Tiles"
  | 2 => .object "TileScreen$Tiles"
  | 3 => .array (.object "TileScreen$Viewer")
  | _ => .int
theorem n_Scr : ∀ a, a < 5 → ∀ b, b < 5 → a ≠ b → (F_Scr a).2.1 ≠ (F_Scr b).2.1 := by decide +kernel
theorem t_Scr_ok : ∀ k, k < 5 → parseFieldDescriptor (F_Scr k).2.2.1 = some (t_Scr k) := by decide +kernel
theorem i_Scr : ∀ w ∈ u_ws "TileScreen" F_Scr 5, w ∈ TB := by
  have h : (u_ws "TileScreen" F_Scr 5).all (fun w => decide (w ∈ tables_1) && goodWord w) = true := by decide +kernel
  exact fun w hw => by have h1 := List.all_eq_true.mp h w hw; rw [Bool.and_eq_true, decide_eq_true_iff] at h1; exact tb_in h1.1 h1.2
def F_Mod : u_T := fun k => match k with
  | 0 => ("TileScreenModel", "code", "I", false)
  | 1 => ("TileScreenModel", "pixel", "[I", true)
  | 2 => ("TileScreenModel", "number", "I", false)
  | 3 => ("TileScreenModel", "cached", "[I", true)
  | 4 => ("TileScreenModel", "place", "[I", true)
  | 5 => ("TileScreenModel", "there", "[Z", true)
  | 6 => ("TileScreenModel", "connected", "[Z", true)
  | 7 => ("TileScreenModel", "shown", "[I", true)
  | 8 => ("TileScreenModel", "sentFrame", "[I", true)
  | 9 => ("TileScreenModel", "credit", "[I", true)
  | 10 => ("TileScreenModel", "epoch", "[I", true)
  | 11 => ("TileScreenModel", "by", "[I", true)
  | 12 => ("TileScreenModel", "line", "[I", true)
  | 13 => ("TileScreenModel", "lineSize", "[I", true)
  | 14 => ("TileScreenModel", "lineAt", "[I", true)
  | 15 => ("TileScreenModel", "came", "[I", true)
  | 16 => ("TileScreenModel", "cameSize", "[I", true)
  | 17 => ("TileScreenModel", "poisonAt", "[I", true)
  | 18 => ("TileScreenModel", "poisonMask", "[I", true)
  | 19 => ("TileScreenModel", "poisons", "[I", true)
  | 20 => ("TileScreenModel", "tile", "[I", true)
  | 21 => ("TileScreenModel", "record", "[I", true)
  | 22 => ("TileScreenModel", "colour", "[I", true)
  | 23 => ("TileScreenModel", "size", "I", false)
  | 24 => ("TileScreenModel", "colours", "I", false)
  | 25 => ("TileScreenModel", "next", "I", false)
  | _ => ("TileScreenModel", "last", "I", false)
def t_Mod : Nat → FieldType := fun k => match k with
  | 0 => .int
  | 1 => .array (.int)
  | 2 => .int
  | 3 => .array (.int)
  | 4 => .array (.int)
  | 5 => .array (.boolean)
  | 6 => .array (.boolean)
  | 7 => .array (.int)
  | 8 => .array (.int)
  | 9 => .array (.int)
  | 10 => .array (.int)
  | 11 => .array (.int)
  | 12 => .array (.int)
  | 13 => .array (.int)
  | 14 => .array (.int)
  | 15 => .array (.int)
  | 16 => .array (.int)
  | 17 => .array (.int)
  | 18 => .array (.int)
  | 19 => .array (.int)
  | 20 => .array (.int)
  | 21 => .array (.int)
  | 22 => .array (.int)
  | 23 => .int
  | 24 => .int
  | 25 => .int
  | _ => .int
theorem n_Mod : ∀ a, a < 27 → ∀ b, b < 27 → a ≠ b → (F_Mod a).2.1 ≠ (F_Mod b).2.1 := by decide +kernel
theorem t_Mod_ok : ∀ k, k < 27 → parseFieldDescriptor (F_Mod k).2.2.1 = some (t_Mod k) := by decide +kernel
theorem i_Mod : ∀ w ∈ u_ws "TileScreenModel" F_Mod 27, w ∈ TB := by
  have h : (u_ws "TileScreenModel" F_Mod 27).all (fun w => decide (w ∈ tables_1) && goodWord w) = true := by decide +kernel
  exact fun w hw => by have h1 := List.all_eq_true.mp h w hw; rw [Bool.and_eq_true, decide_eq_true_iff] at h1; exact tb_in h1.1 h1.2
abbrev classes : List vw_C := [("TileScreen$Tiles", F_Tiles, 2), ("TileScreen$Cache", F_Cache, 3), ("TileScreen$Line", F_Line, 3), ("TileScreen$Poisons", F_Poisons, 3), ("TileScreen$Look", F_Look, 3), ("TileScreen$Feed", F_Feed, 8), ("TileScreen$Display", F_Display, 10), ("TileScreen$Viewer", F_Viewer, 6), ("TileScreen", F_Scr, 5), ("TileScreenModel", F_Mod, 27)]
