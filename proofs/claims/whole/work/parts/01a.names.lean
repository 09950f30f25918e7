/-! ===== BEGIN words of one list among another's, by their places ===== -/
theorem goodIn_r {big : List Cond} (ws : List Cond) (ps : List Nat) (hp : ws = ps.filterMap (fun i => big[i]?)) (h : ws.all goodWord = true) : GoodIn big ws := by
  intro w hw
  have h1 := List.all_eq_true.mp h w hw
  rw [hp] at hw
  obtain ⟨i, -, hi⟩ := List.mem_filterMap.mp hw
  have hm : w ∈ big := by first | exact List.mem_of_getElem? hi | exact List.getElem?_mem hi
  exact ⟨hm, good_of_word h1⟩
theorem goodIn_app {big a b : List Cond} (ha : GoodIn big a) (hb : GoodIn big b) : GoodIn big (a ++ b) := fun w h => (List.mem_append.mp h).elim (ha w) (hb w)
theorem goodIn_ca {big a b : List Cond} {c : Cond} (ha : GoodIn big (c :: a)) (hb : GoodIn big b) : GoodIn big (c :: (a ++ b)) := fun w h => (List.mem_cons.mp h).elim (fun e => ha w (List.mem_cons.mpr (Or.inl e))) (fun h => (List.mem_append.mp h).elim (fun h => ha w (List.mem_cons.mpr (Or.inr h))) (hb w))
theorem goodIn_sub {big ws : List Cond} (hm : ∀ w ∈ ws, w ∈ big) (h : ws.all goodWord = true) : GoodIn big ws := fun w hw => ⟨hm w hw, good_of_word (List.all_eq_true.mp h w hw)⟩
/-! ===== END ===== -/

/-! ===== BEGIN printed: names, fields, word lists, decode rows ===== -/
def RX0 : String := "StateEnds$Marks"
def TX0 : u_T := fun k => match k with
  | 0 => ("StateEnds$Marks", "slots", "[I", true)
  | 1 => ("StateEnds$Marks", "numbers", "[I", true)
  | 2 => ("StateEnds$Marks", "lefts", "[I", true)
  | _ => ("StateEnds$Marks", "sizes", "[I", true)
def tyX0 : Nat → FieldType := fun k => match k with
  | 0 => .array .int
  | 1 => .array .int
  | 2 => .array .int
  | _ => .array .int
abbrev wsX00 : List Cond := u_ws RX0 TX0 4
theorem nmX0 : ∀ a, a < 4 → ∀ b, b < 4 → a ≠ b → (TX0 a).2.1 ≠ (TX0 b).2.1 := by decide +kernel
theorem tyX0_ok : ∀ k, k < 4 → parseFieldDescriptor (TX0 k).2.2.1 = some (tyX0 k) := by decide +kernel
abbrev cX0_init : ByteArray := prog_2_method_1_code
def yX0_init : MethodName := ⟨RX0, "<init>", "()V"⟩
abbrev cX0_begin : ByteArray := prog_2_method_2_code
def yX0_begin : MethodName := ⟨RX0, "begin", "(I)V"⟩
abbrev cX0_keep : ByteArray := prog_2_method_3_code
def yX0_keep : MethodName := ⟨RX0, "keep", "(IIII)V"⟩
abbrev cX0_indexOf : ByteArray := prog_2_method_4_code
def yX0_indexOf : MethodName := ⟨RX0, "indexOf", "(II)I"⟩
def RX1 : String := "StateEnds$Places"
def TX1 : u_T := fun k => match k with
  | 0 => ("StateEnds$Places", "slots", "[I", true)
  | 1 => ("StateEnds$Places", "numbers", "[I", true)
  | 2 => ("StateEnds$Places", "stamps", "[I", true)
  | 3 => ("StateEnds$Places", "ends", "[I", true)
  | 4 => ("StateEnds$Places", "line", "[I", true)
  | _ => ("StateEnds$Places", "taken", "I", false)
def tyX1 : Nat → FieldType := fun k => match k with
  | 0 => .array .int
  | 1 => .array .int
  | 2 => .array .int
  | 3 => .array .int
  | 4 => .array .int
  | _ => .int
abbrev wsX10 : List Cond := u_ws RX1 TX1 6
theorem nmX1 : ∀ a, a < 6 → ∀ b, b < 6 → a ≠ b → (TX1 a).2.1 ≠ (TX1 b).2.1 := by decide +kernel
theorem tyX1_ok : ∀ k, k < 6 → parseFieldDescriptor (TX1 k).2.2.1 = some (tyX1 k) := by decide +kernel
abbrev cX1_init : ByteArray := prog_3_method_1_code
def yX1_init : MethodName := ⟨RX1, "<init>", "()V"⟩
abbrev cX1_isTaken : ByteArray := prog_3_method_2_code
def yX1_isTaken : MethodName := ⟨RX1, "isTaken", "(I)Z"⟩
abbrev cX1_stateAt : ByteArray := prog_3_method_3_code
def yX1_stateAt : MethodName := ⟨RX1, "stateAt", "(I)I"⟩
abbrev cX1_keyAt : ByteArray := prog_3_method_4_code
def yX1_keyAt : MethodName := ⟨RX1, "keyAt", "(I)I"⟩
abbrev cX1_memberAt : ByteArray := prog_3_method_5_code
def yX1_memberAt : MethodName := ⟨RX1, "memberAt", "(I)I"⟩
abbrev cX1_leastFree : ByteArray := prog_3_method_6_code
def yX1_leastFree : MethodName := ⟨RX1, "leastFree", "()I"⟩
abbrev cX1_take : ByteArray := prog_3_method_7_code
def yX1_take : MethodName := ⟨RX1, "take", "(II)V"⟩
abbrev cX1_vacate : ByteArray := prog_3_method_8_code
def yX1_vacate : MethodName := ⟨RX1, "vacate", "(I)V"⟩
abbrev cX1_vacateAll : ByteArray := prog_3_method_9_code
def yX1_vacateAll : MethodName := ⟨RX1, "vacateAll", "()V"⟩
def RX2 : String := "StateEnds$Rows"
def TX2 : u_T := fun k => match k with
  | 0 => ("StateEnds$Rows", "cells", "[I", true)
  | 1 => ("StateEnds$Rows", "first", "I", false)
  | 2 => ("StateEnds$Rows", "kept", "I", false)
  | _ => ("StateEnds$Rows", "ever", "I", false)
def tyX2 : Nat → FieldType := fun k => match k with
  | 0 => .array .int
  | 1 => .int
  | 2 => .int
  | _ => .int
abbrev wsX20 : List Cond := u_ws RX2 TX2 4
theorem nmX2 : ∀ a, a < 4 → ∀ b, b < 4 → a ≠ b → (TX2 a).2.1 ≠ (TX2 b).2.1 := by decide +kernel
theorem tyX2_ok : ∀ k, k < 4 → parseFieldDescriptor (TX2 k).2.2.1 = some (tyX2 k) := by decide +kernel
abbrev cX2_init : ByteArray := prog_4_method_1_code
def yX2_init : MethodName := ⟨RX2, "<init>", "()V"⟩
abbrev cX2_begin : ByteArray := prog_4_method_2_code
def yX2_begin : MethodName := ⟨RX2, "begin", "()I"⟩
abbrev cX2_cell : ByteArray := prog_4_method_3_code
def yX2_cell : MethodName := ⟨RX2, "cell", "(II)I"⟩
abbrev cX2_indexOf : ByteArray := prog_4_method_4_code
def yX2_indexOf : MethodName := ⟨RX2, "indexOf", "(I)I"⟩
def RX3 : String := "StateEnds$States"
def TX3 : u_T := fun k => match k with
  | 0 => ("StateEnds$States", "forms", "[I", true)
  | 1 => ("StateEnds$States", "clocks", "[I", true)
  | 2 => ("StateEnds$States", "spans", "[I", true)
  | 3 => ("StateEnds$States", "ways", "[I", true)
  | 4 => ("StateEnds$States", "times", "[I", true)
  | _ => ("StateEnds$States", "made", "I", false)
def tyX3 : Nat → FieldType := fun k => match k with
  | 0 => .array .int
  | 1 => .array .int
  | 2 => .array .int
  | 3 => .array .int
  | 4 => .array .int
  | _ => .int
abbrev wsX30 : List Cond := u_ws RX3 TX3 6
theorem nmX3 : ∀ a, a < 6 → ∀ b, b < 6 → a ≠ b → (TX3 a).2.1 ≠ (TX3 b).2.1 := by decide +kernel
theorem tyX3_ok : ∀ k, k < 6 → parseFieldDescriptor (TX3 k).2.2.1 = some (tyX3 k) := by decide +kernel
abbrev cX3_init : ByteArray := prog_5_method_1_code
def yX3_init : MethodName := ⟨RX3, "<init>", "()V"⟩
abbrev cX3_make : ByteArray := prog_5_method_2_code
def yX3_make : MethodName := ⟨RX3, "make", "(IIII)I"⟩
abbrev cX3_has : ByteArray := prog_5_method_3_code
def yX3_has : MethodName := ⟨RX3, "has", "(I)Z"⟩
abbrev cX3_isList : ByteArray := prog_5_method_4_code
def yX3_isList : MethodName := ⟨RX3, "isList", "(I)Z"⟩
abbrev cX3_isStampedByReads : ByteArray := prog_5_method_5_code
def yX3_isStampedByReads : MethodName := ⟨RX3, "isStampedByReads", "(I)Z"⟩
abbrev cX3_timeOf : ByteArray := prog_5_method_6_code
def yX3_timeOf : MethodName := ⟨RX3, "timeOf", "(I)I"⟩
def RX4 : String := "StateEnds"
def TX4 : u_T := fun k => match k with
  | 0 => ("StateEnds", "states", "LStateEnds$States;", true)
  | 1 => ("StateEnds", "places", "LStateEnds$Places;", true)
  | 2 => ("StateEnds", "rows", "LStateEnds$Rows;", true)
  | 3 => ("StateEnds", "marks", "LStateEnds$Marks;", true)
  | _ => ("StateEnds", "sweepFrom", "I", false)
def tyX4 : Nat → FieldType := fun k => match k with
  | 0 => .object "StateEnds$States"
  | 1 => .object "StateEnds$Places"
  | 2 => .object "StateEnds$Rows"
  | 3 => .object "StateEnds$Marks"
  | _ => .int
abbrev wsX40 : List Cond := u_ws RX4 TX4 5
theorem nmX4 : ∀ a, a < 5 → ∀ b, b < 5 → a ≠ b → (TX4 a).2.1 ≠ (TX4 b).2.1 := by decide +kernel
theorem tyX4_ok : ∀ k, k < 5 → parseFieldDescriptor (TX4 k).2.2.1 = some (tyX4 k) := by decide +kernel
abbrev cX4_init : ByteArray := prog_1_method_1_code
def yX4_init : MethodName := ⟨RX4, "<init>", "()V"⟩
abbrev cX4_state : ByteArray := prog_1_method_2_code
def yX4_state : MethodName := ⟨RX4, "state", "(IIII)I"⟩
abbrev cX4_put : ByteArray := prog_1_method_3_code
def yX4_put : MethodName := ⟨RX4, "put", "(IIII)I"⟩
abbrev cX4_get : ByteArray := prog_1_method_4_code
def yX4_get : MethodName := ⟨RX4, "get", "(III)I"⟩
abbrev cX4_remove : ByteArray := prog_1_method_5_code
def yX4_remove : MethodName := ⟨RX4, "remove", "(III)I"⟩
abbrev cX4_add : ByteArray := prog_1_method_6_code
def yX4_add : MethodName := ⟨RX4, "add", "(III)I"⟩
abbrev cX4_at : ByteArray := prog_1_method_7_code
def yX4_at : MethodName := ⟨RX4, "at", "(III)I"⟩
abbrev cX4_clear : ByteArray := prog_1_method_8_code
def yX4_clear : MethodName := ⟨RX4, "clear", "(II)I"⟩
abbrev cX4_held : ByteArray := prog_1_method_9_code
def yX4_held : MethodName := ⟨RX4, "held", "(IIZ)I"⟩
abbrev cX4_left : ByteArray := prog_1_method_10_code
def yX4_left : MethodName := ⟨RX4, "left", "(III)I"⟩
abbrev cX4_tick : ByteArray := prog_1_method_11_code
def yX4_tick : MethodName := ⟨RX4, "tick", "(I)I"⟩
abbrev cX4_watermark : ByteArray := prog_1_method_12_code
def yX4_watermark : MethodName := ⟨RX4, "watermark", "(I)I"⟩
abbrev cX4_sweep : ByteArray := prog_1_method_13_code
def yX4_sweep : MethodName := ⟨RX4, "sweep", "(I)I"⟩
abbrev cX4_setting : ByteArray := prog_1_method_14_code
def yX4_setting : MethodName := ⟨RX4, "setting", "(IIZ)I"⟩
abbrev cX4_mark : ByteArray := prog_1_method_15_code
def yX4_mark : MethodName := ⟨RX4, "mark", "(I)I"⟩
abbrev cX4_restore : ByteArray := prog_1_method_16_code
def yX4_restore : MethodName := ⟨RX4, "restore", "(I)I"⟩
abbrev cX4_row : ByteArray := prog_1_method_17_code
def yX4_row : MethodName := ⟨RX4, "row", "(II)I"⟩
abbrev cX4_place : ByteArray := prog_1_method_18_code
def yX4_place : MethodName := ⟨RX4, "place", "(III)I"⟩
abbrev cX4_next : ByteArray := prog_1_method_19_code
def yX4_next : MethodName := ⟨RX4, "next", "(I)I"⟩
abbrev cX4_count : ByteArray := prog_1_method_20_code
def yX4_count : MethodName := ⟨RX4, "count", "(I)I"⟩
abbrev cX4_isZeroOrOne : ByteArray := prog_1_method_21_code
def yX4_isZeroOrOne : MethodName := ⟨RX4, "isZeroOrOne", "(I)Z"⟩
abbrev cX4_isSpan : ByteArray := prog_1_method_22_code
def yX4_isSpan : MethodName := ⟨RX4, "isSpan", "(I)Z"⟩
abbrev cX4_isMember : ByteArray := prog_1_method_23_code
def yX4_isMember : MethodName := ⟨RX4, "isMember", "(I)Z"⟩
abbrev cX4_isMark : ByteArray := prog_1_method_24_code
def yX4_isMark : MethodName := ⟨RX4, "isMark", "(I)Z"⟩
abbrev cX4_isStateAndKey : ByteArray := prog_1_method_25_code
def yX4_isStateAndKey : MethodName := ⟨RX4, "isStateAndKey", "(II)Z"⟩
abbrev cX4_isNumberFor : ByteArray := prog_1_method_26_code
def yX4_isNumberFor : MethodName := ⟨RX4, "isNumberFor", "(III)Z"⟩
abbrev cX4_isListFor : ByteArray := prog_1_method_27_code
def yX4_isListFor : MethodName := ⟨RX4, "isListFor", "(II)Z"⟩
abbrev cX4_isMemberOrIndexFor : ByteArray := prog_1_method_28_code
def yX4_isMemberOrIndexFor : MethodName := ⟨RX4, "isMemberOrIndexFor", "(III)Z"⟩
abbrev cX4_slotFor : ByteArray := prog_1_method_29_code
def yX4_slotFor : MethodName := ⟨RX4, "slotFor", "(III)I"⟩
abbrev cX4_indexFor : ByteArray := prog_1_method_30_code
def yX4_indexFor : MethodName := ⟨RX4, "indexFor", "(II)I"⟩
abbrev cX4_slotOf : ByteArray := prog_1_method_31_code
def yX4_slotOf : MethodName := ⟨RX4, "slotOf", "(III)I"⟩
abbrev cX4_isOfKey : ByteArray := prog_1_method_32_code
def yX4_isOfKey : MethodName := ⟨RX4, "isOfKey", "(III)Z"⟩
abbrev cX4_isShown : ByteArray := prog_1_method_33_code
def yX4_isShown : MethodName := ⟨RX4, "isShown", "(I)Z"⟩
abbrev cX4_leftOf : ByteArray := prog_1_method_34_code
def yX4_leftOf : MethodName := ⟨RX4, "leftOf", "(I)I"⟩
abbrev cX4_placeOf : ByteArray := prog_1_method_35_code
def yX4_placeOf : MethodName := ⟨RX4, "placeOf", "(IIZ)I"⟩
abbrev cX4_howMany : ByteArray := prog_1_method_36_code
def yX4_howMany : MethodName := ⟨RX4, "howMany", "(IIZ)I"⟩
abbrev cX4_howManyShown : ByteArray := prog_1_method_37_code
def yX4_howManyShown : MethodName := ⟨RX4, "howManyShown", "()I"⟩
abbrev cX4_bring : ByteArray := prog_1_method_38_code
def yX4_bring : MethodName := ⟨RX4, "bring", "(II)Z"⟩
abbrev cX4_write : ByteArray := prog_1_method_39_code
def yX4_write : MethodName := ⟨RX4, "write", "(II)V"⟩
abbrev cX4_stamp : ByteArray := prog_1_method_40_code
def yX4_stamp : MethodName := ⟨RX4, "stamp", "(II)V"⟩
abbrev cX4_read : ByteArray := prog_1_method_41_code
def yX4_read : MethodName := ⟨RX4, "read", "(I)I"⟩
abbrev cX4_tell : ByteArray := prog_1_method_42_code
def yX4_tell : MethodName := ⟨RX4, "tell", "(I)V"⟩
abbrev cX4_moveClock : ByteArray := prog_1_method_43_code
def yX4_moveClock : MethodName := ⟨RX4, "moveClock", "(II)I"⟩
abbrev cX4_spanShownAnew : ByteArray := prog_1_method_44_code
def yX4_spanShownAnew : MethodName := ⟨RX4, "spanShownAnew", "(I)V"⟩
def RX5 : String := "StateEndsModel"
def TX5 : u_T := fun k => match k with
  | 0 => ("StateEndsModel", "states", "I", false)
  | 1 => ("StateEndsModel", "forms", "[I", true)
  | 2 => ("StateEndsModel", "clocks", "[I", true)
  | 3 => ("StateEndsModel", "spans", "[I", true)
  | 4 => ("StateEndsModel", "ways", "[I", true)
  | 5 => ("StateEndsModel", "now", "[I", true)
  | 6 => ("StateEndsModel", "stateOf", "[I", true)
  | 7 => ("StateEndsModel", "keyOf", "[I", true)
  | 8 => ("StateEndsModel", "memberOf", "[I", true)
  | 9 => ("StateEndsModel", "numberOf", "[I", true)
  | 10 => ("StateEndsModel", "stampOf", "[I", true)
  | 11 => ("StateEndsModel", "endOf", "[I", true)
  | 12 => ("StateEndsModel", "cameOf", "[I", true)
  | 13 => ("StateEndsModel", "came", "I", false)
  | 14 => ("StateEndsModel", "sweepAt", "I", false)
  | 15 => ("StateEndsModel", "rows", "[I", true)
  | 16 => ("StateEndsModel", "rowMany", "I", false)
  | 17 => ("StateEndsModel", "rowsEver", "I", false)
  | 18 => ("StateEndsModel", "markMany", "[I", true)
  | _ => ("StateEndsModel", "marks", "[I", true)
def tyX5 : Nat → FieldType := fun k => match k with
  | 0 => .int
  | 1 => .array .int
  | 2 => .array .int
  | 3 => .array .int
  | 4 => .array .int
  | 5 => .array .int
  | 6 => .array .int
  | 7 => .array .int
  | 8 => .array .int
  | 9 => .array .int
  | 10 => .array .int
  | 11 => .array .int
  | 12 => .array .int
  | 13 => .int
  | 14 => .int
  | 15 => .array .int
  | 16 => .int
  | 17 => .int
  | 18 => .array .int
  | _ => .array .int
abbrev wsX50 : List Cond := u_ws RX5 TX5 20
theorem nmX5 : ∀ a, a < 20 → ∀ b, b < 20 → a ≠ b → (TX5 a).2.1 ≠ (TX5 b).2.1 := by decide +kernel
theorem tyX5_ok : ∀ k, k < 20 → parseFieldDescriptor (TX5 k).2.2.1 = some (tyX5 k) := by decide +kernel
abbrev cX5_init : ByteArray := prog_7_method_1_code
def yX5_init : MethodName := ⟨RX5, "<init>", "()V"⟩
abbrev cX5_isIn : ByteArray := prog_7_method_2_code
def yX5_isIn : MethodName := ⟨RX5, "isIn", "(III)Z"⟩
abbrev cX5_isState : ByteArray := prog_7_method_3_code
def yX5_isState : MethodName := ⟨RX5, "isState", "(I)Z"⟩
abbrev cX5_isForm : ByteArray := prog_7_method_4_code
def yX5_isForm : MethodName := ⟨RX5, "isForm", "(II)Z"⟩
abbrev cX5_state : ByteArray := prog_7_method_5_code
def yX5_state : MethodName := ⟨RX5, "state", "(IIII)I"⟩
abbrev cX5_clockOf : ByteArray := prog_7_method_6_code
def yX5_clockOf : MethodName := ⟨RX5, "clockOf", "(I)I"⟩
abbrev cX5_isShown : ByteArray := prog_7_method_7_code
def yX5_isShown : MethodName := ⟨RX5, "isShown", "(I)Z"⟩
abbrev cX5_isOver : ByteArray := prog_7_method_8_code
def yX5_isOver : MethodName := ⟨RX5, "isOver", "(I)Z"⟩
abbrev cX5_free : ByteArray := prog_7_method_9_code
def yX5_free : MethodName := ⟨RX5, "free", "()I"⟩
abbrev cX5_find : ByteArray := prog_7_method_10_code
def yX5_find : MethodName := ⟨RX5, "find", "(III)I"⟩
abbrev cX5_findIn : ByteArray := prog_7_method_11_code
def yX5_findIn : MethodName := ⟨RX5, "findIn", "(IIIZ)I"⟩
abbrev cX5_stamps : ByteArray := prog_7_method_12_code
def yX5_stamps : MethodName := ⟨RX5, "stamps", "(I)V"⟩
abbrev cX5_writes : ByteArray := prog_7_method_13_code
def yX5_writes : MethodName := ⟨RX5, "writes", "(IIIII)V"⟩
abbrev cX5_tells : ByteArray := prog_7_method_14_code
def yX5_tells : MethodName := ⟨RX5, "tells", "(I)V"⟩
abbrev cX5_put : ByteArray := prog_7_method_15_code
def yX5_put : MethodName := ⟨RX5, "put", "(IIII)I"⟩
abbrev cX5_read : ByteArray := prog_7_method_16_code
def yX5_read : MethodName := ⟨RX5, "read", "(I)I"⟩
abbrev cX5_get : ByteArray := prog_7_method_17_code
def yX5_get : MethodName := ⟨RX5, "get", "(III)I"⟩
abbrev cX5_remove : ByteArray := prog_7_method_18_code
def yX5_remove : MethodName := ⟨RX5, "remove", "(III)I"⟩
abbrev cX5_add : ByteArray := prog_7_method_19_code
def yX5_add : MethodName := ⟨RX5, "add", "(III)I"⟩
abbrev cX5_at : ByteArray := prog_7_method_20_code
def yX5_at : MethodName := ⟨RX5, "at", "(III)I"⟩
abbrev cX5_clear : ByteArray := prog_7_method_21_code
def yX5_clear : MethodName := ⟨RX5, "clear", "(II)I"⟩
abbrev cX5_held : ByteArray := prog_7_method_22_code
def yX5_held : MethodName := ⟨RX5, "held", "(IIZ)I"⟩
abbrev cX5_isAsked : ByteArray := prog_7_method_23_code
def yX5_isAsked : MethodName := ⟨RX5, "isAsked", "(III)Z"⟩
abbrev cX5_asked : ByteArray := prog_7_method_24_code
def yX5_asked : MethodName := ⟨RX5, "asked", "(IIIZ)I"⟩
abbrev cX5_left : ByteArray := prog_7_method_25_code
def yX5_left : MethodName := ⟨RX5, "left", "(III)I"⟩
abbrev cX5_place : ByteArray := prog_7_method_26_code
def yX5_place : MethodName := ⟨RX5, "place", "(III)I"⟩
abbrev cX5_comes : ByteArray := prog_7_method_27_code
def yX5_comes : MethodName := ⟨RX5, "comes", "(II)I"⟩
abbrev cX5_overs : ByteArray := prog_7_method_28_code
def yX5_overs : MethodName := ⟨RX5, "overs", "()I"⟩
abbrev cX5_tick : ByteArray := prog_7_method_29_code
def yX5_tick : MethodName := ⟨RX5, "tick", "(I)I"⟩
abbrev cX5_watermark : ByteArray := prog_7_method_30_code
def yX5_watermark : MethodName := ⟨RX5, "watermark", "(I)I"⟩
abbrev cX5_sweep : ByteArray := prog_7_method_31_code
def yX5_sweep : MethodName := ⟨RX5, "sweep", "(I)I"⟩
abbrev cX5_setting : ByteArray := prog_7_method_32_code
def yX5_setting : MethodName := ⟨RX5, "setting", "(IIZ)I"⟩
abbrev cX5_mark : ByteArray := prog_7_method_33_code
def yX5_mark : MethodName := ⟨RX5, "mark", "(I)I"⟩
abbrev cX5_isAhead : ByteArray := prog_7_method_34_code
def yX5_isAhead : MethodName := ⟨RX5, "isAhead", "(II)Z"⟩
abbrev cX5_nextKept : ByteArray := prog_7_method_35_code
def yX5_nextKept : MethodName := ⟨RX5, "nextKept", "(I)I"⟩
abbrev cX5_restore : ByteArray := prog_7_method_36_code
def yX5_restore : MethodName := ⟨RX5, "restore", "(I)I"⟩
abbrev cX5_row : ByteArray := prog_7_method_37_code
def yX5_row : MethodName := ⟨RX5, "row", "(II)I"⟩
abbrev cX5_next : ByteArray := prog_7_method_38_code
def yX5_next : MethodName := ⟨RX5, "next", "(I)I"⟩
abbrev cX5_count : ByteArray := prog_7_method_39_code
def yX5_count : MethodName := ⟨RX5, "count", "(I)I"⟩
def RJ7 : String := "java/util/Arrays"
def TJ7 : u_T := fun k => match k with
  | _ => ("", "", "", false)
def tyJ7 : Nat → FieldType := fun k => match k with
  | _ => .int
abbrev wsJ70 : List Cond := u_ws RJ7 TJ7 0
theorem nmJ7 : ∀ a, a < 0 → ∀ b, b < 0 → a ≠ b → (TJ7 a).2.1 ≠ (TJ7 b).2.1 := by decide +kernel
theorem tyJ7_ok : ∀ k, k < 0 → parseFieldDescriptor (TJ7 k).2.2.1 = some (tyJ7 k) := by decide +kernel
abbrev cJ7_fill_53178 : ByteArray := prog_8_method_103_code
def yJ7_fill_53178 : MethodName := ⟨RJ7, "fill", "([II)V"⟩
def RL : String := "StateEndsLaw"
abbrev cL_law : ByteArray := code
def yL_law : MethodName := ⟨RL, "law", "([I)Z"⟩
def wsJ7_fill_53178 : List Cond := .code yJ7_fill_53178 cJ7_fill_53178 4 none :: ([])
def wsX0_init : List Cond := .code yX0_init cX0_init 1 none :: ([.methodLink RX0 3 objectInit, .instanceMethod objectInit, .code objectInit ⟨#[0xb1]⟩ 1 none, .arrayClass .int, .fieldLink RX0 9 "StateEnds$Marks" "slots" "[I", .fieldLink RX0 15 "StateEnds$Marks" "numbers" "[I", .fieldLink RX0 18 "StateEnds$Marks" "lefts" "[I", .fieldLink RX0 21 "StateEnds$Marks" "sizes" "[I", .methodLink RX0 24 yJ7_fill_53178, .static yJ7_fill_53178, .initialized RJ7, .code yJ7_fill_53178 cJ7_fill_53178 4 none] ++ wsX00)
def wsX0_begin : List Cond := .code yX0_begin cX0_begin 2 none :: ([.fieldLink RX0 21 "StateEnds$Marks" "sizes" "[I"] ++ wsX00)
def wsX0_indexOf : List Cond := .code yX0_indexOf cX0_indexOf 3 (some .int) :: ([])
def wsX0_keep : List Cond := .code yX0_keep cX0_keep 6 none :: ([.fieldLink RX0 21 "StateEnds$Marks" "sizes" "[I", .fieldLink RX0 9 "StateEnds$Marks" "slots" "[I", .fieldLink RX0 15 "StateEnds$Marks" "numbers" "[I", .fieldLink RX0 18 "StateEnds$Marks" "lefts" "[I", .methodLink RX0 30 yX0_indexOf, .instanceMethod yX0_indexOf, .selects RX0 yX0_indexOf yX0_indexOf, .initialized RX0, .code yX0_indexOf cX0_indexOf 3 (some .int)] ++ wsX00)
def wsX1_init : List Cond := .code yX1_init cX1_init 1 none :: ([.methodLink RX1 3 objectInit, .instanceMethod objectInit, .code objectInit ⟨#[0xb1]⟩ 1 none, .arrayClass .int, .fieldLink RX1 9 "StateEnds$Places" "slots" "[I", .fieldLink RX1 15 "StateEnds$Places" "numbers" "[I", .fieldLink RX1 18 "StateEnds$Places" "stamps" "[I", .fieldLink RX1 21 "StateEnds$Places" "ends" "[I", .fieldLink RX1 24 "StateEnds$Places" "line" "[I", .fieldLink RX1 27 "StateEnds$Places" "taken" "I", .methodLink RX1 31 yJ7_fill_53178, .static yJ7_fill_53178, .initialized RJ7, .code yJ7_fill_53178 cJ7_fill_53178 4 none] ++ wsX10)
def wsX1_isTaken : List Cond := .code yX1_isTaken cX1_isTaken 2 (some .boolean) :: ([.fieldLink RX1 9 "StateEnds$Places" "slots" "[I"] ++ wsX10)
def wsX1_stateAt : List Cond := .code yX1_stateAt cX1_stateAt 2 (some .int) :: ([.fieldLink RX1 9 "StateEnds$Places" "slots" "[I"] ++ wsX10)
def wsX1_keyAt : List Cond := .code yX1_keyAt cX1_keyAt 2 (some .int) :: ([.fieldLink RX1 9 "StateEnds$Places" "slots" "[I"] ++ wsX10)
def wsX1_memberAt : List Cond := .code yX1_memberAt cX1_memberAt 2 (some .int) :: ([.fieldLink RX1 9 "StateEnds$Places" "slots" "[I"] ++ wsX10)
def wsX1_leastFree : List Cond := .code yX1_leastFree cX1_leastFree 2 (some .int) :: ([.methodLink RX1 37 yX1_isTaken, .instanceMethod yX1_isTaken, .selects RX1 yX1_isTaken yX1_isTaken, .initialized RX1, .code yX1_isTaken cX1_isTaken 2 (some .boolean), .fieldLink RX1 9 "StateEnds$Places" "slots" "[I"] ++ wsX10)
def wsX1_take : List Cond := .code yX1_take cX1_take 4 none :: ([.fieldLink RX1 9 "StateEnds$Places" "slots" "[I", .fieldLink RX1 27 "StateEnds$Places" "taken" "I", .fieldLink RX1 24 "StateEnds$Places" "line" "[I"] ++ wsX10)
def wsX1_vacate : List Cond := .code yX1_vacate cX1_vacate 4 none :: ([.fieldLink RX1 9 "StateEnds$Places" "slots" "[I", .fieldLink RX1 27 "StateEnds$Places" "taken" "I", .fieldLink RX1 24 "StateEnds$Places" "line" "[I"] ++ wsX10)
def wsX1_vacateAll : List Cond := .code yX1_vacateAll cX1_vacateAll 1 none :: ([.fieldLink RX1 9 "StateEnds$Places" "slots" "[I", .fieldLink RX1 27 "StateEnds$Places" "taken" "I", .methodLink RX1 31 yJ7_fill_53178, .static yJ7_fill_53178, .initialized RJ7, .code yJ7_fill_53178 cJ7_fill_53178 4 none] ++ wsX10)
def wsX2_init : List Cond := .code yX2_init cX2_init 1 none :: ([.methodLink RX2 3 objectInit, .instanceMethod objectInit, .code objectInit ⟨#[0xb1]⟩ 1 none, .arrayClass .int, .fieldLink RX2 9 "StateEnds$Rows" "cells" "[I", .fieldLink RX2 15 "StateEnds$Rows" "first" "I", .fieldLink RX2 19 "StateEnds$Rows" "kept" "I", .fieldLink RX2 22 "StateEnds$Rows" "ever" "I"] ++ wsX20)
def wsX2_indexOf : List Cond := .code yX2_indexOf cX2_indexOf 2 (some .int) :: ([.fieldLink RX2 15 "StateEnds$Rows" "first" "I"] ++ wsX20)
def wsX2_begin : List Cond := .code yX2_begin cX2_begin 1 (some .int) :: ([.fieldLink RX2 19 "StateEnds$Rows" "kept" "I", .fieldLink RX2 15 "StateEnds$Rows" "first" "I", .fieldLink RX2 22 "StateEnds$Rows" "ever" "I", .methodLink RX2 25 yX2_indexOf, .instanceMethod yX2_indexOf, .selects RX2 yX2_indexOf yX2_indexOf, .initialized RX2, .code yX2_indexOf cX2_indexOf 2 (some .int)] ++ wsX20)
def wsX2_cell : List Cond := .code yX2_cell cX2_cell 3 (some .int) :: ([.fieldLink RX2 9 "StateEnds$Rows" "cells" "[I", .methodLink RX2 25 yX2_indexOf, .instanceMethod yX2_indexOf, .selects RX2 yX2_indexOf yX2_indexOf, .initialized RX2, .code yX2_indexOf cX2_indexOf 2 (some .int), .fieldLink RX2 15 "StateEnds$Rows" "first" "I"] ++ wsX20)
def wsX3_init : List Cond := .code yX3_init cX3_init 1 none :: ([.methodLink RX3 3 objectInit, .instanceMethod objectInit, .code objectInit ⟨#[0xb1]⟩ 1 none, .arrayClass .int, .fieldLink RX3 9 "StateEnds$States" "forms" "[I", .fieldLink RX3 15 "StateEnds$States" "clocks" "[I", .fieldLink RX3 18 "StateEnds$States" "spans" "[I", .fieldLink RX3 21 "StateEnds$States" "ways" "[I", .fieldLink RX3 24 "StateEnds$States" "times" "[I", .fieldLink RX3 27 "StateEnds$States" "made" "I"] ++ wsX30)
def wsX3_make : List Cond := .code yX3_make cX3_make 6 (some .int) :: ([.fieldLink RX3 27 "StateEnds$States" "made" "I", .fieldLink RX3 9 "StateEnds$States" "forms" "[I", .fieldLink RX3 15 "StateEnds$States" "clocks" "[I", .fieldLink RX3 18 "StateEnds$States" "spans" "[I", .fieldLink RX3 21 "StateEnds$States" "ways" "[I"] ++ wsX30)
def wsX3_has : List Cond := .code yX3_has cX3_has 2 (some .boolean) :: ([.fieldLink RX3 27 "StateEnds$States" "made" "I"] ++ wsX30)
def wsX3_isList : List Cond := .code yX3_isList cX3_isList 2 (some .boolean) :: ([.fieldLink RX3 9 "StateEnds$States" "forms" "[I"] ++ wsX30)
def wsX3_isStampedByReads : List Cond := .code yX3_isStampedByReads cX3_isStampedByReads 2 (some .boolean) :: ([.fieldLink RX3 21 "StateEnds$States" "ways" "[I"] ++ wsX30)
def wsX3_timeOf : List Cond := .code yX3_timeOf cX3_timeOf 2 (some .int) :: ([.fieldLink RX3 24 "StateEnds$States" "times" "[I", .fieldLink RX3 15 "StateEnds$States" "clocks" "[I"] ++ wsX30)
def wsX4_init_r1 : List Cond := [Cond.methodLink RX4 3 objectInit, Cond.instanceMethod objectInit, Cond.code objectInit ⟨#[0xb1]⟩ 1 none, Cond.classLink RX4 9 RX3, Cond.instantiable RX3 6, Cond.initialized RX3, Cond.fieldLink RX4 12 "StateEnds" "states" "LStateEnds$States;", Cond.classLink RX4 16 RX1, Cond.instantiable RX1 6, Cond.initialized RX1, Cond.fieldLink RX4 19 "StateEnds" "places" "LStateEnds$Places;", Cond.classLink RX4 23 RX2, Cond.instantiable RX2 4, Cond.initialized RX2, Cond.fieldLink RX4 26 "StateEnds" "rows" "LStateEnds$Rows;", Cond.classLink RX4 30 RX0, Cond.instantiable RX0 4, Cond.initialized RX0, Cond.fieldLink RX4 33 "StateEnds" "marks" "LStateEnds$Marks;", Cond.fieldLink RX4 37 "StateEnds" "sweepFrom" "I", Cond.instanceMethod yX3_init, Cond.code yX3_init cX3_init 1 none, Cond.methodLink RX3 3 objectInit, Cond.arrayClass .int]
def wsX4_init_r2 : List Cond := [Cond.fieldLink RX3 9 "StateEnds$States" "forms" "[I", Cond.fieldLink RX3 15 "StateEnds$States" "clocks" "[I", Cond.fieldLink RX3 18 "StateEnds$States" "spans" "[I", Cond.fieldLink RX3 21 "StateEnds$States" "ways" "[I", Cond.fieldLink RX3 24 "StateEnds$States" "times" "[I", Cond.fieldLink RX3 27 "StateEnds$States" "made" "I", Cond.methodLink RX4 18 yX1_init, Cond.instanceMethod yX1_init, Cond.code yX1_init cX1_init 1 none, Cond.methodLink RX1 3 objectInit, Cond.fieldLink RX1 9 "StateEnds$Places" "slots" "[I", Cond.fieldLink RX1 15 "StateEnds$Places" "numbers" "[I", Cond.fieldLink RX1 18 "StateEnds$Places" "stamps" "[I", Cond.fieldLink RX1 21 "StateEnds$Places" "ends" "[I", Cond.fieldLink RX1 24 "StateEnds$Places" "line" "[I", Cond.fieldLink RX1 27 "StateEnds$Places" "taken" "I", Cond.methodLink RX1 31 yJ7_fill_53178, Cond.static yJ7_fill_53178, Cond.initialized RJ7, Cond.code yJ7_fill_53178 cJ7_fill_53178 4 none, Cond.instanceMethod yX2_init, Cond.code yX2_init cX2_init 1 none, Cond.methodLink RX2 3 objectInit, Cond.fieldLink RX2 9 "StateEnds$Rows" "cells" "[I"]
def wsX4_init_r3 : List Cond := [Cond.fieldLink RX2 15 "StateEnds$Rows" "first" "I", Cond.fieldLink RX2 19 "StateEnds$Rows" "kept" "I", Cond.fieldLink RX2 22 "StateEnds$Rows" "ever" "I", Cond.methodLink RX4 32 yX0_init, Cond.instanceMethod yX0_init, Cond.code yX0_init cX0_init 1 none, Cond.methodLink RX0 3 objectInit, Cond.fieldLink RX0 9 "StateEnds$Marks" "slots" "[I", Cond.fieldLink RX0 15 "StateEnds$Marks" "numbers" "[I", Cond.fieldLink RX0 18 "StateEnds$Marks" "lefts" "[I", Cond.fieldLink RX0 21 "StateEnds$Marks" "sizes" "[I", Cond.methodLink RX0 24 yJ7_fill_53178]
def wsX4_init : List Cond := .code yX4_init cX4_init 1 none :: ((wsX4_init_r1 ++ (wsX4_init_r2 ++ wsX4_init_r3)) ++ wsX30 ++ wsX40 ++ wsX10 ++ wsX20 ++ wsX00)
def wsX4_isZeroOrOne : List Cond := .code yX4_isZeroOrOne cX4_isZeroOrOne 1 (some .boolean) :: ([])
def wsX4_isSpan : List Cond := .code yX4_isSpan cX4_isSpan 1 (some .boolean) :: ([.constant RX4 118 (100000)])
def wsX4_state : List Cond := .code yX4_state cX4_state 5 (some .int) :: ([.fieldLink RX4 12 "StateEnds" "states" "LStateEnds$States;", .fieldLink RX4 48 "StateEnds$States" "made" "I", .methodLink RX4 41 yX4_isZeroOrOne, .static yX4_isZeroOrOne, .initialized RX4, .code yX4_isZeroOrOne cX4_isZeroOrOne 1 (some .boolean), .methodLink RX4 45 yX4_isSpan, .static yX4_isSpan, .code yX4_isSpan cX4_isSpan 1 (some .boolean), .constant RX4 118 (100000), .methodLink RX4 51 yX3_make, .instanceMethod yX3_make, .selects RX3 yX3_make yX3_make, .initialized RX3, .code yX3_make cX3_make 6 (some .int), .fieldLink RX3 27 "StateEnds$States" "made" "I", .fieldLink RX3 9 "StateEnds$States" "forms" "[I", .fieldLink RX3 15 "StateEnds$States" "clocks" "[I", .fieldLink RX3 18 "StateEnds$States" "spans" "[I", .fieldLink RX3 21 "StateEnds$States" "ways" "[I"] ++ wsX40 ++ wsX30)
def wsX4_isStateAndKey : List Cond := .code yX4_isStateAndKey cX4_isStateAndKey 3 (some .boolean) :: ([.fieldLink RX4 12 "StateEnds" "states" "LStateEnds$States;", .methodLink RX4 127 yX3_has, .instanceMethod yX3_has, .selects RX3 yX3_has yX3_has, .initialized RX3, .code yX3_has cX3_has 2 (some .boolean), .fieldLink RX3 27 "StateEnds$States" "made" "I"] ++ wsX40 ++ wsX30)
def wsX4_isMember : List Cond := .code yX4_isMember cX4_isMember 1 (some .boolean) :: ([])
def wsX4_isNumberFor : List Cond := .code yX4_isNumberFor cX4_isNumberFor 4 (some .boolean) :: ([.fieldLink RX4 12 "StateEnds" "states" "LStateEnds$States;", .methodLink RX4 95 yX4_isStateAndKey, .instanceMethod yX4_isStateAndKey, .selects RX4 yX4_isStateAndKey yX4_isStateAndKey, .initialized RX4, .code yX4_isStateAndKey cX4_isStateAndKey 3 (some .boolean), .methodLink RX4 127 yX3_has, .instanceMethod yX3_has, .selects RX3 yX3_has yX3_has, .initialized RX3, .code yX3_has cX3_has 2 (some .boolean), .fieldLink RX3 27 "StateEnds$States" "made" "I", .methodLink RX4 197 yX3_isList, .instanceMethod yX3_isList, .selects RX3 yX3_isList yX3_isList, .code yX3_isList cX3_isList 2 (some .boolean), .fieldLink RX3 9 "StateEnds$States" "forms" "[I", .methodLink RX4 200 yX4_isMember, .static yX4_isMember, .code yX4_isMember cX4_isMember 1 (some .boolean)] ++ wsX40 ++ wsX30)
def wsX4_slotOf : List Cond := .code yX4_slotOf cX4_slotOf 3 (some .int) :: ([])
def wsX4_leftOf : List Cond := .code yX4_leftOf cX4_leftOf 2 (some .int) :: ([.fieldLink RX4 19 "StateEnds" "places" "LStateEnds$Places;", .fieldLink RX4 187 "StateEnds$Places" "ends" "[I", .fieldLink RX4 12 "StateEnds" "states" "LStateEnds$States;", .methodLink RX4 184 yX1_stateAt, .instanceMethod yX1_stateAt, .selects RX1 yX1_stateAt yX1_stateAt, .initialized RX1, .code yX1_stateAt cX1_stateAt 2 (some .int), .fieldLink RX1 9 "StateEnds$Places" "slots" "[I", .methodLink RX4 206 yX3_timeOf, .instanceMethod yX3_timeOf, .selects RX3 yX3_timeOf yX3_timeOf, .initialized RX3, .code yX3_timeOf cX3_timeOf 2 (some .int), .fieldLink RX3 24 "StateEnds$States" "times" "[I", .fieldLink RX3 15 "StateEnds$States" "clocks" "[I"] ++ wsX40 ++ wsX10 ++ wsX30)
def wsX4_isShown : List Cond := .code yX4_isShown cX4_isShown 2 (some .boolean) :: ([.methodLink RX4 115 yX4_leftOf, .instanceMethod yX4_leftOf, .selects RX4 yX4_leftOf yX4_leftOf, .initialized RX4, .code yX4_leftOf cX4_leftOf 2 (some .int), .fieldLink RX4 19 "StateEnds" "places" "LStateEnds$Places;", .fieldLink RX4 187 "StateEnds$Places" "ends" "[I", .fieldLink RX4 12 "StateEnds" "states" "LStateEnds$States;", .methodLink RX4 184 yX1_stateAt, .instanceMethod yX1_stateAt, .selects RX1 yX1_stateAt yX1_stateAt, .initialized RX1, .code yX1_stateAt cX1_stateAt 2 (some .int), .fieldLink RX1 9 "StateEnds$Places" "slots" "[I", .methodLink RX4 206 yX3_timeOf, .instanceMethod yX3_timeOf, .selects RX3 yX3_timeOf yX3_timeOf, .initialized RX3, .code yX3_timeOf cX3_timeOf 2 (some .int), .fieldLink RX3 24 "StateEnds$States" "times" "[I", .fieldLink RX3 15 "StateEnds$States" "clocks" "[I"] ++ wsX40 ++ wsX10 ++ wsX30)
def wsX4_placeOf_r1 : List Cond := [Cond.fieldLink RX4 19 "StateEnds" "places" "LStateEnds$Places;", Cond.fieldLink RX4 142 "StateEnds$Places" "taken" "I", Cond.fieldLink RX4 145 "StateEnds$Places" "line" "[I", Cond.fieldLink RX4 148 "StateEnds$Places" "slots" "[I", Cond.methodLink RX4 71 yX4_isShown, Cond.instanceMethod yX4_isShown, Cond.selects RX4 yX4_isShown yX4_isShown, Cond.initialized RX4, Cond.code yX4_isShown cX4_isShown 2 (some .boolean), Cond.methodLink RX4 115 yX4_leftOf, Cond.instanceMethod yX4_leftOf, Cond.selects RX4 yX4_leftOf yX4_leftOf, Cond.code yX4_leftOf cX4_leftOf 2 (some .int), Cond.fieldLink RX4 187 "StateEnds$Places" "ends" "[I", Cond.fieldLink RX4 12 "StateEnds" "states" "LStateEnds$States;", Cond.methodLink RX4 184 yX1_stateAt, Cond.instanceMethod yX1_stateAt, Cond.selects RX1 yX1_stateAt yX1_stateAt, Cond.initialized RX1, Cond.code yX1_stateAt cX1_stateAt 2 (some .int), Cond.fieldLink RX1 9 "StateEnds$Places" "slots" "[I", Cond.methodLink RX4 206 yX3_timeOf, Cond.instanceMethod yX3_timeOf, Cond.selects RX3 yX3_timeOf yX3_timeOf]
def wsX4_placeOf_r2 : List Cond := [Cond.initialized RX3, Cond.code yX3_timeOf cX3_timeOf 2 (some .int), Cond.fieldLink RX3 24 "StateEnds$States" "times" "[I", Cond.fieldLink RX3 15 "StateEnds$States" "clocks" "[I"]
def wsX4_placeOf : List Cond := .code yX4_placeOf cX4_placeOf 7 (some .int) :: ((wsX4_placeOf_r1 ++ wsX4_placeOf_r2) ++ wsX40 ++ wsX10 ++ wsX30)
def wsX4_stamp : List Cond := .code yX4_stamp cX4_stamp 4 none :: ([.fieldLink RX4 12 "StateEnds" "states" "LStateEnds$States;", .fieldLink RX4 19 "StateEnds" "places" "LStateEnds$Places;", .fieldLink RX4 212 "StateEnds$Places" "stamps" "[I", .fieldLink RX4 187 "StateEnds$Places" "ends" "[I", .methodLink RX4 184 yX1_stateAt, .instanceMethod yX1_stateAt, .selects RX1 yX1_stateAt yX1_stateAt, .initialized RX1, .code yX1_stateAt cX1_stateAt 2 (some .int), .fieldLink RX1 9 "StateEnds$Places" "slots" "[I", .methodLink RX4 206 yX3_timeOf, .instanceMethod yX3_timeOf, .selects RX3 yX3_timeOf yX3_timeOf, .initialized RX3, .code yX3_timeOf cX3_timeOf 2 (some .int), .fieldLink RX3 24 "StateEnds$States" "times" "[I", .fieldLink RX3 15 "StateEnds$States" "clocks" "[I"] ++ wsX40 ++ wsX10 ++ wsX30)
def wsX4_write : List Cond := .code yX4_write cX4_write 3 none :: ([.fieldLink RX4 19 "StateEnds" "places" "LStateEnds$Places;", .fieldLink RX4 151 "StateEnds$Places" "numbers" "[I", .fieldLink RX4 12 "StateEnds" "states" "LStateEnds$States;", .fieldLink RX4 130 "StateEnds$States" "spans" "[I", .methodLink RX4 184 yX1_stateAt, .instanceMethod yX1_stateAt, .selects RX1 yX1_stateAt yX1_stateAt, .initialized RX1, .code yX1_stateAt cX1_stateAt 2 (some .int), .fieldLink RX1 9 "StateEnds$Places" "slots" "[I", .methodLink RX4 175 yX4_stamp, .instanceMethod yX4_stamp, .selects RX4 yX4_stamp yX4_stamp, .initialized RX4, .code yX4_stamp cX4_stamp 4 none, .fieldLink RX4 212 "StateEnds$Places" "stamps" "[I", .fieldLink RX4 187 "StateEnds$Places" "ends" "[I", .methodLink RX4 206 yX3_timeOf, .instanceMethod yX3_timeOf, .selects RX3 yX3_timeOf yX3_timeOf, .initialized RX3, .code yX3_timeOf cX3_timeOf 2 (some .int), .fieldLink RX3 24 "StateEnds$States" "times" "[I", .fieldLink RX3 15 "StateEnds$States" "clocks" "[I"] ++ wsX40 ++ wsX10 ++ wsX30)
def wsX4_bring_r1 : List Cond := [Cond.fieldLink RX4 19 "StateEnds" "places" "LStateEnds$Places;", Cond.methodLink RX4 209 yX1_leastFree, Cond.instanceMethod yX1_leastFree, Cond.selects RX1 yX1_leastFree yX1_leastFree, Cond.initialized RX1, Cond.code yX1_leastFree cX1_leastFree 2 (some .int), Cond.methodLink RX1 37 yX1_isTaken, Cond.instanceMethod yX1_isTaken, Cond.selects RX1 yX1_isTaken yX1_isTaken, Cond.code yX1_isTaken cX1_isTaken 2 (some .boolean), Cond.fieldLink RX1 9 "StateEnds$Places" "slots" "[I", Cond.methodLink RX4 168 yX1_take, Cond.instanceMethod yX1_take, Cond.selects RX1 yX1_take yX1_take, Cond.code yX1_take cX1_take 4 none, Cond.fieldLink RX1 27 "StateEnds$Places" "taken" "I", Cond.fieldLink RX1 24 "StateEnds$Places" "line" "[I", Cond.methodLink RX4 78 yX4_write, Cond.instanceMethod yX4_write, Cond.selects RX4 yX4_write yX4_write, Cond.initialized RX4, Cond.code yX4_write cX4_write 3 none, Cond.fieldLink RX4 151 "StateEnds$Places" "numbers" "[I", Cond.fieldLink RX4 12 "StateEnds" "states" "LStateEnds$States;"]
def wsX4_bring_r2 : List Cond := [Cond.fieldLink RX4 130 "StateEnds$States" "spans" "[I", Cond.methodLink RX4 184 yX1_stateAt, Cond.instanceMethod yX1_stateAt, Cond.selects RX1 yX1_stateAt yX1_stateAt, Cond.code yX1_stateAt cX1_stateAt 2 (some .int), Cond.methodLink RX4 175 yX4_stamp, Cond.instanceMethod yX4_stamp, Cond.selects RX4 yX4_stamp yX4_stamp, Cond.code yX4_stamp cX4_stamp 4 none, Cond.fieldLink RX4 212 "StateEnds$Places" "stamps" "[I", Cond.fieldLink RX4 187 "StateEnds$Places" "ends" "[I", Cond.methodLink RX4 206 yX3_timeOf, Cond.instanceMethod yX3_timeOf, Cond.selects RX3 yX3_timeOf yX3_timeOf, Cond.initialized RX3, Cond.code yX3_timeOf cX3_timeOf 2 (some .int), Cond.fieldLink RX3 24 "StateEnds$States" "times" "[I", Cond.fieldLink RX3 15 "StateEnds$States" "clocks" "[I"]
def wsX4_bring : List Cond := .code yX4_bring cX4_bring 4 (some .boolean) :: ((wsX4_bring_r1 ++ wsX4_bring_r2) ++ wsX40 ++ wsX10 ++ wsX30)
def wsX4_tell_r1 : List Cond := [Cond.fieldLink RX4 26 "StateEnds" "rows" "LStateEnds$Rows;", Cond.fieldLink RX4 220 "StateEnds$Rows" "cells" "[I", Cond.fieldLink RX4 19 "StateEnds" "places" "LStateEnds$Places;", Cond.fieldLink RX4 151 "StateEnds$Places" "numbers" "[I", Cond.fieldLink RX4 187 "StateEnds$Places" "ends" "[I", Cond.fieldLink RX4 12 "StateEnds" "states" "LStateEnds$States;", Cond.fieldLink RX4 119 "StateEnds$States" "times" "[I", Cond.methodLink RX4 218 yX2_begin, Cond.instanceMethod yX2_begin, Cond.selects RX2 yX2_begin yX2_begin, Cond.initialized RX2, Cond.code yX2_begin cX2_begin 1 (some .int), Cond.fieldLink RX2 19 "StateEnds$Rows" "kept" "I", Cond.fieldLink RX2 15 "StateEnds$Rows" "first" "I", Cond.fieldLink RX2 22 "StateEnds$Rows" "ever" "I", Cond.methodLink RX2 25 yX2_indexOf, Cond.instanceMethod yX2_indexOf, Cond.selects RX2 yX2_indexOf yX2_indexOf, Cond.code yX2_indexOf cX2_indexOf 2 (some .int), Cond.methodLink RX4 184 yX1_stateAt, Cond.instanceMethod yX1_stateAt, Cond.selects RX1 yX1_stateAt yX1_stateAt, Cond.initialized RX1, Cond.code yX1_stateAt cX1_stateAt 2 (some .int)]
def wsX4_tell_r2 : List Cond := [Cond.fieldLink RX1 9 "StateEnds$Places" "slots" "[I", Cond.methodLink RX4 203 yX1_keyAt, Cond.instanceMethod yX1_keyAt, Cond.selects RX1 yX1_keyAt yX1_keyAt, Cond.code yX1_keyAt cX1_keyAt 2 (some .int), Cond.methodLink RX4 223 yX1_memberAt, Cond.instanceMethod yX1_memberAt, Cond.selects RX1 yX1_memberAt yX1_memberAt, Cond.code yX1_memberAt cX1_memberAt 2 (some .int)]
def wsX4_tell : List Cond := .code yX4_tell cX4_tell 3 none :: ((wsX4_tell_r1 ++ wsX4_tell_r2) ++ wsX40 ++ wsX20 ++ wsX10 ++ wsX30)
def wsX4_put_r1 : List Cond := [Cond.methodLink RX4 55 yX4_isNumberFor, Cond.instanceMethod yX4_isNumberFor, Cond.selects RX4 yX4_isNumberFor yX4_isNumberFor, Cond.initialized RX4, Cond.code yX4_isNumberFor cX4_isNumberFor 4 (some .boolean), Cond.fieldLink RX4 12 "StateEnds" "states" "LStateEnds$States;", Cond.methodLink RX4 95 yX4_isStateAndKey, Cond.instanceMethod yX4_isStateAndKey, Cond.selects RX4 yX4_isStateAndKey yX4_isStateAndKey, Cond.code yX4_isStateAndKey cX4_isStateAndKey 3 (some .boolean), Cond.methodLink RX4 127 yX3_has, Cond.instanceMethod yX3_has, Cond.selects RX3 yX3_has yX3_has, Cond.initialized RX3, Cond.code yX3_has cX3_has 2 (some .boolean), Cond.fieldLink RX3 27 "StateEnds$States" "made" "I", Cond.methodLink RX4 197 yX3_isList, Cond.instanceMethod yX3_isList, Cond.selects RX3 yX3_isList yX3_isList, Cond.code yX3_isList cX3_isList 2 (some .boolean), Cond.fieldLink RX3 9 "StateEnds$States" "forms" "[I", Cond.methodLink RX4 200 yX4_isMember, Cond.static yX4_isMember, Cond.code yX4_isMember cX4_isMember 1 (some .boolean)]
def wsX4_put_r2 : List Cond := [Cond.methodLink RX4 59 yX4_slotOf, Cond.static yX4_slotOf, Cond.code yX4_slotOf cX4_slotOf 3 (some .int), Cond.methodLink RX4 63 yX4_placeOf, Cond.instanceMethod yX4_placeOf, Cond.selects RX4 yX4_placeOf yX4_placeOf, Cond.code yX4_placeOf cX4_placeOf 7 (some .int), Cond.fieldLink RX4 19 "StateEnds" "places" "LStateEnds$Places;", Cond.fieldLink RX4 142 "StateEnds$Places" "taken" "I", Cond.fieldLink RX4 145 "StateEnds$Places" "line" "[I", Cond.fieldLink RX4 148 "StateEnds$Places" "slots" "[I", Cond.methodLink RX4 71 yX4_isShown, Cond.instanceMethod yX4_isShown, Cond.selects RX4 yX4_isShown yX4_isShown, Cond.code yX4_isShown cX4_isShown 2 (some .boolean), Cond.methodLink RX4 115 yX4_leftOf, Cond.instanceMethod yX4_leftOf, Cond.selects RX4 yX4_leftOf yX4_leftOf, Cond.code yX4_leftOf cX4_leftOf 2 (some .int), Cond.fieldLink RX4 187 "StateEnds$Places" "ends" "[I", Cond.methodLink RX4 184 yX1_stateAt, Cond.instanceMethod yX1_stateAt, Cond.selects RX1 yX1_stateAt yX1_stateAt, Cond.initialized RX1]
def wsX4_put_r3 : List Cond := [Cond.code yX1_stateAt cX1_stateAt 2 (some .int), Cond.fieldLink RX1 9 "StateEnds$Places" "slots" "[I", Cond.methodLink RX4 206 yX3_timeOf, Cond.instanceMethod yX3_timeOf, Cond.selects RX3 yX3_timeOf yX3_timeOf, Cond.code yX3_timeOf cX3_timeOf 2 (some .int), Cond.fieldLink RX3 24 "StateEnds$States" "times" "[I", Cond.fieldLink RX3 15 "StateEnds$States" "clocks" "[I", Cond.methodLink RX4 67 yX4_bring, Cond.instanceMethod yX4_bring, Cond.selects RX4 yX4_bring yX4_bring, Cond.code yX4_bring cX4_bring 4 (some .boolean), Cond.methodLink RX4 209 yX1_leastFree, Cond.instanceMethod yX1_leastFree, Cond.selects RX1 yX1_leastFree yX1_leastFree, Cond.code yX1_leastFree cX1_leastFree 2 (some .int), Cond.methodLink RX1 37 yX1_isTaken, Cond.instanceMethod yX1_isTaken, Cond.selects RX1 yX1_isTaken yX1_isTaken, Cond.code yX1_isTaken cX1_isTaken 2 (some .boolean), Cond.methodLink RX4 168 yX1_take, Cond.instanceMethod yX1_take, Cond.selects RX1 yX1_take yX1_take, Cond.code yX1_take cX1_take 4 none]
def wsX4_put_r4 : List Cond := [Cond.fieldLink RX1 27 "StateEnds$Places" "taken" "I", Cond.fieldLink RX1 24 "StateEnds$Places" "line" "[I", Cond.methodLink RX4 78 yX4_write, Cond.instanceMethod yX4_write, Cond.selects RX4 yX4_write yX4_write, Cond.code yX4_write cX4_write 3 none, Cond.fieldLink RX4 151 "StateEnds$Places" "numbers" "[I", Cond.fieldLink RX4 130 "StateEnds$States" "spans" "[I", Cond.methodLink RX4 175 yX4_stamp, Cond.instanceMethod yX4_stamp, Cond.selects RX4 yX4_stamp yX4_stamp, Cond.code yX4_stamp cX4_stamp 4 none, Cond.fieldLink RX4 212 "StateEnds$Places" "stamps" "[I", Cond.methodLink RX4 74 yX4_tell, Cond.instanceMethod yX4_tell, Cond.selects RX4 yX4_tell yX4_tell, Cond.code yX4_tell cX4_tell 3 none, Cond.fieldLink RX4 26 "StateEnds" "rows" "LStateEnds$Rows;", Cond.fieldLink RX4 220 "StateEnds$Rows" "cells" "[I", Cond.fieldLink RX4 119 "StateEnds$States" "times" "[I", Cond.methodLink RX4 218 yX2_begin, Cond.instanceMethod yX2_begin, Cond.selects RX2 yX2_begin yX2_begin, Cond.initialized RX2]
def wsX4_put_r5 : List Cond := [Cond.code yX2_begin cX2_begin 1 (some .int), Cond.fieldLink RX2 19 "StateEnds$Rows" "kept" "I", Cond.fieldLink RX2 15 "StateEnds$Rows" "first" "I", Cond.fieldLink RX2 22 "StateEnds$Rows" "ever" "I", Cond.methodLink RX2 25 yX2_indexOf, Cond.instanceMethod yX2_indexOf, Cond.selects RX2 yX2_indexOf yX2_indexOf, Cond.code yX2_indexOf cX2_indexOf 2 (some .int), Cond.methodLink RX4 203 yX1_keyAt, Cond.instanceMethod yX1_keyAt, Cond.selects RX1 yX1_keyAt yX1_keyAt, Cond.code yX1_keyAt cX1_keyAt 2 (some .int), Cond.methodLink RX4 223 yX1_memberAt, Cond.instanceMethod yX1_memberAt, Cond.selects RX1 yX1_memberAt yX1_memberAt, Cond.code yX1_memberAt cX1_memberAt 2 (some .int)]
def wsX4_put : List Cond := .code yX4_put cX4_put 8 (some .int) :: ((wsX4_put_r1 ++ (wsX4_put_r2 ++ (wsX4_put_r3 ++ (wsX4_put_r4 ++ wsX4_put_r5)))) ++ wsX40 ++ wsX30 ++ wsX10 ++ wsX20)
def wsX4_read_r1 : List Cond := [Cond.constant RX4 114 (-99999999), Cond.fieldLink RX4 19 "StateEnds" "places" "LStateEnds$Places;", Cond.fieldLink RX4 12 "StateEnds" "states" "LStateEnds$States;", Cond.fieldLink RX4 130 "StateEnds$States" "spans" "[I", Cond.fieldLink RX4 151 "StateEnds$Places" "numbers" "[I", Cond.methodLink RX4 184 yX1_stateAt, Cond.instanceMethod yX1_stateAt, Cond.selects RX1 yX1_stateAt yX1_stateAt, Cond.initialized RX1, Cond.code yX1_stateAt cX1_stateAt 2 (some .int), Cond.fieldLink RX1 9 "StateEnds$Places" "slots" "[I", Cond.methodLink RX4 215 yX3_isStampedByReads, Cond.instanceMethod yX3_isStampedByReads, Cond.selects RX3 yX3_isStampedByReads yX3_isStampedByReads, Cond.initialized RX3, Cond.code yX3_isStampedByReads cX3_isStampedByReads 2 (some .boolean), Cond.fieldLink RX3 21 "StateEnds$States" "ways" "[I", Cond.methodLink RX4 175 yX4_stamp, Cond.instanceMethod yX4_stamp, Cond.selects RX4 yX4_stamp yX4_stamp, Cond.initialized RX4, Cond.code yX4_stamp cX4_stamp 4 none, Cond.fieldLink RX4 212 "StateEnds$Places" "stamps" "[I", Cond.fieldLink RX4 187 "StateEnds$Places" "ends" "[I"]
def wsX4_read_r2 : List Cond := [Cond.methodLink RX4 206 yX3_timeOf, Cond.instanceMethod yX3_timeOf, Cond.selects RX3 yX3_timeOf yX3_timeOf, Cond.code yX3_timeOf cX3_timeOf 2 (some .int), Cond.fieldLink RX3 24 "StateEnds$States" "times" "[I", Cond.fieldLink RX3 15 "StateEnds$States" "clocks" "[I"]
def wsX4_read : List Cond := .code yX4_read cX4_read 3 (some .int) :: ((wsX4_read_r1 ++ wsX4_read_r2) ++ wsX40 ++ wsX30 ++ wsX10)
def wsX4_get_r1 : List Cond := [Cond.methodLink RX4 55 yX4_isNumberFor, Cond.instanceMethod yX4_isNumberFor, Cond.selects RX4 yX4_isNumberFor yX4_isNumberFor, Cond.initialized RX4, Cond.code yX4_isNumberFor cX4_isNumberFor 4 (some .boolean), Cond.fieldLink RX4 12 "StateEnds" "states" "LStateEnds$States;", Cond.methodLink RX4 95 yX4_isStateAndKey, Cond.instanceMethod yX4_isStateAndKey, Cond.selects RX4 yX4_isStateAndKey yX4_isStateAndKey, Cond.code yX4_isStateAndKey cX4_isStateAndKey 3 (some .boolean), Cond.methodLink RX4 127 yX3_has, Cond.instanceMethod yX3_has, Cond.selects RX3 yX3_has yX3_has, Cond.initialized RX3, Cond.code yX3_has cX3_has 2 (some .boolean), Cond.fieldLink RX3 27 "StateEnds$States" "made" "I", Cond.methodLink RX4 197 yX3_isList, Cond.instanceMethod yX3_isList, Cond.selects RX3 yX3_isList yX3_isList, Cond.code yX3_isList cX3_isList 2 (some .boolean), Cond.fieldLink RX3 9 "StateEnds$States" "forms" "[I", Cond.methodLink RX4 200 yX4_isMember, Cond.static yX4_isMember, Cond.code yX4_isMember cX4_isMember 1 (some .boolean)]
def wsX4_get_r2 : List Cond := [Cond.methodLink RX4 59 yX4_slotOf, Cond.static yX4_slotOf, Cond.code yX4_slotOf cX4_slotOf 3 (some .int), Cond.methodLink RX4 63 yX4_placeOf, Cond.instanceMethod yX4_placeOf, Cond.selects RX4 yX4_placeOf yX4_placeOf, Cond.code yX4_placeOf cX4_placeOf 7 (some .int), Cond.fieldLink RX4 19 "StateEnds" "places" "LStateEnds$Places;", Cond.fieldLink RX4 142 "StateEnds$Places" "taken" "I", Cond.fieldLink RX4 145 "StateEnds$Places" "line" "[I", Cond.fieldLink RX4 148 "StateEnds$Places" "slots" "[I", Cond.methodLink RX4 71 yX4_isShown, Cond.instanceMethod yX4_isShown, Cond.selects RX4 yX4_isShown yX4_isShown, Cond.code yX4_isShown cX4_isShown 2 (some .boolean), Cond.methodLink RX4 115 yX4_leftOf, Cond.instanceMethod yX4_leftOf, Cond.selects RX4 yX4_leftOf yX4_leftOf, Cond.code yX4_leftOf cX4_leftOf 2 (some .int), Cond.fieldLink RX4 187 "StateEnds$Places" "ends" "[I", Cond.methodLink RX4 184 yX1_stateAt, Cond.instanceMethod yX1_stateAt, Cond.selects RX1 yX1_stateAt yX1_stateAt, Cond.initialized RX1]
def wsX4_get_r3 : List Cond := [Cond.code yX1_stateAt cX1_stateAt 2 (some .int), Cond.fieldLink RX1 9 "StateEnds$Places" "slots" "[I", Cond.methodLink RX4 206 yX3_timeOf, Cond.instanceMethod yX3_timeOf, Cond.selects RX3 yX3_timeOf yX3_timeOf, Cond.code yX3_timeOf cX3_timeOf 2 (some .int), Cond.fieldLink RX3 24 "StateEnds$States" "times" "[I", Cond.fieldLink RX3 15 "StateEnds$States" "clocks" "[I", Cond.methodLink RX4 82 yX4_read, Cond.instanceMethod yX4_read, Cond.selects RX4 yX4_read yX4_read, Cond.code yX4_read cX4_read 3 (some .int), Cond.constant RX4 114 (-99999999), Cond.fieldLink RX4 130 "StateEnds$States" "spans" "[I", Cond.fieldLink RX4 151 "StateEnds$Places" "numbers" "[I", Cond.methodLink RX4 215 yX3_isStampedByReads, Cond.instanceMethod yX3_isStampedByReads, Cond.selects RX3 yX3_isStampedByReads yX3_isStampedByReads, Cond.code yX3_isStampedByReads cX3_isStampedByReads 2 (some .boolean), Cond.fieldLink RX3 21 "StateEnds$States" "ways" "[I", Cond.methodLink RX4 175 yX4_stamp, Cond.instanceMethod yX4_stamp, Cond.selects RX4 yX4_stamp yX4_stamp, Cond.code yX4_stamp cX4_stamp 4 none]
def wsX4_get_r4 : List Cond := [Cond.fieldLink RX4 212 "StateEnds$Places" "stamps" "[I"]
def wsX4_get : List Cond := .code yX4_get cX4_get 4 (some .int) :: ((wsX4_get_r1 ++ (wsX4_get_r2 ++ (wsX4_get_r3 ++ wsX4_get_r4))) ++ wsX40 ++ wsX30 ++ wsX10)
def wsX4_remove_r1 : List Cond := [Cond.fieldLink RX4 19 "StateEnds" "places" "LStateEnds$Places;", Cond.methodLink RX4 55 yX4_isNumberFor, Cond.instanceMethod yX4_isNumberFor, Cond.selects RX4 yX4_isNumberFor yX4_isNumberFor, Cond.initialized RX4, Cond.code yX4_isNumberFor cX4_isNumberFor 4 (some .boolean), Cond.fieldLink RX4 12 "StateEnds" "states" "LStateEnds$States;", Cond.methodLink RX4 95 yX4_isStateAndKey, Cond.instanceMethod yX4_isStateAndKey, Cond.selects RX4 yX4_isStateAndKey yX4_isStateAndKey, Cond.code yX4_isStateAndKey cX4_isStateAndKey 3 (some .boolean), Cond.methodLink RX4 127 yX3_has, Cond.instanceMethod yX3_has, Cond.selects RX3 yX3_has yX3_has, Cond.initialized RX3, Cond.code yX3_has cX3_has 2 (some .boolean), Cond.fieldLink RX3 27 "StateEnds$States" "made" "I", Cond.methodLink RX4 197 yX3_isList, Cond.instanceMethod yX3_isList, Cond.selects RX3 yX3_isList yX3_isList, Cond.code yX3_isList cX3_isList 2 (some .boolean), Cond.fieldLink RX3 9 "StateEnds$States" "forms" "[I", Cond.methodLink RX4 200 yX4_isMember, Cond.static yX4_isMember]
def wsX4_remove_r2 : List Cond := [Cond.code yX4_isMember cX4_isMember 1 (some .boolean), Cond.methodLink RX4 59 yX4_slotOf, Cond.static yX4_slotOf, Cond.code yX4_slotOf cX4_slotOf 3 (some .int), Cond.methodLink RX4 63 yX4_placeOf, Cond.instanceMethod yX4_placeOf, Cond.selects RX4 yX4_placeOf yX4_placeOf, Cond.code yX4_placeOf cX4_placeOf 7 (some .int), Cond.fieldLink RX4 142 "StateEnds$Places" "taken" "I", Cond.fieldLink RX4 145 "StateEnds$Places" "line" "[I", Cond.fieldLink RX4 148 "StateEnds$Places" "slots" "[I", Cond.methodLink RX4 71 yX4_isShown, Cond.instanceMethod yX4_isShown, Cond.selects RX4 yX4_isShown yX4_isShown, Cond.code yX4_isShown cX4_isShown 2 (some .boolean), Cond.methodLink RX4 115 yX4_leftOf, Cond.instanceMethod yX4_leftOf, Cond.selects RX4 yX4_leftOf yX4_leftOf, Cond.code yX4_leftOf cX4_leftOf 2 (some .int), Cond.fieldLink RX4 187 "StateEnds$Places" "ends" "[I", Cond.methodLink RX4 184 yX1_stateAt, Cond.instanceMethod yX1_stateAt, Cond.selects RX1 yX1_stateAt yX1_stateAt, Cond.initialized RX1]
def wsX4_remove_r3 : List Cond := [Cond.code yX1_stateAt cX1_stateAt 2 (some .int), Cond.fieldLink RX1 9 "StateEnds$Places" "slots" "[I", Cond.methodLink RX4 206 yX3_timeOf, Cond.instanceMethod yX3_timeOf, Cond.selects RX3 yX3_timeOf yX3_timeOf, Cond.code yX3_timeOf cX3_timeOf 2 (some .int), Cond.fieldLink RX3 24 "StateEnds$States" "times" "[I", Cond.fieldLink RX3 15 "StateEnds$States" "clocks" "[I", Cond.methodLink RX4 86 yX1_vacate, Cond.instanceMethod yX1_vacate, Cond.selects RX1 yX1_vacate yX1_vacate, Cond.code yX1_vacate cX1_vacate 4 none, Cond.fieldLink RX1 27 "StateEnds$Places" "taken" "I", Cond.fieldLink RX1 24 "StateEnds$Places" "line" "[I"]
def wsX4_remove : List Cond := .code yX4_remove cX4_remove 6 (some .int) :: ((wsX4_remove_r1 ++ (wsX4_remove_r2 ++ wsX4_remove_r3)) ++ wsX40 ++ wsX30 ++ wsX10)
def wsX4_isListFor : List Cond := .code yX4_isListFor cX4_isListFor 3 (some .boolean) :: ([.fieldLink RX4 12 "StateEnds" "states" "LStateEnds$States;", .methodLink RX4 95 yX4_isStateAndKey, .instanceMethod yX4_isStateAndKey, .selects RX4 yX4_isStateAndKey yX4_isStateAndKey, .initialized RX4, .code yX4_isStateAndKey cX4_isStateAndKey 3 (some .boolean), .methodLink RX4 127 yX3_has, .instanceMethod yX3_has, .selects RX3 yX3_has yX3_has, .initialized RX3, .code yX3_has cX3_has 2 (some .boolean), .fieldLink RX3 27 "StateEnds$States" "made" "I", .methodLink RX4 197 yX3_isList, .instanceMethod yX3_isList, .selects RX3 yX3_isList yX3_isList, .code yX3_isList cX3_isList 2 (some .boolean), .fieldLink RX3 9 "StateEnds$States" "forms" "[I"] ++ wsX40 ++ wsX30)
def wsX4_isOfKey : List Cond := .code yX4_isOfKey cX4_isOfKey 4 (some .boolean) :: ([.fieldLink RX4 19 "StateEnds" "places" "LStateEnds$Places;", .methodLink RX4 184 yX1_stateAt, .instanceMethod yX1_stateAt, .selects RX1 yX1_stateAt yX1_stateAt, .initialized RX1, .code yX1_stateAt cX1_stateAt 2 (some .int), .fieldLink RX1 9 "StateEnds$Places" "slots" "[I", .methodLink RX4 203 yX1_keyAt, .instanceMethod yX1_keyAt, .selects RX1 yX1_keyAt yX1_keyAt, .code yX1_keyAt cX1_keyAt 2 (some .int)] ++ wsX40 ++ wsX10)
def wsX4_howMany_r1 : List Cond := [Cond.fieldLink RX4 19 "StateEnds" "places" "LStateEnds$Places;", Cond.fieldLink RX4 142 "StateEnds$Places" "taken" "I", Cond.fieldLink RX4 145 "StateEnds$Places" "line" "[I", Cond.methodLink RX4 101 yX4_isOfKey, Cond.instanceMethod yX4_isOfKey, Cond.selects RX4 yX4_isOfKey yX4_isOfKey, Cond.initialized RX4, Cond.code yX4_isOfKey cX4_isOfKey 4 (some .boolean), Cond.methodLink RX4 184 yX1_stateAt, Cond.instanceMethod yX1_stateAt, Cond.selects RX1 yX1_stateAt yX1_stateAt, Cond.initialized RX1, Cond.code yX1_stateAt cX1_stateAt 2 (some .int), Cond.fieldLink RX1 9 "StateEnds$Places" "slots" "[I", Cond.methodLink RX4 203 yX1_keyAt, Cond.instanceMethod yX1_keyAt, Cond.selects RX1 yX1_keyAt yX1_keyAt, Cond.code yX1_keyAt cX1_keyAt 2 (some .int), Cond.methodLink RX4 71 yX4_isShown, Cond.instanceMethod yX4_isShown, Cond.selects RX4 yX4_isShown yX4_isShown, Cond.code yX4_isShown cX4_isShown 2 (some .boolean), Cond.methodLink RX4 115 yX4_leftOf, Cond.instanceMethod yX4_leftOf]
def wsX4_howMany_r2 : List Cond := [Cond.selects RX4 yX4_leftOf yX4_leftOf, Cond.code yX4_leftOf cX4_leftOf 2 (some .int), Cond.fieldLink RX4 187 "StateEnds$Places" "ends" "[I", Cond.fieldLink RX4 12 "StateEnds" "states" "LStateEnds$States;", Cond.methodLink RX4 206 yX3_timeOf, Cond.instanceMethod yX3_timeOf, Cond.selects RX3 yX3_timeOf yX3_timeOf, Cond.initialized RX3, Cond.code yX3_timeOf cX3_timeOf 2 (some .int), Cond.fieldLink RX3 24 "StateEnds$States" "times" "[I", Cond.fieldLink RX3 15 "StateEnds$States" "clocks" "[I"]
def wsX4_howMany : List Cond := .code yX4_howMany cX4_howMany 7 (some .int) :: ((wsX4_howMany_r1 ++ wsX4_howMany_r2) ++ wsX40 ++ wsX10 ++ wsX30)
def wsX4_add_r1 : List Cond := [Cond.methodLink RX4 89 yX4_isListFor, Cond.instanceMethod yX4_isListFor, Cond.selects RX4 yX4_isListFor yX4_isListFor, Cond.initialized RX4, Cond.code yX4_isListFor cX4_isListFor 3 (some .boolean), Cond.fieldLink RX4 12 "StateEnds" "states" "LStateEnds$States;", Cond.methodLink RX4 95 yX4_isStateAndKey, Cond.instanceMethod yX4_isStateAndKey, Cond.selects RX4 yX4_isStateAndKey yX4_isStateAndKey, Cond.code yX4_isStateAndKey cX4_isStateAndKey 3 (some .boolean), Cond.methodLink RX4 127 yX3_has, Cond.instanceMethod yX3_has, Cond.selects RX3 yX3_has yX3_has, Cond.initialized RX3, Cond.code yX3_has cX3_has 2 (some .boolean), Cond.fieldLink RX3 27 "StateEnds$States" "made" "I", Cond.methodLink RX4 197 yX3_isList, Cond.instanceMethod yX3_isList, Cond.selects RX3 yX3_isList yX3_isList, Cond.code yX3_isList cX3_isList 2 (some .boolean), Cond.fieldLink RX3 9 "StateEnds$States" "forms" "[I", Cond.methodLink RX4 59 yX4_slotOf, Cond.static yX4_slotOf, Cond.code yX4_slotOf cX4_slotOf 3 (some .int)]
def wsX4_add_r2 : List Cond := [Cond.methodLink RX4 67 yX4_bring, Cond.instanceMethod yX4_bring, Cond.selects RX4 yX4_bring yX4_bring, Cond.code yX4_bring cX4_bring 4 (some .boolean), Cond.fieldLink RX4 19 "StateEnds" "places" "LStateEnds$Places;", Cond.methodLink RX4 209 yX1_leastFree, Cond.instanceMethod yX1_leastFree, Cond.selects RX1 yX1_leastFree yX1_leastFree, Cond.initialized RX1, Cond.code yX1_leastFree cX1_leastFree 2 (some .int), Cond.methodLink RX1 37 yX1_isTaken, Cond.instanceMethod yX1_isTaken, Cond.selects RX1 yX1_isTaken yX1_isTaken, Cond.code yX1_isTaken cX1_isTaken 2 (some .boolean), Cond.fieldLink RX1 9 "StateEnds$Places" "slots" "[I", Cond.methodLink RX4 168 yX1_take, Cond.instanceMethod yX1_take, Cond.selects RX1 yX1_take yX1_take, Cond.code yX1_take cX1_take 4 none, Cond.fieldLink RX1 27 "StateEnds$Places" "taken" "I", Cond.fieldLink RX1 24 "StateEnds$Places" "line" "[I", Cond.methodLink RX4 78 yX4_write, Cond.instanceMethod yX4_write, Cond.selects RX4 yX4_write yX4_write]
def wsX4_add_r3 : List Cond := [Cond.code yX4_write cX4_write 3 none, Cond.fieldLink RX4 151 "StateEnds$Places" "numbers" "[I", Cond.fieldLink RX4 130 "StateEnds$States" "spans" "[I", Cond.methodLink RX4 184 yX1_stateAt, Cond.instanceMethod yX1_stateAt, Cond.selects RX1 yX1_stateAt yX1_stateAt, Cond.code yX1_stateAt cX1_stateAt 2 (some .int), Cond.methodLink RX4 175 yX4_stamp, Cond.instanceMethod yX4_stamp, Cond.selects RX4 yX4_stamp yX4_stamp, Cond.code yX4_stamp cX4_stamp 4 none, Cond.fieldLink RX4 212 "StateEnds$Places" "stamps" "[I", Cond.fieldLink RX4 187 "StateEnds$Places" "ends" "[I", Cond.methodLink RX4 206 yX3_timeOf, Cond.instanceMethod yX3_timeOf, Cond.selects RX3 yX3_timeOf yX3_timeOf, Cond.code yX3_timeOf cX3_timeOf 2 (some .int), Cond.fieldLink RX3 24 "StateEnds$States" "times" "[I", Cond.fieldLink RX3 15 "StateEnds$States" "clocks" "[I", Cond.methodLink RX4 92 yX4_howMany, Cond.instanceMethod yX4_howMany, Cond.selects RX4 yX4_howMany yX4_howMany, Cond.code yX4_howMany cX4_howMany 7 (some .int), Cond.fieldLink RX4 142 "StateEnds$Places" "taken" "I"]
def wsX4_add_r4 : List Cond := [Cond.fieldLink RX4 145 "StateEnds$Places" "line" "[I", Cond.methodLink RX4 101 yX4_isOfKey, Cond.instanceMethod yX4_isOfKey, Cond.selects RX4 yX4_isOfKey yX4_isOfKey, Cond.code yX4_isOfKey cX4_isOfKey 4 (some .boolean), Cond.methodLink RX4 203 yX1_keyAt, Cond.instanceMethod yX1_keyAt, Cond.selects RX1 yX1_keyAt yX1_keyAt, Cond.code yX1_keyAt cX1_keyAt 2 (some .int), Cond.methodLink RX4 71 yX4_isShown, Cond.instanceMethod yX4_isShown, Cond.selects RX4 yX4_isShown yX4_isShown, Cond.code yX4_isShown cX4_isShown 2 (some .boolean), Cond.methodLink RX4 115 yX4_leftOf, Cond.instanceMethod yX4_leftOf, Cond.selects RX4 yX4_leftOf yX4_leftOf, Cond.code yX4_leftOf cX4_leftOf 2 (some .int)]
def wsX4_add : List Cond := .code yX4_add cX4_add 4 (some .int) :: ((wsX4_add_r1 ++ (wsX4_add_r2 ++ (wsX4_add_r3 ++ wsX4_add_r4))) ++ wsX40 ++ wsX30 ++ wsX10)
def wsX4_at_r1 : List Cond := [Cond.methodLink RX4 89 yX4_isListFor, Cond.instanceMethod yX4_isListFor, Cond.selects RX4 yX4_isListFor yX4_isListFor, Cond.initialized RX4, Cond.code yX4_isListFor cX4_isListFor 3 (some .boolean), Cond.fieldLink RX4 12 "StateEnds" "states" "LStateEnds$States;", Cond.methodLink RX4 95 yX4_isStateAndKey, Cond.instanceMethod yX4_isStateAndKey, Cond.selects RX4 yX4_isStateAndKey yX4_isStateAndKey, Cond.code yX4_isStateAndKey cX4_isStateAndKey 3 (some .boolean), Cond.methodLink RX4 127 yX3_has, Cond.instanceMethod yX3_has, Cond.selects RX3 yX3_has yX3_has, Cond.initialized RX3, Cond.code yX3_has cX3_has 2 (some .boolean), Cond.fieldLink RX3 27 "StateEnds$States" "made" "I", Cond.methodLink RX4 197 yX3_isList, Cond.instanceMethod yX3_isList, Cond.selects RX3 yX3_isList yX3_isList, Cond.code yX3_isList cX3_isList 2 (some .boolean), Cond.fieldLink RX3 9 "StateEnds$States" "forms" "[I", Cond.methodLink RX4 59 yX4_slotOf, Cond.static yX4_slotOf, Cond.code yX4_slotOf cX4_slotOf 3 (some .int)]
def wsX4_at_r2 : List Cond := [Cond.methodLink RX4 63 yX4_placeOf, Cond.instanceMethod yX4_placeOf, Cond.selects RX4 yX4_placeOf yX4_placeOf, Cond.code yX4_placeOf cX4_placeOf 7 (some .int), Cond.fieldLink RX4 19 "StateEnds" "places" "LStateEnds$Places;", Cond.fieldLink RX4 142 "StateEnds$Places" "taken" "I", Cond.fieldLink RX4 145 "StateEnds$Places" "line" "[I", Cond.fieldLink RX4 148 "StateEnds$Places" "slots" "[I", Cond.methodLink RX4 71 yX4_isShown, Cond.instanceMethod yX4_isShown, Cond.selects RX4 yX4_isShown yX4_isShown, Cond.code yX4_isShown cX4_isShown 2 (some .boolean), Cond.methodLink RX4 115 yX4_leftOf, Cond.instanceMethod yX4_leftOf, Cond.selects RX4 yX4_leftOf yX4_leftOf, Cond.code yX4_leftOf cX4_leftOf 2 (some .int), Cond.fieldLink RX4 187 "StateEnds$Places" "ends" "[I", Cond.methodLink RX4 184 yX1_stateAt, Cond.instanceMethod yX1_stateAt, Cond.selects RX1 yX1_stateAt yX1_stateAt, Cond.initialized RX1, Cond.code yX1_stateAt cX1_stateAt 2 (some .int), Cond.fieldLink RX1 9 "StateEnds$Places" "slots" "[I", Cond.methodLink RX4 206 yX3_timeOf]
def wsX4_at_r3 : List Cond := [Cond.instanceMethod yX3_timeOf, Cond.selects RX3 yX3_timeOf yX3_timeOf, Cond.code yX3_timeOf cX3_timeOf 2 (some .int), Cond.fieldLink RX3 24 "StateEnds$States" "times" "[I", Cond.fieldLink RX3 15 "StateEnds$States" "clocks" "[I", Cond.methodLink RX4 82 yX4_read, Cond.instanceMethod yX4_read, Cond.selects RX4 yX4_read yX4_read, Cond.code yX4_read cX4_read 3 (some .int), Cond.constant RX4 114 (-99999999), Cond.fieldLink RX4 130 "StateEnds$States" "spans" "[I", Cond.fieldLink RX4 151 "StateEnds$Places" "numbers" "[I", Cond.methodLink RX4 215 yX3_isStampedByReads, Cond.instanceMethod yX3_isStampedByReads, Cond.selects RX3 yX3_isStampedByReads yX3_isStampedByReads, Cond.code yX3_isStampedByReads cX3_isStampedByReads 2 (some .boolean), Cond.fieldLink RX3 21 "StateEnds$States" "ways" "[I", Cond.methodLink RX4 175 yX4_stamp, Cond.instanceMethod yX4_stamp, Cond.selects RX4 yX4_stamp yX4_stamp, Cond.code yX4_stamp cX4_stamp 4 none, Cond.fieldLink RX4 212 "StateEnds$Places" "stamps" "[I"]
def wsX4_at : List Cond := .code yX4_at cX4_at 4 (some .int) :: ((wsX4_at_r1 ++ (wsX4_at_r2 ++ wsX4_at_r3)) ++ wsX40 ++ wsX30 ++ wsX10)
def wsX4_clear_r1 : List Cond := [Cond.fieldLink RX4 19 "StateEnds" "places" "LStateEnds$Places;", Cond.methodLink RX4 95 yX4_isStateAndKey, Cond.instanceMethod yX4_isStateAndKey, Cond.selects RX4 yX4_isStateAndKey yX4_isStateAndKey, Cond.initialized RX4, Cond.code yX4_isStateAndKey cX4_isStateAndKey 3 (some .boolean), Cond.fieldLink RX4 12 "StateEnds" "states" "LStateEnds$States;", Cond.methodLink RX4 127 yX3_has, Cond.instanceMethod yX3_has, Cond.selects RX3 yX3_has yX3_has, Cond.initialized RX3, Cond.code yX3_has cX3_has 2 (some .boolean), Cond.fieldLink RX3 27 "StateEnds$States" "made" "I", Cond.methodLink RX4 92 yX4_howMany, Cond.instanceMethod yX4_howMany, Cond.selects RX4 yX4_howMany yX4_howMany, Cond.code yX4_howMany cX4_howMany 7 (some .int), Cond.fieldLink RX4 142 "StateEnds$Places" "taken" "I", Cond.fieldLink RX4 145 "StateEnds$Places" "line" "[I", Cond.methodLink RX4 101 yX4_isOfKey, Cond.instanceMethod yX4_isOfKey, Cond.selects RX4 yX4_isOfKey yX4_isOfKey, Cond.code yX4_isOfKey cX4_isOfKey 4 (some .boolean), Cond.methodLink RX4 184 yX1_stateAt]
def wsX4_clear_r2 : List Cond := [Cond.instanceMethod yX1_stateAt, Cond.selects RX1 yX1_stateAt yX1_stateAt, Cond.initialized RX1, Cond.code yX1_stateAt cX1_stateAt 2 (some .int), Cond.fieldLink RX1 9 "StateEnds$Places" "slots" "[I", Cond.methodLink RX4 203 yX1_keyAt, Cond.instanceMethod yX1_keyAt, Cond.selects RX1 yX1_keyAt yX1_keyAt, Cond.code yX1_keyAt cX1_keyAt 2 (some .int), Cond.methodLink RX4 71 yX4_isShown, Cond.instanceMethod yX4_isShown, Cond.selects RX4 yX4_isShown yX4_isShown, Cond.code yX4_isShown cX4_isShown 2 (some .boolean), Cond.methodLink RX4 115 yX4_leftOf, Cond.instanceMethod yX4_leftOf, Cond.selects RX4 yX4_leftOf yX4_leftOf, Cond.code yX4_leftOf cX4_leftOf 2 (some .int), Cond.fieldLink RX4 187 "StateEnds$Places" "ends" "[I", Cond.methodLink RX4 206 yX3_timeOf, Cond.instanceMethod yX3_timeOf, Cond.selects RX3 yX3_timeOf yX3_timeOf, Cond.code yX3_timeOf cX3_timeOf 2 (some .int), Cond.fieldLink RX3 24 "StateEnds$States" "times" "[I", Cond.fieldLink RX3 15 "StateEnds$States" "clocks" "[I"]
def wsX4_clear_r3 : List Cond := [Cond.methodLink RX4 98 yX1_isTaken, Cond.instanceMethod yX1_isTaken, Cond.selects RX1 yX1_isTaken yX1_isTaken, Cond.code yX1_isTaken cX1_isTaken 2 (some .boolean), Cond.methodLink RX4 86 yX1_vacate, Cond.instanceMethod yX1_vacate, Cond.selects RX1 yX1_vacate yX1_vacate, Cond.code yX1_vacate cX1_vacate 4 none, Cond.fieldLink RX1 27 "StateEnds$Places" "taken" "I", Cond.fieldLink RX1 24 "StateEnds$Places" "line" "[I"]
def wsX4_clear : List Cond := .code yX4_clear cX4_clear 5 (some .int) :: ((wsX4_clear_r1 ++ (wsX4_clear_r2 ++ wsX4_clear_r3)) ++ wsX40 ++ wsX30 ++ wsX10)
def wsX4_held_r1 : List Cond := [Cond.methodLink RX4 95 yX4_isStateAndKey, Cond.instanceMethod yX4_isStateAndKey, Cond.selects RX4 yX4_isStateAndKey yX4_isStateAndKey, Cond.initialized RX4, Cond.code yX4_isStateAndKey cX4_isStateAndKey 3 (some .boolean), Cond.fieldLink RX4 12 "StateEnds" "states" "LStateEnds$States;", Cond.methodLink RX4 127 yX3_has, Cond.instanceMethod yX3_has, Cond.selects RX3 yX3_has yX3_has, Cond.initialized RX3, Cond.code yX3_has cX3_has 2 (some .boolean), Cond.fieldLink RX3 27 "StateEnds$States" "made" "I", Cond.methodLink RX4 92 yX4_howMany, Cond.instanceMethod yX4_howMany, Cond.selects RX4 yX4_howMany yX4_howMany, Cond.code yX4_howMany cX4_howMany 7 (some .int), Cond.fieldLink RX4 19 "StateEnds" "places" "LStateEnds$Places;", Cond.fieldLink RX4 142 "StateEnds$Places" "taken" "I", Cond.fieldLink RX4 145 "StateEnds$Places" "line" "[I", Cond.methodLink RX4 101 yX4_isOfKey, Cond.instanceMethod yX4_isOfKey, Cond.selects RX4 yX4_isOfKey yX4_isOfKey, Cond.code yX4_isOfKey cX4_isOfKey 4 (some .boolean), Cond.methodLink RX4 184 yX1_stateAt]
def wsX4_held_r2 : List Cond := [Cond.instanceMethod yX1_stateAt, Cond.selects RX1 yX1_stateAt yX1_stateAt, Cond.initialized RX1, Cond.code yX1_stateAt cX1_stateAt 2 (some .int), Cond.fieldLink RX1 9 "StateEnds$Places" "slots" "[I", Cond.methodLink RX4 203 yX1_keyAt, Cond.instanceMethod yX1_keyAt, Cond.selects RX1 yX1_keyAt yX1_keyAt, Cond.code yX1_keyAt cX1_keyAt 2 (some .int), Cond.methodLink RX4 71 yX4_isShown, Cond.instanceMethod yX4_isShown, Cond.selects RX4 yX4_isShown yX4_isShown, Cond.code yX4_isShown cX4_isShown 2 (some .boolean), Cond.methodLink RX4 115 yX4_leftOf, Cond.instanceMethod yX4_leftOf, Cond.selects RX4 yX4_leftOf yX4_leftOf, Cond.code yX4_leftOf cX4_leftOf 2 (some .int), Cond.fieldLink RX4 187 "StateEnds$Places" "ends" "[I", Cond.methodLink RX4 206 yX3_timeOf, Cond.instanceMethod yX3_timeOf, Cond.selects RX3 yX3_timeOf yX3_timeOf, Cond.code yX3_timeOf cX3_timeOf 2 (some .int), Cond.fieldLink RX3 24 "StateEnds$States" "times" "[I", Cond.fieldLink RX3 15 "StateEnds$States" "clocks" "[I"]
def wsX4_held : List Cond := .code yX4_held cX4_held 4 (some .int) :: ((wsX4_held_r1 ++ wsX4_held_r2) ++ wsX40 ++ wsX30 ++ wsX10)
def wsX4_isMemberOrIndexFor : List Cond := .code yX4_isMemberOrIndexFor cX4_isMemberOrIndexFor 4 (some .boolean) :: ([.fieldLink RX4 12 "StateEnds" "states" "LStateEnds$States;", .methodLink RX4 95 yX4_isStateAndKey, .instanceMethod yX4_isStateAndKey, .selects RX4 yX4_isStateAndKey yX4_isStateAndKey, .initialized RX4, .code yX4_isStateAndKey cX4_isStateAndKey 3 (some .boolean), .methodLink RX4 127 yX3_has, .instanceMethod yX3_has, .selects RX3 yX3_has yX3_has, .initialized RX3, .code yX3_has cX3_has 2 (some .boolean), .fieldLink RX3 27 "StateEnds$States" "made" "I", .methodLink RX4 197 yX3_isList, .instanceMethod yX3_isList, .selects RX3 yX3_isList yX3_isList, .code yX3_isList cX3_isList 2 (some .boolean), .fieldLink RX3 9 "StateEnds$States" "forms" "[I", .methodLink RX4 200 yX4_isMember, .static yX4_isMember, .code yX4_isMember cX4_isMember 1 (some .boolean)] ++ wsX40 ++ wsX30)
def wsX4_slotFor : List Cond := .code yX4_slotFor cX4_slotFor 4 (some .int) :: ([.fieldLink RX4 12 "StateEnds" "states" "LStateEnds$States;", .methodLink RX4 197 yX3_isList, .instanceMethod yX3_isList, .selects RX3 yX3_isList yX3_isList, .initialized RX3, .code yX3_isList cX3_isList 2 (some .boolean), .fieldLink RX3 9 "StateEnds$States" "forms" "[I", .methodLink RX4 59 yX4_slotOf, .static yX4_slotOf, .initialized RX4, .code yX4_slotOf cX4_slotOf 3 (some .int)] ++ wsX40 ++ wsX30)
def wsX4_indexFor : List Cond := .code yX4_indexFor cX4_indexFor 3 (some .int) :: ([.fieldLink RX4 12 "StateEnds" "states" "LStateEnds$States;", .methodLink RX4 197 yX3_isList, .instanceMethod yX3_isList, .selects RX3 yX3_isList yX3_isList, .initialized RX3, .code yX3_isList cX3_isList 2 (some .boolean), .fieldLink RX3 9 "StateEnds$States" "forms" "[I"] ++ wsX40 ++ wsX30)
def wsX4_left_r1 : List Cond := [Cond.constant RX4 114 (-99999999), Cond.methodLink RX4 104 yX4_isMemberOrIndexFor, Cond.instanceMethod yX4_isMemberOrIndexFor, Cond.selects RX4 yX4_isMemberOrIndexFor yX4_isMemberOrIndexFor, Cond.initialized RX4, Cond.code yX4_isMemberOrIndexFor cX4_isMemberOrIndexFor 4 (some .boolean), Cond.fieldLink RX4 12 "StateEnds" "states" "LStateEnds$States;", Cond.methodLink RX4 95 yX4_isStateAndKey, Cond.instanceMethod yX4_isStateAndKey, Cond.selects RX4 yX4_isStateAndKey yX4_isStateAndKey, Cond.code yX4_isStateAndKey cX4_isStateAndKey 3 (some .boolean), Cond.methodLink RX4 127 yX3_has, Cond.instanceMethod yX3_has, Cond.selects RX3 yX3_has yX3_has, Cond.initialized RX3, Cond.code yX3_has cX3_has 2 (some .boolean), Cond.fieldLink RX3 27 "StateEnds$States" "made" "I", Cond.methodLink RX4 197 yX3_isList, Cond.instanceMethod yX3_isList, Cond.selects RX3 yX3_isList yX3_isList, Cond.code yX3_isList cX3_isList 2 (some .boolean), Cond.fieldLink RX3 9 "StateEnds$States" "forms" "[I", Cond.methodLink RX4 200 yX4_isMember, Cond.static yX4_isMember]
def wsX4_left_r2 : List Cond := [Cond.code yX4_isMember cX4_isMember 1 (some .boolean), Cond.methodLink RX4 107 yX4_slotFor, Cond.instanceMethod yX4_slotFor, Cond.selects RX4 yX4_slotFor yX4_slotFor, Cond.code yX4_slotFor cX4_slotFor 4 (some .int), Cond.methodLink RX4 59 yX4_slotOf, Cond.static yX4_slotOf, Cond.code yX4_slotOf cX4_slotOf 3 (some .int), Cond.methodLink RX4 110 yX4_indexFor, Cond.instanceMethod yX4_indexFor, Cond.selects RX4 yX4_indexFor yX4_indexFor, Cond.code yX4_indexFor cX4_indexFor 3 (some .int), Cond.methodLink RX4 63 yX4_placeOf, Cond.instanceMethod yX4_placeOf, Cond.selects RX4 yX4_placeOf yX4_placeOf, Cond.code yX4_placeOf cX4_placeOf 7 (some .int), Cond.fieldLink RX4 19 "StateEnds" "places" "LStateEnds$Places;", Cond.fieldLink RX4 142 "StateEnds$Places" "taken" "I", Cond.fieldLink RX4 145 "StateEnds$Places" "line" "[I", Cond.fieldLink RX4 148 "StateEnds$Places" "slots" "[I", Cond.methodLink RX4 71 yX4_isShown, Cond.instanceMethod yX4_isShown, Cond.selects RX4 yX4_isShown yX4_isShown, Cond.code yX4_isShown cX4_isShown 2 (some .boolean)]
def wsX4_left_r3 : List Cond := [Cond.methodLink RX4 115 yX4_leftOf, Cond.instanceMethod yX4_leftOf, Cond.selects RX4 yX4_leftOf yX4_leftOf, Cond.code yX4_leftOf cX4_leftOf 2 (some .int), Cond.fieldLink RX4 187 "StateEnds$Places" "ends" "[I", Cond.methodLink RX4 184 yX1_stateAt, Cond.instanceMethod yX1_stateAt, Cond.selects RX1 yX1_stateAt yX1_stateAt, Cond.initialized RX1, Cond.code yX1_stateAt cX1_stateAt 2 (some .int), Cond.fieldLink RX1 9 "StateEnds$Places" "slots" "[I", Cond.methodLink RX4 206 yX3_timeOf, Cond.instanceMethod yX3_timeOf, Cond.selects RX3 yX3_timeOf yX3_timeOf, Cond.code yX3_timeOf cX3_timeOf 2 (some .int), Cond.fieldLink RX3 24 "StateEnds$States" "times" "[I", Cond.fieldLink RX3 15 "StateEnds$States" "clocks" "[I"]
def wsX4_left : List Cond := .code yX4_left cX4_left 5 (some .int) :: ((wsX4_left_r1 ++ (wsX4_left_r2 ++ wsX4_left_r3)) ++ wsX40 ++ wsX30 ++ wsX10)
def wsX4_howManyShown_r1 : List Cond := [Cond.fieldLink RX4 19 "StateEnds" "places" "LStateEnds$Places;", Cond.fieldLink RX4 142 "StateEnds$Places" "taken" "I", Cond.fieldLink RX4 145 "StateEnds$Places" "line" "[I", Cond.methodLink RX4 71 yX4_isShown, Cond.instanceMethod yX4_isShown, Cond.selects RX4 yX4_isShown yX4_isShown, Cond.initialized RX4, Cond.code yX4_isShown cX4_isShown 2 (some .boolean), Cond.methodLink RX4 115 yX4_leftOf, Cond.instanceMethod yX4_leftOf, Cond.selects RX4 yX4_leftOf yX4_leftOf, Cond.code yX4_leftOf cX4_leftOf 2 (some .int), Cond.fieldLink RX4 187 "StateEnds$Places" "ends" "[I", Cond.fieldLink RX4 12 "StateEnds" "states" "LStateEnds$States;", Cond.methodLink RX4 184 yX1_stateAt, Cond.instanceMethod yX1_stateAt, Cond.selects RX1 yX1_stateAt yX1_stateAt, Cond.initialized RX1, Cond.code yX1_stateAt cX1_stateAt 2 (some .int), Cond.fieldLink RX1 9 "StateEnds$Places" "slots" "[I", Cond.methodLink RX4 206 yX3_timeOf, Cond.instanceMethod yX3_timeOf, Cond.selects RX3 yX3_timeOf yX3_timeOf, Cond.initialized RX3]
def wsX4_howManyShown_r2 : List Cond := [Cond.code yX3_timeOf cX3_timeOf 2 (some .int), Cond.fieldLink RX3 24 "StateEnds$States" "times" "[I", Cond.fieldLink RX3 15 "StateEnds$States" "clocks" "[I"]
def wsX4_howManyShown : List Cond := .code yX4_howManyShown cX4_howManyShown 3 (some .int) :: ((wsX4_howManyShown_r1 ++ wsX4_howManyShown_r2) ++ wsX40 ++ wsX10 ++ wsX30)
def wsX4_moveClock_r1 : List Cond := [Cond.fieldLink RX4 12 "StateEnds" "states" "LStateEnds$States;", Cond.fieldLink RX4 119 "StateEnds$States" "times" "[I", Cond.methodLink RX4 190 yX4_howManyShown, Cond.instanceMethod yX4_howManyShown, Cond.selects RX4 yX4_howManyShown yX4_howManyShown, Cond.initialized RX4, Cond.code yX4_howManyShown cX4_howManyShown 3 (some .int), Cond.fieldLink RX4 19 "StateEnds" "places" "LStateEnds$Places;", Cond.fieldLink RX4 142 "StateEnds$Places" "taken" "I", Cond.fieldLink RX4 145 "StateEnds$Places" "line" "[I", Cond.methodLink RX4 71 yX4_isShown, Cond.instanceMethod yX4_isShown, Cond.selects RX4 yX4_isShown yX4_isShown, Cond.code yX4_isShown cX4_isShown 2 (some .boolean), Cond.methodLink RX4 115 yX4_leftOf, Cond.instanceMethod yX4_leftOf, Cond.selects RX4 yX4_leftOf yX4_leftOf, Cond.code yX4_leftOf cX4_leftOf 2 (some .int), Cond.fieldLink RX4 187 "StateEnds$Places" "ends" "[I", Cond.methodLink RX4 184 yX1_stateAt, Cond.instanceMethod yX1_stateAt, Cond.selects RX1 yX1_stateAt yX1_stateAt, Cond.initialized RX1, Cond.code yX1_stateAt cX1_stateAt 2 (some .int)]
def wsX4_moveClock_r2 : List Cond := [Cond.fieldLink RX1 9 "StateEnds$Places" "slots" "[I", Cond.methodLink RX4 206 yX3_timeOf, Cond.instanceMethod yX3_timeOf, Cond.selects RX3 yX3_timeOf yX3_timeOf, Cond.initialized RX3, Cond.code yX3_timeOf cX3_timeOf 2 (some .int), Cond.fieldLink RX3 24 "StateEnds$States" "times" "[I", Cond.fieldLink RX3 15 "StateEnds$States" "clocks" "[I"]
def wsX4_moveClock : List Cond := .code yX4_moveClock cX4_moveClock 4 (some .int) :: ((wsX4_moveClock_r1 ++ wsX4_moveClock_r2) ++ wsX40 ++ wsX30 ++ wsX10)
def wsX4_tick_r1 : List Cond := [Cond.constant RX4 118 (100000), Cond.fieldLink RX4 12 "StateEnds" "states" "LStateEnds$States;", Cond.fieldLink RX4 119 "StateEnds$States" "times" "[I", Cond.constant RX4 123 (1000000000), Cond.methodLink RX4 124 yX4_moveClock, Cond.instanceMethod yX4_moveClock, Cond.selects RX4 yX4_moveClock yX4_moveClock, Cond.initialized RX4, Cond.code yX4_moveClock cX4_moveClock 4 (some .int), Cond.methodLink RX4 190 yX4_howManyShown, Cond.instanceMethod yX4_howManyShown, Cond.selects RX4 yX4_howManyShown yX4_howManyShown, Cond.code yX4_howManyShown cX4_howManyShown 3 (some .int), Cond.fieldLink RX4 19 "StateEnds" "places" "LStateEnds$Places;", Cond.fieldLink RX4 142 "StateEnds$Places" "taken" "I", Cond.fieldLink RX4 145 "StateEnds$Places" "line" "[I", Cond.methodLink RX4 71 yX4_isShown, Cond.instanceMethod yX4_isShown, Cond.selects RX4 yX4_isShown yX4_isShown, Cond.code yX4_isShown cX4_isShown 2 (some .boolean), Cond.methodLink RX4 115 yX4_leftOf, Cond.instanceMethod yX4_leftOf, Cond.selects RX4 yX4_leftOf yX4_leftOf, Cond.code yX4_leftOf cX4_leftOf 2 (some .int)]
def wsX4_tick_r2 : List Cond := [Cond.fieldLink RX4 187 "StateEnds$Places" "ends" "[I", Cond.methodLink RX4 184 yX1_stateAt, Cond.instanceMethod yX1_stateAt, Cond.selects RX1 yX1_stateAt yX1_stateAt, Cond.initialized RX1, Cond.code yX1_stateAt cX1_stateAt 2 (some .int), Cond.fieldLink RX1 9 "StateEnds$Places" "slots" "[I", Cond.methodLink RX4 206 yX3_timeOf, Cond.instanceMethod yX3_timeOf, Cond.selects RX3 yX3_timeOf yX3_timeOf, Cond.initialized RX3, Cond.code yX3_timeOf cX3_timeOf 2 (some .int), Cond.fieldLink RX3 24 "StateEnds$States" "times" "[I", Cond.fieldLink RX3 15 "StateEnds$States" "clocks" "[I"]
def wsX4_tick : List Cond := .code yX4_tick cX4_tick 3 (some .int) :: ((wsX4_tick_r1 ++ wsX4_tick_r2) ++ wsX40 ++ wsX30 ++ wsX10)
def wsX4_watermark_r1 : List Cond := [Cond.constant RX4 123 (1000000000), Cond.fieldLink RX4 12 "StateEnds" "states" "LStateEnds$States;", Cond.fieldLink RX4 119 "StateEnds$States" "times" "[I", Cond.methodLink RX4 124 yX4_moveClock, Cond.instanceMethod yX4_moveClock, Cond.selects RX4 yX4_moveClock yX4_moveClock, Cond.initialized RX4, Cond.code yX4_moveClock cX4_moveClock 4 (some .int), Cond.methodLink RX4 190 yX4_howManyShown, Cond.instanceMethod yX4_howManyShown, Cond.selects RX4 yX4_howManyShown yX4_howManyShown, Cond.code yX4_howManyShown cX4_howManyShown 3 (some .int), Cond.fieldLink RX4 19 "StateEnds" "places" "LStateEnds$Places;", Cond.fieldLink RX4 142 "StateEnds$Places" "taken" "I", Cond.fieldLink RX4 145 "StateEnds$Places" "line" "[I", Cond.methodLink RX4 71 yX4_isShown, Cond.instanceMethod yX4_isShown, Cond.selects RX4 yX4_isShown yX4_isShown, Cond.code yX4_isShown cX4_isShown 2 (some .boolean), Cond.methodLink RX4 115 yX4_leftOf, Cond.instanceMethod yX4_leftOf, Cond.selects RX4 yX4_leftOf yX4_leftOf, Cond.code yX4_leftOf cX4_leftOf 2 (some .int), Cond.fieldLink RX4 187 "StateEnds$Places" "ends" "[I"]
def wsX4_watermark_r2 : List Cond := [Cond.methodLink RX4 184 yX1_stateAt, Cond.instanceMethod yX1_stateAt, Cond.selects RX1 yX1_stateAt yX1_stateAt, Cond.initialized RX1, Cond.code yX1_stateAt cX1_stateAt 2 (some .int), Cond.fieldLink RX1 9 "StateEnds$Places" "slots" "[I", Cond.methodLink RX4 206 yX3_timeOf, Cond.instanceMethod yX3_timeOf, Cond.selects RX3 yX3_timeOf yX3_timeOf, Cond.initialized RX3, Cond.code yX3_timeOf cX3_timeOf 2 (some .int), Cond.fieldLink RX3 24 "StateEnds$States" "times" "[I", Cond.fieldLink RX3 15 "StateEnds$States" "clocks" "[I"]
def wsX4_watermark : List Cond := .code yX4_watermark cX4_watermark 2 (some .int) :: ((wsX4_watermark_r1 ++ wsX4_watermark_r2) ++ wsX40 ++ wsX30 ++ wsX10)
def wsX4_sweep_r1 : List Cond := [Cond.fieldLink RX4 19 "StateEnds" "places" "LStateEnds$Places;", Cond.fieldLink RX4 37 "StateEnds" "sweepFrom" "I", Cond.methodLink RX4 98 yX1_isTaken, Cond.instanceMethod yX1_isTaken, Cond.selects RX1 yX1_isTaken yX1_isTaken, Cond.initialized RX1, Cond.code yX1_isTaken cX1_isTaken 2 (some .boolean), Cond.fieldLink RX1 9 "StateEnds$Places" "slots" "[I", Cond.methodLink RX4 71 yX4_isShown, Cond.instanceMethod yX4_isShown, Cond.selects RX4 yX4_isShown yX4_isShown, Cond.initialized RX4, Cond.code yX4_isShown cX4_isShown 2 (some .boolean), Cond.methodLink RX4 115 yX4_leftOf, Cond.instanceMethod yX4_leftOf, Cond.selects RX4 yX4_leftOf yX4_leftOf, Cond.code yX4_leftOf cX4_leftOf 2 (some .int), Cond.fieldLink RX4 187 "StateEnds$Places" "ends" "[I", Cond.fieldLink RX4 12 "StateEnds" "states" "LStateEnds$States;", Cond.methodLink RX4 184 yX1_stateAt, Cond.instanceMethod yX1_stateAt, Cond.selects RX1 yX1_stateAt yX1_stateAt, Cond.code yX1_stateAt cX1_stateAt 2 (some .int), Cond.methodLink RX4 206 yX3_timeOf]
def wsX4_sweep_r2 : List Cond := [Cond.instanceMethod yX3_timeOf, Cond.selects RX3 yX3_timeOf yX3_timeOf, Cond.initialized RX3, Cond.code yX3_timeOf cX3_timeOf 2 (some .int), Cond.fieldLink RX3 24 "StateEnds$States" "times" "[I", Cond.fieldLink RX3 15 "StateEnds$States" "clocks" "[I", Cond.methodLink RX4 74 yX4_tell, Cond.instanceMethod yX4_tell, Cond.selects RX4 yX4_tell yX4_tell, Cond.code yX4_tell cX4_tell 3 none, Cond.fieldLink RX4 26 "StateEnds" "rows" "LStateEnds$Rows;", Cond.fieldLink RX4 220 "StateEnds$Rows" "cells" "[I", Cond.fieldLink RX4 151 "StateEnds$Places" "numbers" "[I", Cond.fieldLink RX4 119 "StateEnds$States" "times" "[I", Cond.methodLink RX4 218 yX2_begin, Cond.instanceMethod yX2_begin, Cond.selects RX2 yX2_begin yX2_begin, Cond.initialized RX2, Cond.code yX2_begin cX2_begin 1 (some .int), Cond.fieldLink RX2 19 "StateEnds$Rows" "kept" "I", Cond.fieldLink RX2 15 "StateEnds$Rows" "first" "I", Cond.fieldLink RX2 22 "StateEnds$Rows" "ever" "I", Cond.methodLink RX2 25 yX2_indexOf, Cond.instanceMethod yX2_indexOf]
def wsX4_sweep_r3 : List Cond := [Cond.selects RX2 yX2_indexOf yX2_indexOf, Cond.code yX2_indexOf cX2_indexOf 2 (some .int), Cond.methodLink RX4 203 yX1_keyAt, Cond.instanceMethod yX1_keyAt, Cond.selects RX1 yX1_keyAt yX1_keyAt, Cond.code yX1_keyAt cX1_keyAt 2 (some .int), Cond.methodLink RX4 223 yX1_memberAt, Cond.instanceMethod yX1_memberAt, Cond.selects RX1 yX1_memberAt yX1_memberAt, Cond.code yX1_memberAt cX1_memberAt 2 (some .int), Cond.methodLink RX4 86 yX1_vacate, Cond.instanceMethod yX1_vacate, Cond.selects RX1 yX1_vacate yX1_vacate, Cond.code yX1_vacate cX1_vacate 4 none, Cond.fieldLink RX1 27 "StateEnds$Places" "taken" "I", Cond.fieldLink RX1 24 "StateEnds$Places" "line" "[I"]
def wsX4_sweep : List Cond := .code yX4_sweep cX4_sweep 4 (some .int) :: ((wsX4_sweep_r1 ++ (wsX4_sweep_r2 ++ wsX4_sweep_r3)) ++ wsX40 ++ wsX10 ++ wsX30 ++ wsX20)
def wsX4_spanShownAnew_r1 : List Cond := [Cond.fieldLink RX4 19 "StateEnds" "places" "LStateEnds$Places;", Cond.fieldLink RX4 142 "StateEnds$Places" "taken" "I", Cond.fieldLink RX4 145 "StateEnds$Places" "line" "[I", Cond.fieldLink RX4 187 "StateEnds$Places" "ends" "[I", Cond.fieldLink RX4 212 "StateEnds$Places" "stamps" "[I", Cond.fieldLink RX4 12 "StateEnds" "states" "LStateEnds$States;", Cond.fieldLink RX4 130 "StateEnds$States" "spans" "[I", Cond.methodLink RX4 184 yX1_stateAt, Cond.instanceMethod yX1_stateAt, Cond.selects RX1 yX1_stateAt yX1_stateAt, Cond.initialized RX1, Cond.code yX1_stateAt cX1_stateAt 2 (some .int), Cond.fieldLink RX1 9 "StateEnds$Places" "slots" "[I", Cond.methodLink RX4 71 yX4_isShown, Cond.instanceMethod yX4_isShown, Cond.selects RX4 yX4_isShown yX4_isShown, Cond.initialized RX4, Cond.code yX4_isShown cX4_isShown 2 (some .boolean), Cond.methodLink RX4 115 yX4_leftOf, Cond.instanceMethod yX4_leftOf, Cond.selects RX4 yX4_leftOf yX4_leftOf, Cond.code yX4_leftOf cX4_leftOf 2 (some .int), Cond.methodLink RX4 206 yX3_timeOf, Cond.instanceMethod yX3_timeOf]
def wsX4_spanShownAnew_r2 : List Cond := [Cond.selects RX3 yX3_timeOf yX3_timeOf, Cond.initialized RX3, Cond.code yX3_timeOf cX3_timeOf 2 (some .int), Cond.fieldLink RX3 24 "StateEnds$States" "times" "[I", Cond.fieldLink RX3 15 "StateEnds$States" "clocks" "[I"]
def wsX4_spanShownAnew : List Cond := .code yX4_spanShownAnew cX4_spanShownAnew 4 none :: ((wsX4_spanShownAnew_r1 ++ wsX4_spanShownAnew_r2) ++ wsX40 ++ wsX10 ++ wsX30)
def wsX4_setting_r1 : List Cond := [Cond.fieldLink RX4 12 "StateEnds" "states" "LStateEnds$States;", Cond.fieldLink RX4 130 "StateEnds$States" "spans" "[I", Cond.methodLink RX4 127 yX3_has, Cond.instanceMethod yX3_has, Cond.selects RX3 yX3_has yX3_has, Cond.initialized RX3, Cond.code yX3_has cX3_has 2 (some .boolean), Cond.fieldLink RX3 27 "StateEnds$States" "made" "I", Cond.methodLink RX4 45 yX4_isSpan, Cond.static yX4_isSpan, Cond.initialized RX4, Cond.code yX4_isSpan cX4_isSpan 1 (some .boolean), Cond.constant RX4 118 (100000), Cond.methodLink RX4 133 yX4_spanShownAnew, Cond.instanceMethod yX4_spanShownAnew, Cond.selects RX4 yX4_spanShownAnew yX4_spanShownAnew, Cond.code yX4_spanShownAnew cX4_spanShownAnew 4 none, Cond.fieldLink RX4 19 "StateEnds" "places" "LStateEnds$Places;", Cond.fieldLink RX4 142 "StateEnds$Places" "taken" "I", Cond.fieldLink RX4 145 "StateEnds$Places" "line" "[I", Cond.fieldLink RX4 187 "StateEnds$Places" "ends" "[I", Cond.fieldLink RX4 212 "StateEnds$Places" "stamps" "[I", Cond.methodLink RX4 184 yX1_stateAt, Cond.instanceMethod yX1_stateAt]
def wsX4_setting_r2 : List Cond := [Cond.selects RX1 yX1_stateAt yX1_stateAt, Cond.initialized RX1, Cond.code yX1_stateAt cX1_stateAt 2 (some .int), Cond.fieldLink RX1 9 "StateEnds$Places" "slots" "[I", Cond.methodLink RX4 71 yX4_isShown, Cond.instanceMethod yX4_isShown, Cond.selects RX4 yX4_isShown yX4_isShown, Cond.code yX4_isShown cX4_isShown 2 (some .boolean), Cond.methodLink RX4 115 yX4_leftOf, Cond.instanceMethod yX4_leftOf, Cond.selects RX4 yX4_leftOf yX4_leftOf, Cond.code yX4_leftOf cX4_leftOf 2 (some .int), Cond.methodLink RX4 206 yX3_timeOf, Cond.instanceMethod yX3_timeOf, Cond.selects RX3 yX3_timeOf yX3_timeOf, Cond.code yX3_timeOf cX3_timeOf 2 (some .int), Cond.fieldLink RX3 24 "StateEnds$States" "times" "[I", Cond.fieldLink RX3 15 "StateEnds$States" "clocks" "[I"]
def wsX4_setting : List Cond := .code yX4_setting cX4_setting 5 (some .int) :: ((wsX4_setting_r1 ++ wsX4_setting_r2) ++ wsX40 ++ wsX30 ++ wsX10)
def wsX4_isMark : List Cond := .code yX4_isMark cX4_isMark 1 (some .boolean) :: ([])
def wsX4_mark_r1 : List Cond := [Cond.fieldLink RX4 33 "StateEnds" "marks" "LStateEnds$Marks;", Cond.fieldLink RX4 19 "StateEnds" "places" "LStateEnds$Places;", Cond.fieldLink RX4 142 "StateEnds$Places" "taken" "I", Cond.fieldLink RX4 145 "StateEnds$Places" "line" "[I", Cond.fieldLink RX4 148 "StateEnds$Places" "slots" "[I", Cond.fieldLink RX4 151 "StateEnds$Places" "numbers" "[I", Cond.fieldLink RX4 158 "StateEnds$Marks" "sizes" "[I", Cond.methodLink RX4 136 yX4_isMark, Cond.static yX4_isMark, Cond.initialized RX4, Cond.code yX4_isMark cX4_isMark 1 (some .boolean), Cond.methodLink RX4 139 yX0_begin, Cond.instanceMethod yX0_begin, Cond.selects RX0 yX0_begin yX0_begin, Cond.initialized RX0, Cond.code yX0_begin cX0_begin 2 none, Cond.fieldLink RX0 21 "StateEnds$Marks" "sizes" "[I", Cond.methodLink RX4 71 yX4_isShown, Cond.instanceMethod yX4_isShown, Cond.selects RX4 yX4_isShown yX4_isShown, Cond.code yX4_isShown cX4_isShown 2 (some .boolean), Cond.methodLink RX4 115 yX4_leftOf, Cond.instanceMethod yX4_leftOf, Cond.selects RX4 yX4_leftOf yX4_leftOf]
def wsX4_mark_r2 : List Cond := [Cond.code yX4_leftOf cX4_leftOf 2 (some .int), Cond.fieldLink RX4 187 "StateEnds$Places" "ends" "[I", Cond.fieldLink RX4 12 "StateEnds" "states" "LStateEnds$States;", Cond.methodLink RX4 184 yX1_stateAt, Cond.instanceMethod yX1_stateAt, Cond.selects RX1 yX1_stateAt yX1_stateAt, Cond.initialized RX1, Cond.code yX1_stateAt cX1_stateAt 2 (some .int), Cond.fieldLink RX1 9 "StateEnds$Places" "slots" "[I", Cond.methodLink RX4 206 yX3_timeOf, Cond.instanceMethod yX3_timeOf, Cond.selects RX3 yX3_timeOf yX3_timeOf, Cond.initialized RX3, Cond.code yX3_timeOf cX3_timeOf 2 (some .int), Cond.fieldLink RX3 24 "StateEnds$States" "times" "[I", Cond.fieldLink RX3 15 "StateEnds$States" "clocks" "[I", Cond.methodLink RX4 154 yX0_keep, Cond.instanceMethod yX0_keep, Cond.selects RX0 yX0_keep yX0_keep, Cond.code yX0_keep cX0_keep 6 none, Cond.fieldLink RX0 9 "StateEnds$Marks" "slots" "[I", Cond.fieldLink RX0 15 "StateEnds$Marks" "numbers" "[I", Cond.fieldLink RX0 18 "StateEnds$Marks" "lefts" "[I", Cond.methodLink RX0 30 yX0_indexOf]
def wsX4_mark_r3 : List Cond := [Cond.instanceMethod yX0_indexOf, Cond.selects RX0 yX0_indexOf yX0_indexOf, Cond.code yX0_indexOf cX0_indexOf 3 (some .int)]
def wsX4_mark : List Cond := .code yX4_mark cX4_mark 4 (some .int) :: ((wsX4_mark_r1 ++ (wsX4_mark_r2 ++ wsX4_mark_r3)) ++ wsX40 ++ wsX10 ++ wsX00 ++ wsX30)
def wsX4_restore_r1 : List Cond := [Cond.fieldLink RX4 33 "StateEnds" "marks" "LStateEnds$Marks;", Cond.fieldLink RX4 158 "StateEnds$Marks" "sizes" "[I", Cond.fieldLink RX4 19 "StateEnds" "places" "LStateEnds$Places;", Cond.fieldLink RX4 167 "StateEnds$Marks" "slots" "[I", Cond.fieldLink RX4 151 "StateEnds$Places" "numbers" "[I", Cond.fieldLink RX4 171 "StateEnds$Marks" "numbers" "[I", Cond.fieldLink RX4 172 "StateEnds$Marks" "lefts" "[I", Cond.fieldLink RX4 37 "StateEnds" "sweepFrom" "I", Cond.fieldLink RX4 142 "StateEnds$Places" "taken" "I", Cond.methodLink RX4 136 yX4_isMark, Cond.static yX4_isMark, Cond.initialized RX4, Cond.code yX4_isMark cX4_isMark 1 (some .boolean), Cond.methodLink RX4 161 yX1_vacateAll, Cond.instanceMethod yX1_vacateAll, Cond.selects RX1 yX1_vacateAll yX1_vacateAll, Cond.initialized RX1, Cond.code yX1_vacateAll cX1_vacateAll 1 none, Cond.fieldLink RX1 9 "StateEnds$Places" "slots" "[I", Cond.fieldLink RX1 27 "StateEnds$Places" "taken" "I", Cond.methodLink RX1 31 yJ7_fill_53178, Cond.static yJ7_fill_53178, Cond.initialized RJ7, Cond.code yJ7_fill_53178 cJ7_fill_53178 4 none]
def wsX4_restore_r2 : List Cond := [Cond.methodLink RX4 164 yX0_indexOf, Cond.instanceMethod yX0_indexOf, Cond.selects RX0 yX0_indexOf yX0_indexOf, Cond.initialized RX0, Cond.code yX0_indexOf cX0_indexOf 3 (some .int), Cond.methodLink RX4 168 yX1_take, Cond.instanceMethod yX1_take, Cond.selects RX1 yX1_take yX1_take, Cond.code yX1_take cX1_take 4 none, Cond.fieldLink RX1 24 "StateEnds$Places" "line" "[I", Cond.methodLink RX4 175 yX4_stamp, Cond.instanceMethod yX4_stamp, Cond.selects RX4 yX4_stamp yX4_stamp, Cond.code yX4_stamp cX4_stamp 4 none, Cond.fieldLink RX4 12 "StateEnds" "states" "LStateEnds$States;", Cond.fieldLink RX4 212 "StateEnds$Places" "stamps" "[I", Cond.fieldLink RX4 187 "StateEnds$Places" "ends" "[I", Cond.methodLink RX4 184 yX1_stateAt, Cond.instanceMethod yX1_stateAt, Cond.selects RX1 yX1_stateAt yX1_stateAt, Cond.code yX1_stateAt cX1_stateAt 2 (some .int), Cond.methodLink RX4 206 yX3_timeOf, Cond.instanceMethod yX3_timeOf, Cond.selects RX3 yX3_timeOf yX3_timeOf]
def wsX4_restore_r3 : List Cond := [Cond.initialized RX3, Cond.code yX3_timeOf cX3_timeOf 2 (some .int), Cond.fieldLink RX3 24 "StateEnds$States" "times" "[I", Cond.fieldLink RX3 15 "StateEnds$States" "clocks" "[I"]
def wsX4_restore : List Cond := .code yX4_restore cX4_restore 5 (some .int) :: ((wsX4_restore_r1 ++ (wsX4_restore_r2 ++ wsX4_restore_r3)) ++ wsX40 ++ wsX00 ++ wsX10 ++ wsX30)
def wsX4_row : List Cond := .code yX4_row cX4_row 3 (some .int) :: ([.fieldLink RX4 26 "StateEnds" "rows" "LStateEnds$Rows;", .fieldLink RX4 178 "StateEnds$Rows" "kept" "I", .constant RX4 114 (-99999999), .methodLink RX4 181 yX2_cell, .instanceMethod yX2_cell, .selects RX2 yX2_cell yX2_cell, .initialized RX2, .code yX2_cell cX2_cell 3 (some .int), .fieldLink RX2 9 "StateEnds$Rows" "cells" "[I", .methodLink RX2 25 yX2_indexOf, .instanceMethod yX2_indexOf, .selects RX2 yX2_indexOf yX2_indexOf, .code yX2_indexOf cX2_indexOf 2 (some .int), .fieldLink RX2 15 "StateEnds$Rows" "first" "I"] ++ wsX40 ++ wsX20)
def wsX4_place_r1 : List Cond := [Cond.constant RX4 114 (-99999999), Cond.methodLink RX4 104 yX4_isMemberOrIndexFor, Cond.instanceMethod yX4_isMemberOrIndexFor, Cond.selects RX4 yX4_isMemberOrIndexFor yX4_isMemberOrIndexFor, Cond.initialized RX4, Cond.code yX4_isMemberOrIndexFor cX4_isMemberOrIndexFor 4 (some .boolean), Cond.fieldLink RX4 12 "StateEnds" "states" "LStateEnds$States;", Cond.methodLink RX4 95 yX4_isStateAndKey, Cond.instanceMethod yX4_isStateAndKey, Cond.selects RX4 yX4_isStateAndKey yX4_isStateAndKey, Cond.code yX4_isStateAndKey cX4_isStateAndKey 3 (some .boolean), Cond.methodLink RX4 127 yX3_has, Cond.instanceMethod yX3_has, Cond.selects RX3 yX3_has yX3_has, Cond.initialized RX3, Cond.code yX3_has cX3_has 2 (some .boolean), Cond.fieldLink RX3 27 "StateEnds$States" "made" "I", Cond.methodLink RX4 197 yX3_isList, Cond.instanceMethod yX3_isList, Cond.selects RX3 yX3_isList yX3_isList, Cond.code yX3_isList cX3_isList 2 (some .boolean), Cond.fieldLink RX3 9 "StateEnds$States" "forms" "[I", Cond.methodLink RX4 200 yX4_isMember, Cond.static yX4_isMember]
def wsX4_place_r2 : List Cond := [Cond.code yX4_isMember cX4_isMember 1 (some .boolean), Cond.methodLink RX4 107 yX4_slotFor, Cond.instanceMethod yX4_slotFor, Cond.selects RX4 yX4_slotFor yX4_slotFor, Cond.code yX4_slotFor cX4_slotFor 4 (some .int), Cond.methodLink RX4 59 yX4_slotOf, Cond.static yX4_slotOf, Cond.code yX4_slotOf cX4_slotOf 3 (some .int), Cond.methodLink RX4 110 yX4_indexFor, Cond.instanceMethod yX4_indexFor, Cond.selects RX4 yX4_indexFor yX4_indexFor, Cond.code yX4_indexFor cX4_indexFor 3 (some .int), Cond.methodLink RX4 63 yX4_placeOf, Cond.instanceMethod yX4_placeOf, Cond.selects RX4 yX4_placeOf yX4_placeOf, Cond.code yX4_placeOf cX4_placeOf 7 (some .int), Cond.fieldLink RX4 19 "StateEnds" "places" "LStateEnds$Places;", Cond.fieldLink RX4 142 "StateEnds$Places" "taken" "I", Cond.fieldLink RX4 145 "StateEnds$Places" "line" "[I", Cond.fieldLink RX4 148 "StateEnds$Places" "slots" "[I", Cond.methodLink RX4 71 yX4_isShown, Cond.instanceMethod yX4_isShown, Cond.selects RX4 yX4_isShown yX4_isShown, Cond.code yX4_isShown cX4_isShown 2 (some .boolean)]
def wsX4_place_r3 : List Cond := [Cond.methodLink RX4 115 yX4_leftOf, Cond.instanceMethod yX4_leftOf, Cond.selects RX4 yX4_leftOf yX4_leftOf, Cond.code yX4_leftOf cX4_leftOf 2 (some .int), Cond.fieldLink RX4 187 "StateEnds$Places" "ends" "[I", Cond.methodLink RX4 184 yX1_stateAt, Cond.instanceMethod yX1_stateAt, Cond.selects RX1 yX1_stateAt yX1_stateAt, Cond.initialized RX1, Cond.code yX1_stateAt cX1_stateAt 2 (some .int), Cond.fieldLink RX1 9 "StateEnds$Places" "slots" "[I", Cond.methodLink RX4 206 yX3_timeOf, Cond.instanceMethod yX3_timeOf, Cond.selects RX3 yX3_timeOf yX3_timeOf, Cond.code yX3_timeOf cX3_timeOf 2 (some .int), Cond.fieldLink RX3 24 "StateEnds$States" "times" "[I", Cond.fieldLink RX3 15 "StateEnds$States" "clocks" "[I"]
def wsX4_place : List Cond := .code yX4_place cX4_place 5 (some .int) :: ((wsX4_place_r1 ++ (wsX4_place_r2 ++ wsX4_place_r3)) ++ wsX40 ++ wsX30 ++ wsX10)
def wsX4_next_r1 : List Cond := [Cond.fieldLink RX4 12 "StateEnds" "states" "LStateEnds$States;", Cond.constant RX4 114 (-99999999), Cond.fieldLink RX4 19 "StateEnds" "places" "LStateEnds$Places;", Cond.fieldLink RX4 142 "StateEnds$Places" "taken" "I", Cond.fieldLink RX4 145 "StateEnds$Places" "line" "[I", Cond.fieldLink RX4 187 "StateEnds$Places" "ends" "[I", Cond.methodLink RX4 127 yX3_has, Cond.instanceMethod yX3_has, Cond.selects RX3 yX3_has yX3_has, Cond.initialized RX3, Cond.code yX3_has cX3_has 2 (some .boolean), Cond.fieldLink RX3 27 "StateEnds$States" "made" "I", Cond.methodLink RX4 184 yX1_stateAt, Cond.instanceMethod yX1_stateAt, Cond.selects RX1 yX1_stateAt yX1_stateAt, Cond.initialized RX1, Cond.code yX1_stateAt cX1_stateAt 2 (some .int), Cond.fieldLink RX1 9 "StateEnds$Places" "slots" "[I", Cond.methodLink RX4 71 yX4_isShown, Cond.instanceMethod yX4_isShown, Cond.selects RX4 yX4_isShown yX4_isShown, Cond.initialized RX4, Cond.code yX4_isShown cX4_isShown 2 (some .boolean), Cond.methodLink RX4 115 yX4_leftOf]
def wsX4_next_r2 : List Cond := [Cond.instanceMethod yX4_leftOf, Cond.selects RX4 yX4_leftOf yX4_leftOf, Cond.code yX4_leftOf cX4_leftOf 2 (some .int), Cond.methodLink RX4 206 yX3_timeOf, Cond.instanceMethod yX3_timeOf, Cond.selects RX3 yX3_timeOf yX3_timeOf, Cond.code yX3_timeOf cX3_timeOf 2 (some .int), Cond.fieldLink RX3 24 "StateEnds$States" "times" "[I", Cond.fieldLink RX3 15 "StateEnds$States" "clocks" "[I"]
def wsX4_next : List Cond := .code yX4_next cX4_next 5 (some .int) :: ((wsX4_next_r1 ++ wsX4_next_r2) ++ wsX40 ++ wsX10 ++ wsX30)
def wsX4_count_r1 : List Cond := [Cond.fieldLink RX4 12 "StateEnds" "states" "LStateEnds$States;", Cond.fieldLink RX4 48 "StateEnds$States" "made" "I", Cond.fieldLink RX4 19 "StateEnds" "places" "LStateEnds$Places;", Cond.fieldLink RX4 142 "StateEnds$Places" "taken" "I", Cond.fieldLink RX4 26 "StateEnds" "rows" "LStateEnds$Rows;", Cond.fieldLink RX4 178 "StateEnds$Rows" "kept" "I", Cond.fieldLink RX4 194 "StateEnds$Rows" "ever" "I", Cond.fieldLink RX4 119 "StateEnds$States" "times" "[I", Cond.fieldLink RX4 37 "StateEnds" "sweepFrom" "I", Cond.methodLink RX4 190 yX4_howManyShown, Cond.instanceMethod yX4_howManyShown, Cond.selects RX4 yX4_howManyShown yX4_howManyShown, Cond.initialized RX4, Cond.code yX4_howManyShown cX4_howManyShown 3 (some .int), Cond.fieldLink RX4 145 "StateEnds$Places" "line" "[I", Cond.methodLink RX4 71 yX4_isShown, Cond.instanceMethod yX4_isShown, Cond.selects RX4 yX4_isShown yX4_isShown, Cond.code yX4_isShown cX4_isShown 2 (some .boolean), Cond.methodLink RX4 115 yX4_leftOf, Cond.instanceMethod yX4_leftOf, Cond.selects RX4 yX4_leftOf yX4_leftOf, Cond.code yX4_leftOf cX4_leftOf 2 (some .int), Cond.fieldLink RX4 187 "StateEnds$Places" "ends" "[I"]
def wsX4_count_r2 : List Cond := [Cond.methodLink RX4 184 yX1_stateAt, Cond.instanceMethod yX1_stateAt, Cond.selects RX1 yX1_stateAt yX1_stateAt, Cond.initialized RX1, Cond.code yX1_stateAt cX1_stateAt 2 (some .int), Cond.fieldLink RX1 9 "StateEnds$Places" "slots" "[I", Cond.methodLink RX4 206 yX3_timeOf, Cond.instanceMethod yX3_timeOf, Cond.selects RX3 yX3_timeOf yX3_timeOf, Cond.initialized RX3, Cond.code yX3_timeOf cX3_timeOf 2 (some .int), Cond.fieldLink RX3 24 "StateEnds$States" "times" "[I", Cond.fieldLink RX3 15 "StateEnds$States" "clocks" "[I"]
def wsX4_count : List Cond := .code yX4_count cX4_count 2 (some .int) :: ((wsX4_count_r1 ++ wsX4_count_r2) ++ wsX40 ++ wsX30 ++ wsX10 ++ wsX20)
def wsX5_init : List Cond := .code yX5_init cX5_init 2 none :: ([.methodLink RX5 1 objectInit, .instanceMethod objectInit, .code objectInit ⟨#[0xb1]⟩ 1 none, .arrayClass .int, .fieldLink RX5 7 "StateEndsModel" "forms" "[I", .fieldLink RX5 13 "StateEndsModel" "clocks" "[I", .fieldLink RX5 16 "StateEndsModel" "spans" "[I", .fieldLink RX5 19 "StateEndsModel" "ways" "[I", .fieldLink RX5 22 "StateEndsModel" "now" "[I", .fieldLink RX5 25 "StateEndsModel" "stateOf" "[I", .fieldLink RX5 28 "StateEndsModel" "keyOf" "[I", .fieldLink RX5 31 "StateEndsModel" "memberOf" "[I", .fieldLink RX5 34 "StateEndsModel" "numberOf" "[I", .fieldLink RX5 37 "StateEndsModel" "stampOf" "[I", .fieldLink RX5 40 "StateEndsModel" "endOf" "[I", .fieldLink RX5 43 "StateEndsModel" "cameOf" "[I", .fieldLink RX5 46 "StateEndsModel" "rows" "[I", .fieldLink RX5 49 "StateEndsModel" "markMany" "[I", .fieldLink RX5 52 "StateEndsModel" "marks" "[I", .constant RX5 55 (-99999999)] ++ wsX50)
def wsX5_isIn : List Cond := .code yX5_isIn cX5_isIn 3 (some .boolean) :: ([])
def wsX5_isState : List Cond := .code yX5_isState cX5_isState 2 (some .boolean) :: ([.fieldLink RX5 56 "StateEndsModel" "states" "I", .methodLink RX5 60 yX5_isIn, .static yX5_isIn, .initialized RX5, .code yX5_isIn cX5_isIn 3 (some .boolean)] ++ wsX50)
def wsX5_isForm : List Cond := .code yX5_isForm cX5_isForm 3 (some .boolean) :: ([.fieldLink RX5 7 "StateEndsModel" "forms" "[I", .methodLink RX5 64 yX5_isState, .instanceMethod yX5_isState, .selects RX5 yX5_isState yX5_isState, .initialized RX5, .code yX5_isState cX5_isState 2 (some .boolean), .fieldLink RX5 56 "StateEndsModel" "states" "I", .methodLink RX5 60 yX5_isIn, .static yX5_isIn, .code yX5_isIn cX5_isIn 3 (some .boolean)] ++ wsX50)
def wsX5_state : List Cond := .code yX5_state cX5_state 5 (some .int) :: ([.constant RX5 68 (100000), .fieldLink RX5 56 "StateEndsModel" "states" "I", .fieldLink RX5 7 "StateEndsModel" "forms" "[I", .fieldLink RX5 13 "StateEndsModel" "clocks" "[I", .fieldLink RX5 16 "StateEndsModel" "spans" "[I", .fieldLink RX5 19 "StateEndsModel" "ways" "[I", .methodLink RX5 60 yX5_isIn, .static yX5_isIn, .initialized RX5, .code yX5_isIn cX5_isIn 3 (some .boolean)] ++ wsX50)
def wsX5_clockOf : List Cond := .code yX5_clockOf cX5_clockOf 2 (some .int) :: ([.fieldLink RX5 22 "StateEndsModel" "now" "[I", .fieldLink RX5 13 "StateEndsModel" "clocks" "[I", .fieldLink RX5 25 "StateEndsModel" "stateOf" "[I"] ++ wsX50)
def wsX5_isShown : List Cond := .code yX5_isShown cX5_isShown 2 (some .boolean) :: ([.fieldLink RX5 25 "StateEndsModel" "stateOf" "[I", .constant RX5 55 (-99999999), .fieldLink RX5 40 "StateEndsModel" "endOf" "[I", .methodLink RX5 69 yX5_clockOf, .instanceMethod yX5_clockOf, .selects RX5 yX5_clockOf yX5_clockOf, .initialized RX5, .code yX5_clockOf cX5_clockOf 2 (some .int), .fieldLink RX5 22 "StateEndsModel" "now" "[I", .fieldLink RX5 13 "StateEndsModel" "clocks" "[I"] ++ wsX50)
def wsX5_isOver : List Cond := .code yX5_isOver cX5_isOver 2 (some .boolean) :: ([.fieldLink RX5 25 "StateEndsModel" "stateOf" "[I", .constant RX5 55 (-99999999), .fieldLink RX5 40 "StateEndsModel" "endOf" "[I", .methodLink RX5 69 yX5_clockOf, .instanceMethod yX5_clockOf, .selects RX5 yX5_clockOf yX5_clockOf, .initialized RX5, .code yX5_clockOf cX5_clockOf 2 (some .int), .fieldLink RX5 22 "StateEndsModel" "now" "[I", .fieldLink RX5 13 "StateEndsModel" "clocks" "[I"] ++ wsX50)
def wsX5_free : List Cond := .code yX5_free cX5_free 2 (some .int) :: ([.fieldLink RX5 25 "StateEndsModel" "stateOf" "[I", .constant RX5 55 (-99999999)] ++ wsX50)
def wsX5_find : List Cond := .code yX5_find cX5_find 5 (some .int) :: ([.fieldLink RX5 25 "StateEndsModel" "stateOf" "[I", .fieldLink RX5 28 "StateEndsModel" "keyOf" "[I", .fieldLink RX5 31 "StateEndsModel" "memberOf" "[I", .constant RX5 55 (-99999999)] ++ wsX50)
def wsX5_findIn : List Cond := .code yX5_findIn cX5_findIn 10 (some .int) :: ([.constant RX5 55 (-99999999), .fieldLink RX5 25 "StateEndsModel" "stateOf" "[I", .fieldLink RX5 28 "StateEndsModel" "keyOf" "[I", .fieldLink RX5 43 "StateEndsModel" "cameOf" "[I", .methodLink RX5 73 yX5_isShown, .instanceMethod yX5_isShown, .selects RX5 yX5_isShown yX5_isShown, .initialized RX5, .code yX5_isShown cX5_isShown 2 (some .boolean), .fieldLink RX5 40 "StateEndsModel" "endOf" "[I", .methodLink RX5 69 yX5_clockOf, .instanceMethod yX5_clockOf, .selects RX5 yX5_clockOf yX5_clockOf, .code yX5_clockOf cX5_clockOf 2 (some .int), .fieldLink RX5 22 "StateEndsModel" "now" "[I", .fieldLink RX5 13 "StateEndsModel" "clocks" "[I"] ++ wsX50)
def wsX5_stamps : List Cond := .code yX5_stamps cX5_stamps 3 none :: ([.fieldLink RX5 25 "StateEndsModel" "stateOf" "[I", .fieldLink RX5 37 "StateEndsModel" "stampOf" "[I", .fieldLink RX5 22 "StateEndsModel" "now" "[I", .fieldLink RX5 13 "StateEndsModel" "clocks" "[I", .fieldLink RX5 40 "StateEndsModel" "endOf" "[I", .fieldLink RX5 16 "StateEndsModel" "spans" "[I"] ++ wsX50)
def wsX5_writes : List Cond := .code yX5_writes cX5_writes 6 none :: ([.fieldLink RX5 25 "StateEndsModel" "stateOf" "[I", .fieldLink RX5 28 "StateEndsModel" "keyOf" "[I", .fieldLink RX5 31 "StateEndsModel" "memberOf" "[I", .fieldLink RX5 34 "StateEndsModel" "numberOf" "[I", .fieldLink RX5 76 "StateEndsModel" "came" "I", .fieldLink RX5 43 "StateEndsModel" "cameOf" "[I", .methodLink RX5 79 yX5_stamps, .instanceMethod yX5_stamps, .selects RX5 yX5_stamps yX5_stamps, .initialized RX5, .code yX5_stamps cX5_stamps 3 none, .fieldLink RX5 37 "StateEndsModel" "stampOf" "[I", .fieldLink RX5 22 "StateEndsModel" "now" "[I", .fieldLink RX5 13 "StateEndsModel" "clocks" "[I", .fieldLink RX5 40 "StateEndsModel" "endOf" "[I", .fieldLink RX5 16 "StateEndsModel" "spans" "[I"] ++ wsX50)
def wsX5_tells : List Cond := .code yX5_tells cX5_tells 3 none :: ([.fieldLink RX5 83 "StateEndsModel" "rowMany" "I", .fieldLink RX5 46 "StateEndsModel" "rows" "[I", .fieldLink RX5 25 "StateEndsModel" "stateOf" "[I", .fieldLink RX5 28 "StateEndsModel" "keyOf" "[I", .fieldLink RX5 31 "StateEndsModel" "memberOf" "[I", .fieldLink RX5 34 "StateEndsModel" "numberOf" "[I", .fieldLink RX5 40 "StateEndsModel" "endOf" "[I", .fieldLink RX5 22 "StateEndsModel" "now" "[I", .fieldLink RX5 86 "StateEndsModel" "rowsEver" "I"] ++ wsX50)
def wsX5_put_r1 : List Cond := [Cond.constant RX5 55 (-99999999), Cond.methodLink RX5 89 yX5_isForm, Cond.instanceMethod yX5_isForm, Cond.selects RX5 yX5_isForm yX5_isForm, Cond.initialized RX5, Cond.code yX5_isForm cX5_isForm 3 (some .boolean), Cond.fieldLink RX5 7 "StateEndsModel" "forms" "[I", Cond.methodLink RX5 64 yX5_isState, Cond.instanceMethod yX5_isState, Cond.selects RX5 yX5_isState yX5_isState, Cond.code yX5_isState cX5_isState 2 (some .boolean), Cond.fieldLink RX5 56 "StateEndsModel" "states" "I", Cond.methodLink RX5 60 yX5_isIn, Cond.static yX5_isIn, Cond.code yX5_isIn cX5_isIn 3 (some .boolean), Cond.methodLink RX5 93 yX5_find, Cond.instanceMethod yX5_find, Cond.selects RX5 yX5_find yX5_find, Cond.code yX5_find cX5_find 5 (some .int), Cond.fieldLink RX5 25 "StateEndsModel" "stateOf" "[I", Cond.fieldLink RX5 28 "StateEndsModel" "keyOf" "[I", Cond.fieldLink RX5 31 "StateEndsModel" "memberOf" "[I", Cond.methodLink RX5 73 yX5_isShown, Cond.instanceMethod yX5_isShown]
def wsX5_put_r2 : List Cond := [Cond.selects RX5 yX5_isShown yX5_isShown, Cond.code yX5_isShown cX5_isShown 2 (some .boolean), Cond.fieldLink RX5 40 "StateEndsModel" "endOf" "[I", Cond.methodLink RX5 69 yX5_clockOf, Cond.instanceMethod yX5_clockOf, Cond.selects RX5 yX5_clockOf yX5_clockOf, Cond.code yX5_clockOf cX5_clockOf 2 (some .int), Cond.fieldLink RX5 22 "StateEndsModel" "now" "[I", Cond.fieldLink RX5 13 "StateEndsModel" "clocks" "[I", Cond.methodLink RX5 97 yX5_free, Cond.instanceMethod yX5_free, Cond.selects RX5 yX5_free yX5_free, Cond.code yX5_free cX5_free 2 (some .int), Cond.methodLink RX5 101 yX5_tells, Cond.instanceMethod yX5_tells, Cond.selects RX5 yX5_tells yX5_tells, Cond.code yX5_tells cX5_tells 3 none, Cond.fieldLink RX5 83 "StateEndsModel" "rowMany" "I", Cond.fieldLink RX5 46 "StateEndsModel" "rows" "[I", Cond.fieldLink RX5 34 "StateEndsModel" "numberOf" "[I", Cond.fieldLink RX5 86 "StateEndsModel" "rowsEver" "I", Cond.methodLink RX5 104 yX5_writes, Cond.instanceMethod yX5_writes, Cond.selects RX5 yX5_writes yX5_writes]
def wsX5_put_r3 : List Cond := [Cond.code yX5_writes cX5_writes 6 none, Cond.fieldLink RX5 76 "StateEndsModel" "came" "I", Cond.fieldLink RX5 43 "StateEndsModel" "cameOf" "[I", Cond.methodLink RX5 79 yX5_stamps, Cond.instanceMethod yX5_stamps, Cond.selects RX5 yX5_stamps yX5_stamps, Cond.code yX5_stamps cX5_stamps 3 none, Cond.fieldLink RX5 37 "StateEndsModel" "stampOf" "[I", Cond.fieldLink RX5 16 "StateEndsModel" "spans" "[I"]
def wsX5_put : List Cond := .code yX5_put cX5_put 7 (some .int) :: ((wsX5_put_r1 ++ (wsX5_put_r2 ++ wsX5_put_r3)) ++ wsX50)
def wsX5_read : List Cond := .code yX5_read cX5_read 2 (some .int) :: ([.fieldLink RX5 19 "StateEndsModel" "ways" "[I", .fieldLink RX5 25 "StateEndsModel" "stateOf" "[I", .fieldLink RX5 34 "StateEndsModel" "numberOf" "[I", .methodLink RX5 79 yX5_stamps, .instanceMethod yX5_stamps, .selects RX5 yX5_stamps yX5_stamps, .initialized RX5, .code yX5_stamps cX5_stamps 3 none, .fieldLink RX5 37 "StateEndsModel" "stampOf" "[I", .fieldLink RX5 22 "StateEndsModel" "now" "[I", .fieldLink RX5 13 "StateEndsModel" "clocks" "[I", .fieldLink RX5 40 "StateEndsModel" "endOf" "[I", .fieldLink RX5 16 "StateEndsModel" "spans" "[I"] ++ wsX50)
def wsX5_get_r1 : List Cond := [Cond.constant RX5 55 (-99999999), Cond.methodLink RX5 89 yX5_isForm, Cond.instanceMethod yX5_isForm, Cond.selects RX5 yX5_isForm yX5_isForm, Cond.initialized RX5, Cond.code yX5_isForm cX5_isForm 3 (some .boolean), Cond.fieldLink RX5 7 "StateEndsModel" "forms" "[I", Cond.methodLink RX5 64 yX5_isState, Cond.instanceMethod yX5_isState, Cond.selects RX5 yX5_isState yX5_isState, Cond.code yX5_isState cX5_isState 2 (some .boolean), Cond.fieldLink RX5 56 "StateEndsModel" "states" "I", Cond.methodLink RX5 60 yX5_isIn, Cond.static yX5_isIn, Cond.code yX5_isIn cX5_isIn 3 (some .boolean), Cond.methodLink RX5 93 yX5_find, Cond.instanceMethod yX5_find, Cond.selects RX5 yX5_find yX5_find, Cond.code yX5_find cX5_find 5 (some .int), Cond.fieldLink RX5 25 "StateEndsModel" "stateOf" "[I", Cond.fieldLink RX5 28 "StateEndsModel" "keyOf" "[I", Cond.fieldLink RX5 31 "StateEndsModel" "memberOf" "[I", Cond.methodLink RX5 73 yX5_isShown, Cond.instanceMethod yX5_isShown]
def wsX5_get_r2 : List Cond := [Cond.selects RX5 yX5_isShown yX5_isShown, Cond.code yX5_isShown cX5_isShown 2 (some .boolean), Cond.fieldLink RX5 40 "StateEndsModel" "endOf" "[I", Cond.methodLink RX5 69 yX5_clockOf, Cond.instanceMethod yX5_clockOf, Cond.selects RX5 yX5_clockOf yX5_clockOf, Cond.code yX5_clockOf cX5_clockOf 2 (some .int), Cond.fieldLink RX5 22 "StateEndsModel" "now" "[I", Cond.fieldLink RX5 13 "StateEndsModel" "clocks" "[I", Cond.methodLink RX5 108 yX5_read, Cond.instanceMethod yX5_read, Cond.selects RX5 yX5_read yX5_read, Cond.code yX5_read cX5_read 2 (some .int), Cond.fieldLink RX5 19 "StateEndsModel" "ways" "[I", Cond.fieldLink RX5 34 "StateEndsModel" "numberOf" "[I", Cond.methodLink RX5 79 yX5_stamps, Cond.instanceMethod yX5_stamps, Cond.selects RX5 yX5_stamps yX5_stamps, Cond.code yX5_stamps cX5_stamps 3 none, Cond.fieldLink RX5 37 "StateEndsModel" "stampOf" "[I", Cond.fieldLink RX5 16 "StateEndsModel" "spans" "[I"]
def wsX5_get : List Cond := .code yX5_get cX5_get 5 (some .int) :: ((wsX5_get_r1 ++ wsX5_get_r2) ++ wsX50)
def wsX5_remove_r1 : List Cond := [Cond.constant RX5 55 (-99999999), Cond.fieldLink RX5 25 "StateEndsModel" "stateOf" "[I", Cond.methodLink RX5 89 yX5_isForm, Cond.instanceMethod yX5_isForm, Cond.selects RX5 yX5_isForm yX5_isForm, Cond.initialized RX5, Cond.code yX5_isForm cX5_isForm 3 (some .boolean), Cond.fieldLink RX5 7 "StateEndsModel" "forms" "[I", Cond.methodLink RX5 64 yX5_isState, Cond.instanceMethod yX5_isState, Cond.selects RX5 yX5_isState yX5_isState, Cond.code yX5_isState cX5_isState 2 (some .boolean), Cond.fieldLink RX5 56 "StateEndsModel" "states" "I", Cond.methodLink RX5 60 yX5_isIn, Cond.static yX5_isIn, Cond.code yX5_isIn cX5_isIn 3 (some .boolean), Cond.methodLink RX5 93 yX5_find, Cond.instanceMethod yX5_find, Cond.selects RX5 yX5_find yX5_find, Cond.code yX5_find cX5_find 5 (some .int), Cond.fieldLink RX5 28 "StateEndsModel" "keyOf" "[I", Cond.fieldLink RX5 31 "StateEndsModel" "memberOf" "[I", Cond.methodLink RX5 73 yX5_isShown, Cond.instanceMethod yX5_isShown]
def wsX5_remove_r2 : List Cond := [Cond.selects RX5 yX5_isShown yX5_isShown, Cond.code yX5_isShown cX5_isShown 2 (some .boolean), Cond.fieldLink RX5 40 "StateEndsModel" "endOf" "[I", Cond.methodLink RX5 69 yX5_clockOf, Cond.instanceMethod yX5_clockOf, Cond.selects RX5 yX5_clockOf yX5_clockOf, Cond.code yX5_clockOf cX5_clockOf 2 (some .int), Cond.fieldLink RX5 22 "StateEndsModel" "now" "[I", Cond.fieldLink RX5 13 "StateEndsModel" "clocks" "[I"]
def wsX5_remove : List Cond := .code yX5_remove cX5_remove 6 (some .int) :: ((wsX5_remove_r1 ++ wsX5_remove_r2) ++ wsX50)
def wsX5_held : List Cond := .code yX5_held cX5_held 6 (some .int) :: ([.fieldLink RX5 25 "StateEndsModel" "stateOf" "[I", .fieldLink RX5 28 "StateEndsModel" "keyOf" "[I", .methodLink RX5 64 yX5_isState, .instanceMethod yX5_isState, .selects RX5 yX5_isState yX5_isState, .initialized RX5, .code yX5_isState cX5_isState 2 (some .boolean), .fieldLink RX5 56 "StateEndsModel" "states" "I", .methodLink RX5 60 yX5_isIn, .static yX5_isIn, .code yX5_isIn cX5_isIn 3 (some .boolean), .methodLink RX5 73 yX5_isShown, .instanceMethod yX5_isShown, .selects RX5 yX5_isShown yX5_isShown, .code yX5_isShown cX5_isShown 2 (some .boolean), .constant RX5 55 (-99999999), .fieldLink RX5 40 "StateEndsModel" "endOf" "[I", .methodLink RX5 69 yX5_clockOf, .instanceMethod yX5_clockOf, .selects RX5 yX5_clockOf yX5_clockOf, .code yX5_clockOf cX5_clockOf 2 (some .int), .fieldLink RX5 22 "StateEndsModel" "now" "[I", .fieldLink RX5 13 "StateEndsModel" "clocks" "[I"] ++ wsX50)
def wsX5_add_r1 : List Cond := [Cond.constant RX5 55 (-99999999), Cond.methodLink RX5 89 yX5_isForm, Cond.instanceMethod yX5_isForm, Cond.selects RX5 yX5_isForm yX5_isForm, Cond.initialized RX5, Cond.code yX5_isForm cX5_isForm 3 (some .boolean), Cond.fieldLink RX5 7 "StateEndsModel" "forms" "[I", Cond.methodLink RX5 64 yX5_isState, Cond.instanceMethod yX5_isState, Cond.selects RX5 yX5_isState yX5_isState, Cond.code yX5_isState cX5_isState 2 (some .boolean), Cond.fieldLink RX5 56 "StateEndsModel" "states" "I", Cond.methodLink RX5 60 yX5_isIn, Cond.static yX5_isIn, Cond.code yX5_isIn cX5_isIn 3 (some .boolean), Cond.methodLink RX5 97 yX5_free, Cond.instanceMethod yX5_free, Cond.selects RX5 yX5_free yX5_free, Cond.code yX5_free cX5_free 2 (some .int), Cond.fieldLink RX5 25 "StateEndsModel" "stateOf" "[I", Cond.methodLink RX5 104 yX5_writes, Cond.instanceMethod yX5_writes, Cond.selects RX5 yX5_writes yX5_writes, Cond.code yX5_writes cX5_writes 6 none]
def wsX5_add_r2 : List Cond := [Cond.fieldLink RX5 28 "StateEndsModel" "keyOf" "[I", Cond.fieldLink RX5 31 "StateEndsModel" "memberOf" "[I", Cond.fieldLink RX5 34 "StateEndsModel" "numberOf" "[I", Cond.fieldLink RX5 76 "StateEndsModel" "came" "I", Cond.fieldLink RX5 43 "StateEndsModel" "cameOf" "[I", Cond.methodLink RX5 79 yX5_stamps, Cond.instanceMethod yX5_stamps, Cond.selects RX5 yX5_stamps yX5_stamps, Cond.code yX5_stamps cX5_stamps 3 none, Cond.fieldLink RX5 37 "StateEndsModel" "stampOf" "[I", Cond.fieldLink RX5 22 "StateEndsModel" "now" "[I", Cond.fieldLink RX5 13 "StateEndsModel" "clocks" "[I", Cond.fieldLink RX5 40 "StateEndsModel" "endOf" "[I", Cond.fieldLink RX5 16 "StateEndsModel" "spans" "[I", Cond.methodLink RX5 111 yX5_held, Cond.instanceMethod yX5_held, Cond.selects RX5 yX5_held yX5_held, Cond.code yX5_held cX5_held 6 (some .int), Cond.methodLink RX5 73 yX5_isShown, Cond.instanceMethod yX5_isShown, Cond.selects RX5 yX5_isShown yX5_isShown, Cond.code yX5_isShown cX5_isShown 2 (some .boolean), Cond.methodLink RX5 69 yX5_clockOf, Cond.instanceMethod yX5_clockOf]
def wsX5_add_r3 : List Cond := [Cond.selects RX5 yX5_clockOf yX5_clockOf, Cond.code yX5_clockOf cX5_clockOf 2 (some .int)]
def wsX5_add : List Cond := .code yX5_add cX5_add 5 (some .int) :: ((wsX5_add_r1 ++ (wsX5_add_r2 ++ wsX5_add_r3)) ++ wsX50)
def wsX5_at_r1 : List Cond := [Cond.constant RX5 55 (-99999999), Cond.methodLink RX5 89 yX5_isForm, Cond.instanceMethod yX5_isForm, Cond.selects RX5 yX5_isForm yX5_isForm, Cond.initialized RX5, Cond.code yX5_isForm cX5_isForm 3 (some .boolean), Cond.fieldLink RX5 7 "StateEndsModel" "forms" "[I", Cond.methodLink RX5 64 yX5_isState, Cond.instanceMethod yX5_isState, Cond.selects RX5 yX5_isState yX5_isState, Cond.code yX5_isState cX5_isState 2 (some .boolean), Cond.fieldLink RX5 56 "StateEndsModel" "states" "I", Cond.methodLink RX5 60 yX5_isIn, Cond.static yX5_isIn, Cond.code yX5_isIn cX5_isIn 3 (some .boolean), Cond.methodLink RX5 115 yX5_findIn, Cond.instanceMethod yX5_findIn, Cond.selects RX5 yX5_findIn yX5_findIn, Cond.code yX5_findIn cX5_findIn 10 (some .int), Cond.fieldLink RX5 25 "StateEndsModel" "stateOf" "[I", Cond.fieldLink RX5 28 "StateEndsModel" "keyOf" "[I", Cond.fieldLink RX5 43 "StateEndsModel" "cameOf" "[I", Cond.methodLink RX5 73 yX5_isShown, Cond.instanceMethod yX5_isShown]
def wsX5_at_r2 : List Cond := [Cond.selects RX5 yX5_isShown yX5_isShown, Cond.code yX5_isShown cX5_isShown 2 (some .boolean), Cond.fieldLink RX5 40 "StateEndsModel" "endOf" "[I", Cond.methodLink RX5 69 yX5_clockOf, Cond.instanceMethod yX5_clockOf, Cond.selects RX5 yX5_clockOf yX5_clockOf, Cond.code yX5_clockOf cX5_clockOf 2 (some .int), Cond.fieldLink RX5 22 "StateEndsModel" "now" "[I", Cond.fieldLink RX5 13 "StateEndsModel" "clocks" "[I", Cond.methodLink RX5 108 yX5_read, Cond.instanceMethod yX5_read, Cond.selects RX5 yX5_read yX5_read, Cond.code yX5_read cX5_read 2 (some .int), Cond.fieldLink RX5 19 "StateEndsModel" "ways" "[I", Cond.fieldLink RX5 34 "StateEndsModel" "numberOf" "[I", Cond.methodLink RX5 79 yX5_stamps, Cond.instanceMethod yX5_stamps, Cond.selects RX5 yX5_stamps yX5_stamps, Cond.code yX5_stamps cX5_stamps 3 none, Cond.fieldLink RX5 37 "StateEndsModel" "stampOf" "[I", Cond.fieldLink RX5 16 "StateEndsModel" "spans" "[I"]
def wsX5_at : List Cond := .code yX5_at cX5_at 5 (some .int) :: ((wsX5_at_r1 ++ wsX5_at_r2) ++ wsX50)
def wsX5_clear : List Cond := .code yX5_clear cX5_clear 5 (some .int) :: ([.fieldLink RX5 25 "StateEndsModel" "stateOf" "[I", .fieldLink RX5 28 "StateEndsModel" "keyOf" "[I", .constant RX5 55 (-99999999), .methodLink RX5 64 yX5_isState, .instanceMethod yX5_isState, .selects RX5 yX5_isState yX5_isState, .initialized RX5, .code yX5_isState cX5_isState 2 (some .boolean), .fieldLink RX5 56 "StateEndsModel" "states" "I", .methodLink RX5 60 yX5_isIn, .static yX5_isIn, .code yX5_isIn cX5_isIn 3 (some .boolean), .methodLink RX5 73 yX5_isShown, .instanceMethod yX5_isShown, .selects RX5 yX5_isShown yX5_isShown, .code yX5_isShown cX5_isShown 2 (some .boolean), .fieldLink RX5 40 "StateEndsModel" "endOf" "[I", .methodLink RX5 69 yX5_clockOf, .instanceMethod yX5_clockOf, .selects RX5 yX5_clockOf yX5_clockOf, .code yX5_clockOf cX5_clockOf 2 (some .int), .fieldLink RX5 22 "StateEndsModel" "now" "[I", .fieldLink RX5 13 "StateEndsModel" "clocks" "[I"] ++ wsX50)
def wsX5_isAsked : List Cond := .code yX5_isAsked cX5_isAsked 4 (some .boolean) :: ([.fieldLink RX5 7 "StateEndsModel" "forms" "[I", .methodLink RX5 64 yX5_isState, .instanceMethod yX5_isState, .selects RX5 yX5_isState yX5_isState, .initialized RX5, .code yX5_isState cX5_isState 2 (some .boolean), .fieldLink RX5 56 "StateEndsModel" "states" "I", .methodLink RX5 60 yX5_isIn, .static yX5_isIn, .code yX5_isIn cX5_isIn 3 (some .boolean)] ++ wsX50)
def wsX5_asked_r1 : List Cond := [Cond.fieldLink RX5 7 "StateEndsModel" "forms" "[I", Cond.constant RX5 55 (-99999999), Cond.methodLink RX5 93 yX5_find, Cond.instanceMethod yX5_find, Cond.selects RX5 yX5_find yX5_find, Cond.initialized RX5, Cond.code yX5_find cX5_find 5 (some .int), Cond.fieldLink RX5 25 "StateEndsModel" "stateOf" "[I", Cond.fieldLink RX5 28 "StateEndsModel" "keyOf" "[I", Cond.fieldLink RX5 31 "StateEndsModel" "memberOf" "[I", Cond.methodLink RX5 115 yX5_findIn, Cond.instanceMethod yX5_findIn, Cond.selects RX5 yX5_findIn yX5_findIn, Cond.code yX5_findIn cX5_findIn 10 (some .int), Cond.fieldLink RX5 43 "StateEndsModel" "cameOf" "[I", Cond.methodLink RX5 73 yX5_isShown, Cond.instanceMethod yX5_isShown, Cond.selects RX5 yX5_isShown yX5_isShown, Cond.code yX5_isShown cX5_isShown 2 (some .boolean), Cond.fieldLink RX5 40 "StateEndsModel" "endOf" "[I", Cond.methodLink RX5 69 yX5_clockOf, Cond.instanceMethod yX5_clockOf, Cond.selects RX5 yX5_clockOf yX5_clockOf, Cond.code yX5_clockOf cX5_clockOf 2 (some .int)]
def wsX5_asked_r2 : List Cond := [Cond.fieldLink RX5 22 "StateEndsModel" "now" "[I", Cond.fieldLink RX5 13 "StateEndsModel" "clocks" "[I"]
def wsX5_asked : List Cond := .code yX5_asked cX5_asked 5 (some .int) :: ((wsX5_asked_r1 ++ wsX5_asked_r2) ++ wsX50)
def wsX5_left_r1 : List Cond := [Cond.constant RX5 55 (-99999999), Cond.fieldLink RX5 40 "StateEndsModel" "endOf" "[I", Cond.methodLink RX5 119 yX5_isAsked, Cond.instanceMethod yX5_isAsked, Cond.selects RX5 yX5_isAsked yX5_isAsked, Cond.initialized RX5, Cond.code yX5_isAsked cX5_isAsked 4 (some .boolean), Cond.fieldLink RX5 7 "StateEndsModel" "forms" "[I", Cond.methodLink RX5 64 yX5_isState, Cond.instanceMethod yX5_isState, Cond.selects RX5 yX5_isState yX5_isState, Cond.code yX5_isState cX5_isState 2 (some .boolean), Cond.fieldLink RX5 56 "StateEndsModel" "states" "I", Cond.methodLink RX5 60 yX5_isIn, Cond.static yX5_isIn, Cond.code yX5_isIn cX5_isIn 3 (some .boolean), Cond.methodLink RX5 122 yX5_asked, Cond.instanceMethod yX5_asked, Cond.selects RX5 yX5_asked yX5_asked, Cond.code yX5_asked cX5_asked 5 (some .int), Cond.methodLink RX5 93 yX5_find, Cond.instanceMethod yX5_find, Cond.selects RX5 yX5_find yX5_find, Cond.code yX5_find cX5_find 5 (some .int)]
def wsX5_left_r2 : List Cond := [Cond.fieldLink RX5 25 "StateEndsModel" "stateOf" "[I", Cond.fieldLink RX5 28 "StateEndsModel" "keyOf" "[I", Cond.fieldLink RX5 31 "StateEndsModel" "memberOf" "[I", Cond.methodLink RX5 115 yX5_findIn, Cond.instanceMethod yX5_findIn, Cond.selects RX5 yX5_findIn yX5_findIn, Cond.code yX5_findIn cX5_findIn 10 (some .int), Cond.fieldLink RX5 43 "StateEndsModel" "cameOf" "[I", Cond.methodLink RX5 73 yX5_isShown, Cond.instanceMethod yX5_isShown, Cond.selects RX5 yX5_isShown yX5_isShown, Cond.code yX5_isShown cX5_isShown 2 (some .boolean), Cond.methodLink RX5 69 yX5_clockOf, Cond.instanceMethod yX5_clockOf, Cond.selects RX5 yX5_clockOf yX5_clockOf, Cond.code yX5_clockOf cX5_clockOf 2 (some .int), Cond.fieldLink RX5 22 "StateEndsModel" "now" "[I", Cond.fieldLink RX5 13 "StateEndsModel" "clocks" "[I"]
def wsX5_left : List Cond := .code yX5_left cX5_left 5 (some .int) :: ((wsX5_left_r1 ++ wsX5_left_r2) ++ wsX50)
def wsX5_place_r1 : List Cond := [Cond.methodLink RX5 119 yX5_isAsked, Cond.instanceMethod yX5_isAsked, Cond.selects RX5 yX5_isAsked yX5_isAsked, Cond.initialized RX5, Cond.code yX5_isAsked cX5_isAsked 4 (some .boolean), Cond.fieldLink RX5 7 "StateEndsModel" "forms" "[I", Cond.methodLink RX5 64 yX5_isState, Cond.instanceMethod yX5_isState, Cond.selects RX5 yX5_isState yX5_isState, Cond.code yX5_isState cX5_isState 2 (some .boolean), Cond.fieldLink RX5 56 "StateEndsModel" "states" "I", Cond.methodLink RX5 60 yX5_isIn, Cond.static yX5_isIn, Cond.code yX5_isIn cX5_isIn 3 (some .boolean), Cond.methodLink RX5 122 yX5_asked, Cond.instanceMethod yX5_asked, Cond.selects RX5 yX5_asked yX5_asked, Cond.code yX5_asked cX5_asked 5 (some .int), Cond.constant RX5 55 (-99999999), Cond.methodLink RX5 93 yX5_find, Cond.instanceMethod yX5_find, Cond.selects RX5 yX5_find yX5_find, Cond.code yX5_find cX5_find 5 (some .int), Cond.fieldLink RX5 25 "StateEndsModel" "stateOf" "[I"]
def wsX5_place_r2 : List Cond := [Cond.fieldLink RX5 28 "StateEndsModel" "keyOf" "[I", Cond.fieldLink RX5 31 "StateEndsModel" "memberOf" "[I", Cond.methodLink RX5 115 yX5_findIn, Cond.instanceMethod yX5_findIn, Cond.selects RX5 yX5_findIn yX5_findIn, Cond.code yX5_findIn cX5_findIn 10 (some .int), Cond.fieldLink RX5 43 "StateEndsModel" "cameOf" "[I", Cond.methodLink RX5 73 yX5_isShown, Cond.instanceMethod yX5_isShown, Cond.selects RX5 yX5_isShown yX5_isShown, Cond.code yX5_isShown cX5_isShown 2 (some .boolean), Cond.fieldLink RX5 40 "StateEndsModel" "endOf" "[I", Cond.methodLink RX5 69 yX5_clockOf, Cond.instanceMethod yX5_clockOf, Cond.selects RX5 yX5_clockOf yX5_clockOf, Cond.code yX5_clockOf cX5_clockOf 2 (some .int), Cond.fieldLink RX5 22 "StateEndsModel" "now" "[I", Cond.fieldLink RX5 13 "StateEndsModel" "clocks" "[I"]
def wsX5_place : List Cond := .code yX5_place cX5_place 4 (some .int) :: ((wsX5_place_r1 ++ wsX5_place_r2) ++ wsX50)
def wsX5_overs : List Cond := .code yX5_overs cX5_overs 3 (some .int) :: ([.methodLink RX5 128 yX5_isOver, .instanceMethod yX5_isOver, .selects RX5 yX5_isOver yX5_isOver, .initialized RX5, .code yX5_isOver cX5_isOver 2 (some .boolean), .fieldLink RX5 25 "StateEndsModel" "stateOf" "[I", .constant RX5 55 (-99999999), .fieldLink RX5 40 "StateEndsModel" "endOf" "[I", .methodLink RX5 69 yX5_clockOf, .instanceMethod yX5_clockOf, .selects RX5 yX5_clockOf yX5_clockOf, .code yX5_clockOf cX5_clockOf 2 (some .int), .fieldLink RX5 22 "StateEndsModel" "now" "[I", .fieldLink RX5 13 "StateEndsModel" "clocks" "[I"] ++ wsX50)
def wsX5_comes : List Cond := .code yX5_comes cX5_comes 4 (some .int) :: ([.fieldLink RX5 22 "StateEndsModel" "now" "[I", .methodLink RX5 125 yX5_overs, .instanceMethod yX5_overs, .selects RX5 yX5_overs yX5_overs, .initialized RX5, .code yX5_overs cX5_overs 3 (some .int), .methodLink RX5 128 yX5_isOver, .instanceMethod yX5_isOver, .selects RX5 yX5_isOver yX5_isOver, .code yX5_isOver cX5_isOver 2 (some .boolean), .fieldLink RX5 25 "StateEndsModel" "stateOf" "[I", .constant RX5 55 (-99999999), .fieldLink RX5 40 "StateEndsModel" "endOf" "[I", .methodLink RX5 69 yX5_clockOf, .instanceMethod yX5_clockOf, .selects RX5 yX5_clockOf yX5_clockOf, .code yX5_clockOf cX5_clockOf 2 (some .int), .fieldLink RX5 13 "StateEndsModel" "clocks" "[I"] ++ wsX50)
def wsX5_tick_r1 : List Cond := [Cond.constant RX5 68 (100000), Cond.fieldLink RX5 22 "StateEndsModel" "now" "[I", Cond.constant RX5 131 (1000000000), Cond.methodLink RX5 60 yX5_isIn, Cond.static yX5_isIn, Cond.initialized RX5, Cond.code yX5_isIn cX5_isIn 3 (some .boolean), Cond.methodLink RX5 132 yX5_comes, Cond.instanceMethod yX5_comes, Cond.selects RX5 yX5_comes yX5_comes, Cond.code yX5_comes cX5_comes 4 (some .int), Cond.methodLink RX5 125 yX5_overs, Cond.instanceMethod yX5_overs, Cond.selects RX5 yX5_overs yX5_overs, Cond.code yX5_overs cX5_overs 3 (some .int), Cond.methodLink RX5 128 yX5_isOver, Cond.instanceMethod yX5_isOver, Cond.selects RX5 yX5_isOver yX5_isOver, Cond.code yX5_isOver cX5_isOver 2 (some .boolean), Cond.fieldLink RX5 25 "StateEndsModel" "stateOf" "[I", Cond.constant RX5 55 (-99999999), Cond.fieldLink RX5 40 "StateEndsModel" "endOf" "[I", Cond.methodLink RX5 69 yX5_clockOf, Cond.instanceMethod yX5_clockOf]
def wsX5_tick_r2 : List Cond := [Cond.selects RX5 yX5_clockOf yX5_clockOf, Cond.code yX5_clockOf cX5_clockOf 2 (some .int), Cond.fieldLink RX5 13 "StateEndsModel" "clocks" "[I"]
def wsX5_tick : List Cond := .code yX5_tick cX5_tick 2 (some .int) :: ((wsX5_tick_r1 ++ wsX5_tick_r2) ++ wsX50)
def wsX5_watermark_r1 : List Cond := [Cond.constant RX5 131 (1000000000), Cond.fieldLink RX5 22 "StateEndsModel" "now" "[I", Cond.methodLink RX5 60 yX5_isIn, Cond.static yX5_isIn, Cond.initialized RX5, Cond.code yX5_isIn cX5_isIn 3 (some .boolean), Cond.methodLink RX5 132 yX5_comes, Cond.instanceMethod yX5_comes, Cond.selects RX5 yX5_comes yX5_comes, Cond.code yX5_comes cX5_comes 4 (some .int), Cond.methodLink RX5 125 yX5_overs, Cond.instanceMethod yX5_overs, Cond.selects RX5 yX5_overs yX5_overs, Cond.code yX5_overs cX5_overs 3 (some .int), Cond.methodLink RX5 128 yX5_isOver, Cond.instanceMethod yX5_isOver, Cond.selects RX5 yX5_isOver yX5_isOver, Cond.code yX5_isOver cX5_isOver 2 (some .boolean), Cond.fieldLink RX5 25 "StateEndsModel" "stateOf" "[I", Cond.constant RX5 55 (-99999999), Cond.fieldLink RX5 40 "StateEndsModel" "endOf" "[I", Cond.methodLink RX5 69 yX5_clockOf, Cond.instanceMethod yX5_clockOf, Cond.selects RX5 yX5_clockOf yX5_clockOf]
def wsX5_watermark_r2 : List Cond := [Cond.code yX5_clockOf cX5_clockOf 2 (some .int), Cond.fieldLink RX5 13 "StateEndsModel" "clocks" "[I"]
def wsX5_watermark : List Cond := .code yX5_watermark cX5_watermark 2 (some .int) :: ((wsX5_watermark_r1 ++ wsX5_watermark_r2) ++ wsX50)
def wsX5_sweep_r1 : List Cond := [Cond.fieldLink RX5 136 "StateEndsModel" "sweepAt" "I", Cond.fieldLink RX5 25 "StateEndsModel" "stateOf" "[I", Cond.constant RX5 55 (-99999999), Cond.methodLink RX5 60 yX5_isIn, Cond.static yX5_isIn, Cond.initialized RX5, Cond.code yX5_isIn cX5_isIn 3 (some .boolean), Cond.methodLink RX5 128 yX5_isOver, Cond.instanceMethod yX5_isOver, Cond.selects RX5 yX5_isOver yX5_isOver, Cond.code yX5_isOver cX5_isOver 2 (some .boolean), Cond.fieldLink RX5 40 "StateEndsModel" "endOf" "[I", Cond.methodLink RX5 69 yX5_clockOf, Cond.instanceMethod yX5_clockOf, Cond.selects RX5 yX5_clockOf yX5_clockOf, Cond.code yX5_clockOf cX5_clockOf 2 (some .int), Cond.fieldLink RX5 22 "StateEndsModel" "now" "[I", Cond.fieldLink RX5 13 "StateEndsModel" "clocks" "[I", Cond.methodLink RX5 101 yX5_tells, Cond.instanceMethod yX5_tells, Cond.selects RX5 yX5_tells yX5_tells, Cond.code yX5_tells cX5_tells 3 none, Cond.fieldLink RX5 83 "StateEndsModel" "rowMany" "I", Cond.fieldLink RX5 46 "StateEndsModel" "rows" "[I"]
def wsX5_sweep_r2 : List Cond := [Cond.fieldLink RX5 28 "StateEndsModel" "keyOf" "[I", Cond.fieldLink RX5 31 "StateEndsModel" "memberOf" "[I", Cond.fieldLink RX5 34 "StateEndsModel" "numberOf" "[I", Cond.fieldLink RX5 86 "StateEndsModel" "rowsEver" "I"]
def wsX5_sweep : List Cond := .code yX5_sweep cX5_sweep 4 (some .int) :: ((wsX5_sweep_r1 ++ wsX5_sweep_r2) ++ wsX50)
def wsX5_setting_r1 : List Cond := [Cond.constant RX5 68 (100000), Cond.fieldLink RX5 16 "StateEndsModel" "spans" "[I", Cond.fieldLink RX5 25 "StateEndsModel" "stateOf" "[I", Cond.fieldLink RX5 40 "StateEndsModel" "endOf" "[I", Cond.fieldLink RX5 37 "StateEndsModel" "stampOf" "[I", Cond.methodLink RX5 64 yX5_isState, Cond.instanceMethod yX5_isState, Cond.selects RX5 yX5_isState yX5_isState, Cond.initialized RX5, Cond.code yX5_isState cX5_isState 2 (some .boolean), Cond.fieldLink RX5 56 "StateEndsModel" "states" "I", Cond.methodLink RX5 60 yX5_isIn, Cond.static yX5_isIn, Cond.code yX5_isIn cX5_isIn 3 (some .boolean), Cond.methodLink RX5 73 yX5_isShown, Cond.instanceMethod yX5_isShown, Cond.selects RX5 yX5_isShown yX5_isShown, Cond.code yX5_isShown cX5_isShown 2 (some .boolean), Cond.constant RX5 55 (-99999999), Cond.methodLink RX5 69 yX5_clockOf, Cond.instanceMethod yX5_clockOf, Cond.selects RX5 yX5_clockOf yX5_clockOf, Cond.code yX5_clockOf cX5_clockOf 2 (some .int), Cond.fieldLink RX5 22 "StateEndsModel" "now" "[I"]
def wsX5_setting_r2 : List Cond := [Cond.fieldLink RX5 13 "StateEndsModel" "clocks" "[I"]
def wsX5_setting : List Cond := .code yX5_setting cX5_setting 6 (some .int) :: ((wsX5_setting_r1 ++ wsX5_setting_r2) ++ wsX50)
def wsX5_isAhead : List Cond := .code yX5_isAhead cX5_isAhead 3 (some .boolean) :: ([.fieldLink RX5 25 "StateEndsModel" "stateOf" "[I", .fieldLink RX5 28 "StateEndsModel" "keyOf" "[I", .fieldLink RX5 31 "StateEndsModel" "memberOf" "[I", .fieldLink RX5 43 "StateEndsModel" "cameOf" "[I"] ++ wsX50)
def wsX5_nextKept : List Cond := .code yX5_nextKept cX5_nextKept 4 (some .int) :: ([.constant RX5 55 (-99999999), .methodLink RX5 73 yX5_isShown, .instanceMethod yX5_isShown, .selects RX5 yX5_isShown yX5_isShown, .initialized RX5, .code yX5_isShown cX5_isShown 2 (some .boolean), .fieldLink RX5 25 "StateEndsModel" "stateOf" "[I", .fieldLink RX5 40 "StateEndsModel" "endOf" "[I", .methodLink RX5 69 yX5_clockOf, .instanceMethod yX5_clockOf, .selects RX5 yX5_clockOf yX5_clockOf, .code yX5_clockOf cX5_clockOf 2 (some .int), .fieldLink RX5 22 "StateEndsModel" "now" "[I", .fieldLink RX5 13 "StateEndsModel" "clocks" "[I", .methodLink RX5 142 yX5_isAhead, .instanceMethod yX5_isAhead, .selects RX5 yX5_isAhead yX5_isAhead, .code yX5_isAhead cX5_isAhead 3 (some .boolean), .fieldLink RX5 28 "StateEndsModel" "keyOf" "[I", .fieldLink RX5 31 "StateEndsModel" "memberOf" "[I", .fieldLink RX5 43 "StateEndsModel" "cameOf" "[I"] ++ wsX50)
def wsX5_mark_r1 : List Cond := [Cond.constant RX5 55 (-99999999), Cond.fieldLink RX5 52 "StateEndsModel" "marks" "[I", Cond.fieldLink RX5 25 "StateEndsModel" "stateOf" "[I", Cond.fieldLink RX5 28 "StateEndsModel" "keyOf" "[I", Cond.fieldLink RX5 31 "StateEndsModel" "memberOf" "[I", Cond.fieldLink RX5 34 "StateEndsModel" "numberOf" "[I", Cond.fieldLink RX5 40 "StateEndsModel" "endOf" "[I", Cond.fieldLink RX5 49 "StateEndsModel" "markMany" "[I", Cond.methodLink RX5 60 yX5_isIn, Cond.static yX5_isIn, Cond.initialized RX5, Cond.code yX5_isIn cX5_isIn 3 (some .boolean), Cond.methodLink RX5 139 yX5_nextKept, Cond.instanceMethod yX5_nextKept, Cond.selects RX5 yX5_nextKept yX5_nextKept, Cond.code yX5_nextKept cX5_nextKept 4 (some .int), Cond.methodLink RX5 73 yX5_isShown, Cond.instanceMethod yX5_isShown, Cond.selects RX5 yX5_isShown yX5_isShown, Cond.code yX5_isShown cX5_isShown 2 (some .boolean), Cond.methodLink RX5 69 yX5_clockOf, Cond.instanceMethod yX5_clockOf, Cond.selects RX5 yX5_clockOf yX5_clockOf, Cond.code yX5_clockOf cX5_clockOf 2 (some .int)]
def wsX5_mark_r2 : List Cond := [Cond.fieldLink RX5 22 "StateEndsModel" "now" "[I", Cond.fieldLink RX5 13 "StateEndsModel" "clocks" "[I", Cond.methodLink RX5 142 yX5_isAhead, Cond.instanceMethod yX5_isAhead, Cond.selects RX5 yX5_isAhead yX5_isAhead, Cond.code yX5_isAhead cX5_isAhead 3 (some .boolean), Cond.fieldLink RX5 43 "StateEndsModel" "cameOf" "[I"]
def wsX5_mark : List Cond := .code yX5_mark cX5_mark 5 (some .int) :: ((wsX5_mark_r1 ++ wsX5_mark_r2) ++ wsX50)
def wsX5_restore_r1 : List Cond := [Cond.fieldLink RX5 49 "StateEndsModel" "markMany" "[I", Cond.constant RX5 55 (-99999999), Cond.fieldLink RX5 25 "StateEndsModel" "stateOf" "[I", Cond.fieldLink RX5 52 "StateEndsModel" "marks" "[I", Cond.fieldLink RX5 40 "StateEndsModel" "endOf" "[I", Cond.fieldLink RX5 37 "StateEndsModel" "stampOf" "[I", Cond.fieldLink RX5 136 "StateEndsModel" "sweepAt" "I", Cond.methodLink RX5 60 yX5_isIn, Cond.static yX5_isIn, Cond.initialized RX5, Cond.code yX5_isIn cX5_isIn 3 (some .boolean), Cond.methodLink RX5 104 yX5_writes, Cond.instanceMethod yX5_writes, Cond.selects RX5 yX5_writes yX5_writes, Cond.code yX5_writes cX5_writes 6 none, Cond.fieldLink RX5 28 "StateEndsModel" "keyOf" "[I", Cond.fieldLink RX5 31 "StateEndsModel" "memberOf" "[I", Cond.fieldLink RX5 34 "StateEndsModel" "numberOf" "[I", Cond.fieldLink RX5 76 "StateEndsModel" "came" "I", Cond.fieldLink RX5 43 "StateEndsModel" "cameOf" "[I", Cond.methodLink RX5 79 yX5_stamps, Cond.instanceMethod yX5_stamps, Cond.selects RX5 yX5_stamps yX5_stamps, Cond.code yX5_stamps cX5_stamps 3 none]
def wsX5_restore_r2 : List Cond := [Cond.fieldLink RX5 22 "StateEndsModel" "now" "[I", Cond.fieldLink RX5 13 "StateEndsModel" "clocks" "[I", Cond.fieldLink RX5 16 "StateEndsModel" "spans" "[I"]
def wsX5_restore : List Cond := .code yX5_restore cX5_restore 4 (some .int) :: ((wsX5_restore_r1 ++ wsX5_restore_r2) ++ wsX50)
def wsX5_row : List Cond := .code yX5_row cX5_row 3 (some .int) :: ([.fieldLink RX5 83 "StateEndsModel" "rowMany" "I", .fieldLink RX5 46 "StateEndsModel" "rows" "[I", .constant RX5 55 (-99999999), .methodLink RX5 60 yX5_isIn, .static yX5_isIn, .initialized RX5, .code yX5_isIn cX5_isIn 3 (some .boolean)] ++ wsX50)
def wsX5_next : List Cond := .code yX5_next cX5_next 4 (some .int) :: ([.constant RX5 55 (-99999999), .fieldLink RX5 25 "StateEndsModel" "stateOf" "[I", .fieldLink RX5 40 "StateEndsModel" "endOf" "[I", .methodLink RX5 64 yX5_isState, .instanceMethod yX5_isState, .selects RX5 yX5_isState yX5_isState, .initialized RX5, .code yX5_isState cX5_isState 2 (some .boolean), .fieldLink RX5 56 "StateEndsModel" "states" "I", .methodLink RX5 60 yX5_isIn, .static yX5_isIn, .code yX5_isIn cX5_isIn 3 (some .boolean), .methodLink RX5 73 yX5_isShown, .instanceMethod yX5_isShown, .selects RX5 yX5_isShown yX5_isShown, .code yX5_isShown cX5_isShown 2 (some .boolean), .methodLink RX5 69 yX5_clockOf, .instanceMethod yX5_clockOf, .selects RX5 yX5_clockOf yX5_clockOf, .code yX5_clockOf cX5_clockOf 2 (some .int), .fieldLink RX5 22 "StateEndsModel" "now" "[I", .fieldLink RX5 13 "StateEndsModel" "clocks" "[I"] ++ wsX50)
def wsX5_count : List Cond := .code yX5_count cX5_count 5 (some .int) :: ([.fieldLink RX5 25 "StateEndsModel" "stateOf" "[I", .constant RX5 55 (-99999999), .fieldLink RX5 56 "StateEndsModel" "states" "I", .fieldLink RX5 83 "StateEndsModel" "rowMany" "I", .fieldLink RX5 86 "StateEndsModel" "rowsEver" "I", .fieldLink RX5 22 "StateEndsModel" "now" "[I", .fieldLink RX5 136 "StateEndsModel" "sweepAt" "I", .methodLink RX5 73 yX5_isShown, .instanceMethod yX5_isShown, .selects RX5 yX5_isShown yX5_isShown, .initialized RX5, .code yX5_isShown cX5_isShown 2 (some .boolean), .fieldLink RX5 40 "StateEndsModel" "endOf" "[I", .methodLink RX5 69 yX5_clockOf, .instanceMethod yX5_clockOf, .selects RX5 yX5_clockOf yX5_clockOf, .code yX5_clockOf cX5_clockOf 2 (some .int), .fieldLink RX5 13 "StateEndsModel" "clocks" "[I"] ++ wsX50)
def wsL_law_r1 : List Cond := [Cond.classLink RL 7 RX4, Cond.instantiable RX4 5, Cond.initialized RX4, Cond.classLink RL 10 RX5, Cond.instantiable RX5 20, Cond.initialized RX5, Cond.methodLink RL 9 yX4_init, Cond.instanceMethod yX4_init, Cond.code yX4_init cX4_init 1 none, Cond.methodLink RX4 3 objectInit, Cond.instanceMethod objectInit, Cond.code objectInit ⟨#[0xb1]⟩ 1 none, Cond.classLink RX4 9 RX3, Cond.instantiable RX3 6, Cond.initialized RX3, Cond.fieldLink RX4 12 "StateEnds" "states" "LStateEnds$States;", Cond.classLink RX4 16 RX1, Cond.instantiable RX1 6, Cond.initialized RX1, Cond.fieldLink RX4 19 "StateEnds" "places" "LStateEnds$Places;", Cond.classLink RX4 23 RX2, Cond.instantiable RX2 4, Cond.initialized RX2, Cond.fieldLink RX4 26 "StateEnds" "rows" "LStateEnds$Rows;"]
def wsL_law_r2 : List Cond := [Cond.classLink RX4 30 RX0, Cond.instantiable RX0 4, Cond.initialized RX0, Cond.fieldLink RX4 33 "StateEnds" "marks" "LStateEnds$Marks;", Cond.fieldLink RX4 37 "StateEnds" "sweepFrom" "I", Cond.instanceMethod yX3_init, Cond.code yX3_init cX3_init 1 none, Cond.methodLink RX3 3 objectInit, Cond.arrayClass .int, Cond.fieldLink RX3 9 "StateEnds$States" "forms" "[I", Cond.fieldLink RX3 15 "StateEnds$States" "clocks" "[I", Cond.fieldLink RX3 18 "StateEnds$States" "spans" "[I", Cond.fieldLink RX3 21 "StateEnds$States" "ways" "[I", Cond.fieldLink RX3 24 "StateEnds$States" "times" "[I", Cond.fieldLink RX3 27 "StateEnds$States" "made" "I", Cond.methodLink RX4 18 yX1_init, Cond.instanceMethod yX1_init, Cond.code yX1_init cX1_init 1 none, Cond.methodLink RX1 3 objectInit, Cond.fieldLink RX1 9 "StateEnds$Places" "slots" "[I", Cond.fieldLink RX1 15 "StateEnds$Places" "numbers" "[I", Cond.fieldLink RX1 18 "StateEnds$Places" "stamps" "[I", Cond.fieldLink RX1 21 "StateEnds$Places" "ends" "[I", Cond.fieldLink RX1 24 "StateEnds$Places" "line" "[I"]
def wsL_law_r3 : List Cond := [Cond.fieldLink RX1 27 "StateEnds$Places" "taken" "I", Cond.methodLink RX1 31 yJ7_fill_53178, Cond.static yJ7_fill_53178, Cond.initialized RJ7, Cond.code yJ7_fill_53178 cJ7_fill_53178 4 none, Cond.instanceMethod yX2_init, Cond.code yX2_init cX2_init 1 none, Cond.methodLink RX2 3 objectInit, Cond.fieldLink RX2 9 "StateEnds$Rows" "cells" "[I", Cond.fieldLink RX2 15 "StateEnds$Rows" "first" "I", Cond.fieldLink RX2 19 "StateEnds$Rows" "kept" "I", Cond.fieldLink RX2 22 "StateEnds$Rows" "ever" "I", Cond.methodLink RX4 32 yX0_init, Cond.instanceMethod yX0_init, Cond.code yX0_init cX0_init 1 none, Cond.methodLink RX0 3 objectInit, Cond.fieldLink RX0 9 "StateEnds$Marks" "slots" "[I", Cond.fieldLink RX0 15 "StateEnds$Marks" "numbers" "[I", Cond.fieldLink RX0 18 "StateEnds$Marks" "lefts" "[I", Cond.fieldLink RX0 21 "StateEnds$Marks" "sizes" "[I", Cond.methodLink RX0 24 yJ7_fill_53178, Cond.methodLink RL 12 yX5_init, Cond.instanceMethod yX5_init, Cond.code yX5_init cX5_init 2 none]
def wsL_law_r4 : List Cond := [Cond.methodLink RX5 1 objectInit, Cond.fieldLink RX5 7 "StateEndsModel" "forms" "[I", Cond.fieldLink RX5 13 "StateEndsModel" "clocks" "[I", Cond.fieldLink RX5 16 "StateEndsModel" "spans" "[I", Cond.fieldLink RX5 19 "StateEndsModel" "ways" "[I", Cond.fieldLink RX5 22 "StateEndsModel" "now" "[I", Cond.fieldLink RX5 25 "StateEndsModel" "stateOf" "[I", Cond.fieldLink RX5 28 "StateEndsModel" "keyOf" "[I", Cond.fieldLink RX5 31 "StateEndsModel" "memberOf" "[I", Cond.fieldLink RX5 34 "StateEndsModel" "numberOf" "[I", Cond.fieldLink RX5 37 "StateEndsModel" "stampOf" "[I", Cond.fieldLink RX5 40 "StateEndsModel" "endOf" "[I", Cond.fieldLink RX5 43 "StateEndsModel" "cameOf" "[I", Cond.fieldLink RX5 46 "StateEndsModel" "rows" "[I", Cond.fieldLink RX5 49 "StateEndsModel" "markMany" "[I", Cond.fieldLink RX5 52 "StateEndsModel" "marks" "[I", Cond.constant RX5 55 (-99999999), Cond.methodLink RL 13 yX4_state, Cond.instanceMethod yX4_state, Cond.selects RX4 yX4_state yX4_state, Cond.code yX4_state cX4_state 5 (some .int), Cond.fieldLink RX4 48 "StateEnds$States" "made" "I", Cond.methodLink RX4 41 yX4_isZeroOrOne, Cond.static yX4_isZeroOrOne]
def wsL_law_r5 : List Cond := [Cond.code yX4_isZeroOrOne cX4_isZeroOrOne 1 (some .boolean), Cond.methodLink RX4 45 yX4_isSpan, Cond.static yX4_isSpan, Cond.code yX4_isSpan cX4_isSpan 1 (some .boolean), Cond.constant RX4 118 (100000), Cond.methodLink RX4 51 yX3_make, Cond.instanceMethod yX3_make, Cond.selects RX3 yX3_make yX3_make, Cond.code yX3_make cX3_make 6 (some .int), Cond.methodLink RL 17 yX5_state, Cond.instanceMethod yX5_state, Cond.selects RX5 yX5_state yX5_state, Cond.code yX5_state cX5_state 5 (some .int), Cond.constant RX5 68 (100000), Cond.fieldLink RX5 56 "StateEndsModel" "states" "I", Cond.methodLink RX5 60 yX5_isIn, Cond.static yX5_isIn, Cond.code yX5_isIn cX5_isIn 3 (some .boolean), Cond.methodLink RL 18 yX4_put, Cond.instanceMethod yX4_put, Cond.selects RX4 yX4_put yX4_put, Cond.code yX4_put cX4_put 8 (some .int), Cond.methodLink RX4 55 yX4_isNumberFor, Cond.instanceMethod yX4_isNumberFor]
def wsL_law_r6 : List Cond := [Cond.selects RX4 yX4_isNumberFor yX4_isNumberFor, Cond.code yX4_isNumberFor cX4_isNumberFor 4 (some .boolean), Cond.methodLink RX4 95 yX4_isStateAndKey, Cond.instanceMethod yX4_isStateAndKey, Cond.selects RX4 yX4_isStateAndKey yX4_isStateAndKey, Cond.code yX4_isStateAndKey cX4_isStateAndKey 3 (some .boolean), Cond.methodLink RX4 127 yX3_has, Cond.instanceMethod yX3_has, Cond.selects RX3 yX3_has yX3_has, Cond.code yX3_has cX3_has 2 (some .boolean), Cond.methodLink RX4 197 yX3_isList, Cond.instanceMethod yX3_isList, Cond.selects RX3 yX3_isList yX3_isList, Cond.code yX3_isList cX3_isList 2 (some .boolean), Cond.methodLink RX4 200 yX4_isMember, Cond.static yX4_isMember, Cond.code yX4_isMember cX4_isMember 1 (some .boolean), Cond.methodLink RX4 59 yX4_slotOf, Cond.static yX4_slotOf, Cond.code yX4_slotOf cX4_slotOf 3 (some .int), Cond.methodLink RX4 63 yX4_placeOf, Cond.instanceMethod yX4_placeOf, Cond.selects RX4 yX4_placeOf yX4_placeOf, Cond.code yX4_placeOf cX4_placeOf 7 (some .int)]
def wsL_law_r7 : List Cond := [Cond.fieldLink RX4 142 "StateEnds$Places" "taken" "I", Cond.fieldLink RX4 145 "StateEnds$Places" "line" "[I", Cond.fieldLink RX4 148 "StateEnds$Places" "slots" "[I", Cond.methodLink RX4 71 yX4_isShown, Cond.instanceMethod yX4_isShown, Cond.selects RX4 yX4_isShown yX4_isShown, Cond.code yX4_isShown cX4_isShown 2 (some .boolean), Cond.methodLink RX4 115 yX4_leftOf, Cond.instanceMethod yX4_leftOf, Cond.selects RX4 yX4_leftOf yX4_leftOf, Cond.code yX4_leftOf cX4_leftOf 2 (some .int), Cond.fieldLink RX4 187 "StateEnds$Places" "ends" "[I", Cond.methodLink RX4 184 yX1_stateAt, Cond.instanceMethod yX1_stateAt, Cond.selects RX1 yX1_stateAt yX1_stateAt, Cond.code yX1_stateAt cX1_stateAt 2 (some .int), Cond.methodLink RX4 206 yX3_timeOf, Cond.instanceMethod yX3_timeOf, Cond.selects RX3 yX3_timeOf yX3_timeOf, Cond.code yX3_timeOf cX3_timeOf 2 (some .int), Cond.methodLink RX4 67 yX4_bring, Cond.instanceMethod yX4_bring, Cond.selects RX4 yX4_bring yX4_bring, Cond.code yX4_bring cX4_bring 4 (some .boolean)]
def wsL_law_r8 : List Cond := [Cond.methodLink RX4 209 yX1_leastFree, Cond.instanceMethod yX1_leastFree, Cond.selects RX1 yX1_leastFree yX1_leastFree, Cond.code yX1_leastFree cX1_leastFree 2 (some .int), Cond.methodLink RX1 37 yX1_isTaken, Cond.instanceMethod yX1_isTaken, Cond.selects RX1 yX1_isTaken yX1_isTaken, Cond.code yX1_isTaken cX1_isTaken 2 (some .boolean), Cond.methodLink RX4 168 yX1_take, Cond.instanceMethod yX1_take, Cond.selects RX1 yX1_take yX1_take, Cond.code yX1_take cX1_take 4 none, Cond.methodLink RX4 78 yX4_write, Cond.instanceMethod yX4_write, Cond.selects RX4 yX4_write yX4_write, Cond.code yX4_write cX4_write 3 none, Cond.fieldLink RX4 151 "StateEnds$Places" "numbers" "[I", Cond.fieldLink RX4 130 "StateEnds$States" "spans" "[I", Cond.methodLink RX4 175 yX4_stamp, Cond.instanceMethod yX4_stamp, Cond.selects RX4 yX4_stamp yX4_stamp, Cond.code yX4_stamp cX4_stamp 4 none, Cond.fieldLink RX4 212 "StateEnds$Places" "stamps" "[I", Cond.methodLink RX4 74 yX4_tell]
def wsL_law_r9 : List Cond := [Cond.instanceMethod yX4_tell, Cond.selects RX4 yX4_tell yX4_tell, Cond.code yX4_tell cX4_tell 3 none, Cond.fieldLink RX4 220 "StateEnds$Rows" "cells" "[I", Cond.fieldLink RX4 119 "StateEnds$States" "times" "[I", Cond.methodLink RX4 218 yX2_begin, Cond.instanceMethod yX2_begin, Cond.selects RX2 yX2_begin yX2_begin, Cond.code yX2_begin cX2_begin 1 (some .int), Cond.methodLink RX2 25 yX2_indexOf, Cond.instanceMethod yX2_indexOf, Cond.selects RX2 yX2_indexOf yX2_indexOf, Cond.code yX2_indexOf cX2_indexOf 2 (some .int), Cond.methodLink RX4 203 yX1_keyAt, Cond.instanceMethod yX1_keyAt, Cond.selects RX1 yX1_keyAt yX1_keyAt, Cond.code yX1_keyAt cX1_keyAt 2 (some .int), Cond.methodLink RX4 223 yX1_memberAt, Cond.instanceMethod yX1_memberAt, Cond.selects RX1 yX1_memberAt yX1_memberAt, Cond.code yX1_memberAt cX1_memberAt 2 (some .int), Cond.methodLink RL 21 yX5_put, Cond.instanceMethod yX5_put, Cond.selects RX5 yX5_put yX5_put]
def wsL_law_r10 : List Cond := [Cond.code yX5_put cX5_put 7 (some .int), Cond.methodLink RX5 89 yX5_isForm, Cond.instanceMethod yX5_isForm, Cond.selects RX5 yX5_isForm yX5_isForm, Cond.code yX5_isForm cX5_isForm 3 (some .boolean), Cond.methodLink RX5 64 yX5_isState, Cond.instanceMethod yX5_isState, Cond.selects RX5 yX5_isState yX5_isState, Cond.code yX5_isState cX5_isState 2 (some .boolean), Cond.methodLink RX5 93 yX5_find, Cond.instanceMethod yX5_find, Cond.selects RX5 yX5_find yX5_find, Cond.code yX5_find cX5_find 5 (some .int), Cond.methodLink RX5 73 yX5_isShown, Cond.instanceMethod yX5_isShown, Cond.selects RX5 yX5_isShown yX5_isShown, Cond.code yX5_isShown cX5_isShown 2 (some .boolean), Cond.methodLink RX5 69 yX5_clockOf, Cond.instanceMethod yX5_clockOf, Cond.selects RX5 yX5_clockOf yX5_clockOf, Cond.code yX5_clockOf cX5_clockOf 2 (some .int), Cond.methodLink RX5 97 yX5_free, Cond.instanceMethod yX5_free, Cond.selects RX5 yX5_free yX5_free]
def wsL_law_r11 : List Cond := [Cond.code yX5_free cX5_free 2 (some .int), Cond.methodLink RX5 101 yX5_tells, Cond.instanceMethod yX5_tells, Cond.selects RX5 yX5_tells yX5_tells, Cond.code yX5_tells cX5_tells 3 none, Cond.fieldLink RX5 83 "StateEndsModel" "rowMany" "I", Cond.fieldLink RX5 86 "StateEndsModel" "rowsEver" "I", Cond.methodLink RX5 104 yX5_writes, Cond.instanceMethod yX5_writes, Cond.selects RX5 yX5_writes yX5_writes, Cond.code yX5_writes cX5_writes 6 none, Cond.fieldLink RX5 76 "StateEndsModel" "came" "I", Cond.methodLink RX5 79 yX5_stamps, Cond.instanceMethod yX5_stamps, Cond.selects RX5 yX5_stamps yX5_stamps, Cond.code yX5_stamps cX5_stamps 3 none, Cond.methodLink RL 22 yX4_get, Cond.instanceMethod yX4_get, Cond.selects RX4 yX4_get yX4_get, Cond.code yX4_get cX4_get 4 (some .int), Cond.methodLink RX4 82 yX4_read, Cond.instanceMethod yX4_read, Cond.selects RX4 yX4_read yX4_read, Cond.code yX4_read cX4_read 3 (some .int)]
def wsL_law_r12 : List Cond := [Cond.constant RX4 114 (-99999999), Cond.methodLink RX4 215 yX3_isStampedByReads, Cond.instanceMethod yX3_isStampedByReads, Cond.selects RX3 yX3_isStampedByReads yX3_isStampedByReads, Cond.code yX3_isStampedByReads cX3_isStampedByReads 2 (some .boolean), Cond.methodLink RL 26 yX5_get, Cond.instanceMethod yX5_get, Cond.selects RX5 yX5_get yX5_get, Cond.code yX5_get cX5_get 5 (some .int), Cond.methodLink RX5 108 yX5_read, Cond.instanceMethod yX5_read, Cond.selects RX5 yX5_read yX5_read, Cond.code yX5_read cX5_read 2 (some .int), Cond.methodLink RL 27 yX4_remove, Cond.instanceMethod yX4_remove, Cond.selects RX4 yX4_remove yX4_remove, Cond.code yX4_remove cX4_remove 6 (some .int), Cond.methodLink RX4 86 yX1_vacate, Cond.instanceMethod yX1_vacate, Cond.selects RX1 yX1_vacate yX1_vacate, Cond.code yX1_vacate cX1_vacate 4 none, Cond.methodLink RL 30 yX5_remove, Cond.instanceMethod yX5_remove, Cond.selects RX5 yX5_remove yX5_remove]
def wsL_law_r13 : List Cond := [Cond.code yX5_remove cX5_remove 6 (some .int), Cond.methodLink RL 31 yX4_add, Cond.instanceMethod yX4_add, Cond.selects RX4 yX4_add yX4_add, Cond.code yX4_add cX4_add 4 (some .int), Cond.methodLink RX4 89 yX4_isListFor, Cond.instanceMethod yX4_isListFor, Cond.selects RX4 yX4_isListFor yX4_isListFor, Cond.code yX4_isListFor cX4_isListFor 3 (some .boolean), Cond.methodLink RX4 92 yX4_howMany, Cond.instanceMethod yX4_howMany, Cond.selects RX4 yX4_howMany yX4_howMany, Cond.code yX4_howMany cX4_howMany 7 (some .int), Cond.methodLink RX4 101 yX4_isOfKey, Cond.instanceMethod yX4_isOfKey, Cond.selects RX4 yX4_isOfKey yX4_isOfKey, Cond.code yX4_isOfKey cX4_isOfKey 4 (some .boolean), Cond.methodLink RL 34 yX5_add, Cond.instanceMethod yX5_add, Cond.selects RX5 yX5_add yX5_add, Cond.code yX5_add cX5_add 5 (some .int), Cond.methodLink RX5 111 yX5_held, Cond.instanceMethod yX5_held, Cond.selects RX5 yX5_held yX5_held]
def wsL_law_r14 : List Cond := [Cond.code yX5_held cX5_held 6 (some .int), Cond.methodLink RL 35 yX4_at, Cond.instanceMethod yX4_at, Cond.selects RX4 yX4_at yX4_at, Cond.code yX4_at cX4_at 4 (some .int), Cond.methodLink RL 38 yX5_at, Cond.instanceMethod yX5_at, Cond.selects RX5 yX5_at yX5_at, Cond.code yX5_at cX5_at 5 (some .int), Cond.methodLink RX5 115 yX5_findIn, Cond.instanceMethod yX5_findIn, Cond.selects RX5 yX5_findIn yX5_findIn, Cond.code yX5_findIn cX5_findIn 10 (some .int), Cond.methodLink RL 39 yX4_clear, Cond.instanceMethod yX4_clear, Cond.selects RX4 yX4_clear yX4_clear, Cond.code yX4_clear cX4_clear 5 (some .int), Cond.methodLink RX4 98 yX1_isTaken, Cond.methodLink RL 43 yX5_clear, Cond.instanceMethod yX5_clear, Cond.selects RX5 yX5_clear yX5_clear, Cond.code yX5_clear cX5_clear 5 (some .int), Cond.methodLink RL 44 yX4_held, Cond.instanceMethod yX4_held]
def wsL_law_r15 : List Cond := [Cond.selects RX4 yX4_held yX4_held, Cond.code yX4_held cX4_held 4 (some .int), Cond.methodLink RL 48 yX5_held, Cond.methodLink RL 49 yX4_left, Cond.instanceMethod yX4_left, Cond.selects RX4 yX4_left yX4_left, Cond.code yX4_left cX4_left 5 (some .int), Cond.methodLink RX4 104 yX4_isMemberOrIndexFor, Cond.instanceMethod yX4_isMemberOrIndexFor, Cond.selects RX4 yX4_isMemberOrIndexFor yX4_isMemberOrIndexFor, Cond.code yX4_isMemberOrIndexFor cX4_isMemberOrIndexFor 4 (some .boolean), Cond.methodLink RX4 107 yX4_slotFor, Cond.instanceMethod yX4_slotFor, Cond.selects RX4 yX4_slotFor yX4_slotFor, Cond.code yX4_slotFor cX4_slotFor 4 (some .int), Cond.methodLink RX4 110 yX4_indexFor, Cond.instanceMethod yX4_indexFor, Cond.selects RX4 yX4_indexFor yX4_indexFor, Cond.code yX4_indexFor cX4_indexFor 3 (some .int), Cond.methodLink RL 52 yX5_left, Cond.instanceMethod yX5_left, Cond.selects RX5 yX5_left yX5_left, Cond.code yX5_left cX5_left 5 (some .int), Cond.methodLink RX5 119 yX5_isAsked]
def wsL_law_r16 : List Cond := [Cond.instanceMethod yX5_isAsked, Cond.selects RX5 yX5_isAsked yX5_isAsked, Cond.code yX5_isAsked cX5_isAsked 4 (some .boolean), Cond.methodLink RX5 122 yX5_asked, Cond.instanceMethod yX5_asked, Cond.selects RX5 yX5_asked yX5_asked, Cond.code yX5_asked cX5_asked 5 (some .int), Cond.methodLink RL 53 yX4_tick, Cond.instanceMethod yX4_tick, Cond.selects RX4 yX4_tick yX4_tick, Cond.code yX4_tick cX4_tick 3 (some .int), Cond.constant RX4 123 (1000000000), Cond.methodLink RX4 124 yX4_moveClock, Cond.instanceMethod yX4_moveClock, Cond.selects RX4 yX4_moveClock yX4_moveClock, Cond.code yX4_moveClock cX4_moveClock 4 (some .int), Cond.methodLink RX4 190 yX4_howManyShown, Cond.instanceMethod yX4_howManyShown, Cond.selects RX4 yX4_howManyShown yX4_howManyShown, Cond.code yX4_howManyShown cX4_howManyShown 3 (some .int), Cond.methodLink RL 57 yX5_tick, Cond.instanceMethod yX5_tick, Cond.selects RX5 yX5_tick yX5_tick, Cond.code yX5_tick cX5_tick 2 (some .int)]
def wsL_law_r17 : List Cond := [Cond.constant RX5 131 (1000000000), Cond.methodLink RX5 132 yX5_comes, Cond.instanceMethod yX5_comes, Cond.selects RX5 yX5_comes yX5_comes, Cond.code yX5_comes cX5_comes 4 (some .int), Cond.methodLink RX5 125 yX5_overs, Cond.instanceMethod yX5_overs, Cond.selects RX5 yX5_overs yX5_overs, Cond.code yX5_overs cX5_overs 3 (some .int), Cond.methodLink RX5 128 yX5_isOver, Cond.instanceMethod yX5_isOver, Cond.selects RX5 yX5_isOver yX5_isOver, Cond.code yX5_isOver cX5_isOver 2 (some .boolean), Cond.methodLink RL 58 yX4_watermark, Cond.instanceMethod yX4_watermark, Cond.selects RX4 yX4_watermark yX4_watermark, Cond.code yX4_watermark cX4_watermark 2 (some .int), Cond.methodLink RL 61 yX5_watermark, Cond.instanceMethod yX5_watermark, Cond.selects RX5 yX5_watermark yX5_watermark, Cond.code yX5_watermark cX5_watermark 2 (some .int), Cond.methodLink RL 62 yX4_sweep, Cond.instanceMethod yX4_sweep, Cond.selects RX4 yX4_sweep yX4_sweep]
def wsL_law_r18 : List Cond := [Cond.code yX4_sweep cX4_sweep 4 (some .int), Cond.methodLink RL 65 yX5_sweep, Cond.instanceMethod yX5_sweep, Cond.selects RX5 yX5_sweep yX5_sweep, Cond.code yX5_sweep cX5_sweep 4 (some .int), Cond.fieldLink RX5 136 "StateEndsModel" "sweepAt" "I", Cond.methodLink RL 66 yX4_setting, Cond.instanceMethod yX4_setting, Cond.selects RX4 yX4_setting yX4_setting, Cond.code yX4_setting cX4_setting 5 (some .int), Cond.methodLink RX4 133 yX4_spanShownAnew, Cond.instanceMethod yX4_spanShownAnew, Cond.selects RX4 yX4_spanShownAnew yX4_spanShownAnew, Cond.code yX4_spanShownAnew cX4_spanShownAnew 4 none, Cond.methodLink RL 69 yX5_setting, Cond.instanceMethod yX5_setting, Cond.selects RX5 yX5_setting yX5_setting, Cond.code yX5_setting cX5_setting 6 (some .int), Cond.methodLink RL 70 yX4_mark, Cond.instanceMethod yX4_mark, Cond.selects RX4 yX4_mark yX4_mark, Cond.code yX4_mark cX4_mark 4 (some .int), Cond.fieldLink RX4 158 "StateEnds$Marks" "sizes" "[I", Cond.methodLink RX4 136 yX4_isMark]
def wsL_law_r19 : List Cond := [Cond.static yX4_isMark, Cond.code yX4_isMark cX4_isMark 1 (some .boolean), Cond.methodLink RX4 139 yX0_begin, Cond.instanceMethod yX0_begin, Cond.selects RX0 yX0_begin yX0_begin, Cond.code yX0_begin cX0_begin 2 none, Cond.methodLink RX4 154 yX0_keep, Cond.instanceMethod yX0_keep, Cond.selects RX0 yX0_keep yX0_keep, Cond.code yX0_keep cX0_keep 6 none, Cond.methodLink RX0 30 yX0_indexOf, Cond.instanceMethod yX0_indexOf, Cond.selects RX0 yX0_indexOf yX0_indexOf, Cond.code yX0_indexOf cX0_indexOf 3 (some .int), Cond.methodLink RL 73 yX5_mark, Cond.instanceMethod yX5_mark, Cond.selects RX5 yX5_mark yX5_mark, Cond.code yX5_mark cX5_mark 5 (some .int), Cond.methodLink RX5 139 yX5_nextKept, Cond.instanceMethod yX5_nextKept, Cond.selects RX5 yX5_nextKept yX5_nextKept, Cond.code yX5_nextKept cX5_nextKept 4 (some .int), Cond.methodLink RX5 142 yX5_isAhead, Cond.instanceMethod yX5_isAhead]
def wsL_law_r20 : List Cond := [Cond.selects RX5 yX5_isAhead yX5_isAhead, Cond.code yX5_isAhead cX5_isAhead 3 (some .boolean), Cond.methodLink RL 74 yX4_restore, Cond.instanceMethod yX4_restore, Cond.selects RX4 yX4_restore yX4_restore, Cond.code yX4_restore cX4_restore 5 (some .int), Cond.fieldLink RX4 167 "StateEnds$Marks" "slots" "[I", Cond.fieldLink RX4 171 "StateEnds$Marks" "numbers" "[I", Cond.fieldLink RX4 172 "StateEnds$Marks" "lefts" "[I", Cond.methodLink RX4 161 yX1_vacateAll, Cond.instanceMethod yX1_vacateAll, Cond.selects RX1 yX1_vacateAll yX1_vacateAll, Cond.code yX1_vacateAll cX1_vacateAll 1 none, Cond.methodLink RX4 164 yX0_indexOf, Cond.methodLink RL 77 yX5_restore, Cond.instanceMethod yX5_restore, Cond.selects RX5 yX5_restore yX5_restore, Cond.code yX5_restore cX5_restore 4 (some .int), Cond.methodLink RL 78 yX4_row, Cond.instanceMethod yX4_row, Cond.selects RX4 yX4_row yX4_row, Cond.code yX4_row cX4_row 3 (some .int), Cond.fieldLink RX4 178 "StateEnds$Rows" "kept" "I", Cond.methodLink RX4 181 yX2_cell]
def wsL_law_r21 : List Cond := [Cond.instanceMethod yX2_cell, Cond.selects RX2 yX2_cell yX2_cell, Cond.code yX2_cell cX2_cell 3 (some .int), Cond.methodLink RL 81 yX5_row, Cond.instanceMethod yX5_row, Cond.selects RX5 yX5_row yX5_row, Cond.code yX5_row cX5_row 3 (some .int), Cond.methodLink RL 82 yX4_place, Cond.instanceMethod yX4_place, Cond.selects RX4 yX4_place yX4_place, Cond.code yX4_place cX4_place 5 (some .int), Cond.methodLink RL 85 yX5_place, Cond.instanceMethod yX5_place, Cond.selects RX5 yX5_place yX5_place, Cond.code yX5_place cX5_place 4 (some .int), Cond.methodLink RL 86 yX4_next, Cond.instanceMethod yX4_next, Cond.selects RX4 yX4_next yX4_next, Cond.code yX4_next cX4_next 5 (some .int), Cond.methodLink RL 89 yX5_next, Cond.instanceMethod yX5_next, Cond.selects RX5 yX5_next yX5_next, Cond.code yX5_next cX5_next 4 (some .int), Cond.methodLink RL 90 yX4_count]
def wsL_law_r22 : List Cond := [Cond.instanceMethod yX4_count, Cond.selects RX4 yX4_count yX4_count, Cond.code yX4_count cX4_count 2 (some .int), Cond.fieldLink RX4 194 "StateEnds$Rows" "ever" "I", Cond.methodLink RL 93 yX5_count, Cond.instanceMethod yX5_count, Cond.selects RX5 yX5_count yX5_count, Cond.code yX5_count cX5_count 5 (some .int)]
def wsL_law : List Cond := (wsL_law_r1 ++ (wsL_law_r2 ++ (wsL_law_r3 ++ (wsL_law_r4 ++ (wsL_law_r5 ++ (wsL_law_r6 ++ (wsL_law_r7 ++ (wsL_law_r8 ++ (wsL_law_r9 ++ (wsL_law_r10 ++ (wsL_law_r11 ++ (wsL_law_r12 ++ (wsL_law_r13 ++ (wsL_law_r14 ++ (wsL_law_r15 ++ (wsL_law_r16 ++ (wsL_law_r17 ++ (wsL_law_r18 ++ (wsL_law_r19 ++ (wsL_law_r20 ++ (wsL_law_r21 ++ wsL_law_r22))))))))))))))))))))) ++ wsX40 ++ wsX50 ++ wsX30 ++ wsX10 ++ wsX20 ++ wsX00 ++ ([] : List Cond)
set_option maxRecDepth 20000 in
theorem ggX0_init_J7_fill_53178 : GoodIn wsX0_init wsJ7_fill_53178 := goodIn_r _ [12] (by decide +kernel) (by decide +kernel)
set_option maxRecDepth 20000 in
theorem gX0_init_J7_fill_53178 : GoodIn wsX0_init (va_wsS RX0 24 yJ7_fill_53178 wsJ7_fill_53178) := goodIn_app (goodIn_of _ (by decide +kernel)) ggX0_init_J7_fill_53178
theorem dX0_init_0 : decode cX0_init 0 = .ok (.aload_n 0, 1) := by decide +kernel
theorem dX0_init_1 : decode cX0_init 1 = .ok (.invokespecial 3, 3) := by decide +kernel
theorem dX0_init_4 : decode cX0_init 4 = .ok (.aload_n 0, 1) := by decide +kernel
theorem dX0_init_5 : decode cX0_init 5 = .ok (.sipush 600, 3) := by decide +kernel
theorem dX0_init_8 : decode cX0_init 8 = .ok (.newarray .int, 2) := by decide +kernel
theorem dX0_init_10 : decode cX0_init 10 = .ok (.putfield 9, 3) := by decide +kernel
theorem dX0_init_13 : decode cX0_init 13 = .ok (.aload_n 0, 1) := by decide +kernel
theorem dX0_init_14 : decode cX0_init 14 = .ok (.sipush 600, 3) := by decide +kernel
theorem dX0_init_17 : decode cX0_init 17 = .ok (.newarray .int, 2) := by decide +kernel
theorem dX0_init_19 : decode cX0_init 19 = .ok (.putfield 15, 3) := by decide +kernel
theorem dX0_init_22 : decode cX0_init 22 = .ok (.aload_n 0, 1) := by decide +kernel
theorem dX0_init_23 : decode cX0_init 23 = .ok (.sipush 600, 3) := by decide +kernel
theorem dX0_init_26 : decode cX0_init 26 = .ok (.newarray .int, 2) := by decide +kernel
theorem dX0_init_28 : decode cX0_init 28 = .ok (.putfield 18, 3) := by decide +kernel
theorem dX0_init_31 : decode cX0_init 31 = .ok (.aload_n 0, 1) := by decide +kernel
theorem dX0_init_32 : decode cX0_init 32 = .ok (.iconst 3, 1) := by decide +kernel
theorem dX0_init_33 : decode cX0_init 33 = .ok (.newarray .int, 2) := by decide +kernel
theorem dX0_init_35 : decode cX0_init 35 = .ok (.putfield 21, 3) := by decide +kernel
theorem dX0_init_38 : decode cX0_init 38 = .ok (.aload_n 0, 1) := by decide +kernel
theorem dX0_init_39 : decode cX0_init 39 = .ok (.getfield 21, 3) := by decide +kernel
theorem dX0_init_42 : decode cX0_init 42 = .ok (.iconst (-1), 1) := by decide +kernel
theorem dX0_init_43 : decode cX0_init 43 = .ok (.invokestatic 24, 3) := by decide +kernel
theorem dX0_init_46 : decode cX0_init 46 = .ok (.return_, 1) := by decide +kernel
theorem dX0_begin_0 : decode cX0_begin 0 = .ok (.aload_n 0, 1) := by decide +kernel
theorem dX0_begin_1 : decode cX0_begin 1 = .ok (.getfield 21, 3) := by decide +kernel
theorem dX0_begin_4 : decode cX0_begin 4 = .ok (.iload_n 1, 1) := by decide +kernel
theorem dX0_begin_5 : decode cX0_begin 5 = .ok (.iconst 0, 1) := by decide +kernel
theorem dX0_begin_6 : decode cX0_begin 6 = .ok (.iastore, 1) := by decide +kernel
theorem dX0_begin_7 : decode cX0_begin 7 = .ok (.return_, 1) := by decide +kernel
set_option maxRecDepth 20000 in
theorem ggX0_keep_X0_indexOf : GoodIn wsX0_keep wsX0_indexOf := goodIn_r _ [9] (by decide +kernel) (by decide +kernel)
set_option maxRecDepth 20000 in
theorem gX0_keep_X0_indexOf : GoodIn wsX0_keep (wsV RX0 30 RX0 yX0_indexOf wsX0_indexOf) := goodIn_app (goodIn_of _ (by decide +kernel)) ggX0_keep_X0_indexOf
theorem dX0_keep_0 : decode cX0_keep 0 = .ok (.aload_n 0, 1) := by decide +kernel
theorem dX0_keep_1 : decode cX0_keep 1 = .ok (.iload_n 1, 1) := by decide +kernel
theorem dX0_keep_2 : decode cX0_keep 2 = .ok (.aload_n 0, 1) := by decide +kernel
theorem dX0_keep_3 : decode cX0_keep 3 = .ok (.getfield 21, 3) := by decide +kernel
theorem dX0_keep_6 : decode cX0_keep 6 = .ok (.iload_n 1, 1) := by decide +kernel
theorem dX0_keep_7 : decode cX0_keep 7 = .ok (.iaload, 1) := by decide +kernel
theorem dX0_keep_8 : decode cX0_keep 8 = .ok (.invokevirtual 30, 3) := by decide +kernel
theorem dX0_keep_11 : decode cX0_keep 11 = .ok (.istore 5, 2) := by decide +kernel
theorem dX0_keep_13 : decode cX0_keep 13 = .ok (.aload_n 0, 1) := by decide +kernel
theorem dX0_keep_14 : decode cX0_keep 14 = .ok (.getfield 9, 3) := by decide +kernel
theorem dX0_keep_17 : decode cX0_keep 17 = .ok (.iload 5, 2) := by decide +kernel
theorem dX0_keep_19 : decode cX0_keep 19 = .ok (.iload_n 2, 1) := by decide +kernel
theorem dX0_keep_20 : decode cX0_keep 20 = .ok (.iastore, 1) := by decide +kernel
theorem dX0_keep_21 : decode cX0_keep 21 = .ok (.aload_n 0, 1) := by decide +kernel
theorem dX0_keep_22 : decode cX0_keep 22 = .ok (.getfield 15, 3) := by decide +kernel
theorem dX0_keep_25 : decode cX0_keep 25 = .ok (.iload 5, 2) := by decide +kernel
theorem dX0_keep_27 : decode cX0_keep 27 = .ok (.iload_n 3, 1) := by decide +kernel
theorem dX0_keep_28 : decode cX0_keep 28 = .ok (.iastore, 1) := by decide +kernel
theorem dX0_keep_29 : decode cX0_keep 29 = .ok (.aload_n 0, 1) := by decide +kernel
theorem dX0_keep_30 : decode cX0_keep 30 = .ok (.getfield 18, 3) := by decide +kernel
theorem dX0_keep_33 : decode cX0_keep 33 = .ok (.iload 5, 2) := by decide +kernel
theorem dX0_keep_35 : decode cX0_keep 35 = .ok (.iload 4, 2) := by decide +kernel
theorem dX0_keep_37 : decode cX0_keep 37 = .ok (.iastore, 1) := by decide +kernel
theorem dX0_keep_38 : decode cX0_keep 38 = .ok (.aload_n 0, 1) := by decide +kernel
theorem dX0_keep_39 : decode cX0_keep 39 = .ok (.getfield 21, 3) := by decide +kernel
theorem dX0_keep_42 : decode cX0_keep 42 = .ok (.iload_n 1, 1) := by decide +kernel
theorem dX0_keep_43 : decode cX0_keep 43 = .ok (.dup2, 1) := by decide +kernel
theorem dX0_keep_44 : decode cX0_keep 44 = .ok (.iaload, 1) := by decide +kernel
theorem dX0_keep_45 : decode cX0_keep 45 = .ok (.iconst 1, 1) := by decide +kernel
theorem dX0_keep_46 : decode cX0_keep 46 = .ok (.iadd, 1) := by decide +kernel
theorem dX0_keep_47 : decode cX0_keep 47 = .ok (.iastore, 1) := by decide +kernel
theorem dX0_keep_48 : decode cX0_keep 48 = .ok (.return_, 1) := by decide +kernel
theorem dX0_indexOf_0 : decode cX0_indexOf 0 = .ok (.iload_n 1, 1) := by decide +kernel
theorem dX0_indexOf_1 : decode cX0_indexOf 1 = .ok (.sipush 200, 3) := by decide +kernel
theorem dX0_indexOf_4 : decode cX0_indexOf 4 = .ok (.imul, 1) := by decide +kernel
theorem dX0_indexOf_5 : decode cX0_indexOf 5 = .ok (.iload_n 2, 1) := by decide +kernel
theorem dX0_indexOf_6 : decode cX0_indexOf 6 = .ok (.iadd, 1) := by decide +kernel
theorem dX0_indexOf_7 : decode cX0_indexOf 7 = .ok (.ireturn, 1) := by decide +kernel
set_option maxRecDepth 20000 in
theorem ggX1_init_J7_fill_53178 : GoodIn wsX1_init wsJ7_fill_53178 := goodIn_r _ [14] (by decide +kernel) (by decide +kernel)
set_option maxRecDepth 20000 in
theorem gX1_init_J7_fill_53178 : GoodIn wsX1_init (va_wsS RX1 31 yJ7_fill_53178 wsJ7_fill_53178) := goodIn_app (goodIn_of _ (by decide +kernel)) ggX1_init_J7_fill_53178
theorem dX1_init_0 : decode cX1_init 0 = .ok (.aload_n 0, 1) := by decide +kernel
theorem dX1_init_1 : decode cX1_init 1 = .ok (.invokespecial 3, 3) := by decide +kernel
theorem dX1_init_4 : decode cX1_init 4 = .ok (.aload_n 0, 1) := by decide +kernel
theorem dX1_init_5 : decode cX1_init 5 = .ok (.sipush 200, 3) := by decide +kernel
theorem dX1_init_8 : decode cX1_init 8 = .ok (.newarray .int, 2) := by decide +kernel
theorem dX1_init_10 : decode cX1_init 10 = .ok (.putfield 9, 3) := by decide +kernel
theorem dX1_init_13 : decode cX1_init 13 = .ok (.aload_n 0, 1) := by decide +kernel
theorem dX1_init_14 : decode cX1_init 14 = .ok (.sipush 200, 3) := by decide +kernel
theorem dX1_init_17 : decode cX1_init 17 = .ok (.newarray .int, 2) := by decide +kernel
theorem dX1_init_19 : decode cX1_init 19 = .ok (.putfield 15, 3) := by decide +kernel
theorem dX1_init_22 : decode cX1_init 22 = .ok (.aload_n 0, 1) := by decide +kernel
theorem dX1_init_23 : decode cX1_init 23 = .ok (.sipush 200, 3) := by decide +kernel
theorem dX1_init_26 : decode cX1_init 26 = .ok (.newarray .int, 2) := by decide +kernel
theorem dX1_init_28 : decode cX1_init 28 = .ok (.putfield 18, 3) := by decide +kernel
theorem dX1_init_31 : decode cX1_init 31 = .ok (.aload_n 0, 1) := by decide +kernel
theorem dX1_init_32 : decode cX1_init 32 = .ok (.sipush 200, 3) := by decide +kernel
theorem dX1_init_35 : decode cX1_init 35 = .ok (.newarray .int, 2) := by decide +kernel
theorem dX1_init_37 : decode cX1_init 37 = .ok (.putfield 21, 3) := by decide +kernel
theorem dX1_init_40 : decode cX1_init 40 = .ok (.aload_n 0, 1) := by decide +kernel
theorem dX1_init_41 : decode cX1_init 41 = .ok (.sipush 200, 3) := by decide +kernel
theorem dX1_init_44 : decode cX1_init 44 = .ok (.newarray .int, 2) := by decide +kernel
theorem dX1_init_46 : decode cX1_init 46 = .ok (.putfield 24, 3) := by decide +kernel
theorem dX1_init_49 : decode cX1_init 49 = .ok (.aload_n 0, 1) := by decide +kernel
theorem dX1_init_50 : decode cX1_init 50 = .ok (.iconst 0, 1) := by decide +kernel
theorem dX1_init_51 : decode cX1_init 51 = .ok (.putfield 27, 3) := by decide +kernel
theorem dX1_init_54 : decode cX1_init 54 = .ok (.aload_n 0, 1) := by decide +kernel
theorem dX1_init_55 : decode cX1_init 55 = .ok (.getfield 9, 3) := by decide +kernel
theorem dX1_init_58 : decode cX1_init 58 = .ok (.iconst (-1), 1) := by decide +kernel
theorem dX1_init_59 : decode cX1_init 59 = .ok (.invokestatic 31, 3) := by decide +kernel
theorem dX1_init_62 : decode cX1_init 62 = .ok (.return_, 1) := by decide +kernel
theorem dX1_isTaken_0 : decode cX1_isTaken 0 = .ok (.aload_n 0, 1) := by decide +kernel
theorem dX1_isTaken_1 : decode cX1_isTaken 1 = .ok (.getfield 9, 3) := by decide +kernel
theorem dX1_isTaken_4 : decode cX1_isTaken 4 = .ok (.iload_n 1, 1) := by decide +kernel
theorem dX1_isTaken_5 : decode cX1_isTaken 5 = .ok (.iaload, 1) := by decide +kernel
theorem dX1_isTaken_6 : decode cX1_isTaken 6 = .ok (.iconst (-1), 1) := by decide +kernel
theorem dX1_isTaken_7 : decode cX1_isTaken 7 = .ok (.if_icmp .eq 7, 3) := by decide +kernel
theorem dX1_isTaken_10 : decode cX1_isTaken 10 = .ok (.iconst 1, 1) := by decide +kernel
theorem dX1_isTaken_11 : decode cX1_isTaken 11 = .ok (.goto 4, 3) := by decide +kernel
theorem dX1_isTaken_14 : decode cX1_isTaken 14 = .ok (.iconst 0, 1) := by decide +kernel
theorem dX1_isTaken_15 : decode cX1_isTaken 15 = .ok (.ireturn, 1) := by decide +kernel
theorem dX1_stateAt_0 : decode cX1_stateAt 0 = .ok (.aload_n 0, 1) := by decide +kernel
theorem dX1_stateAt_1 : decode cX1_stateAt 1 = .ok (.getfield 9, 3) := by decide +kernel
theorem dX1_stateAt_4 : decode cX1_stateAt 4 = .ok (.iload_n 1, 1) := by decide +kernel
theorem dX1_stateAt_5 : decode cX1_stateAt 5 = .ok (.iaload, 1) := by decide +kernel
theorem dX1_stateAt_6 : decode cX1_stateAt 6 = .ok (.sipush 1000, 3) := by decide +kernel
theorem dX1_stateAt_9 : decode cX1_stateAt 9 = .ok (.idiv, 1) := by decide +kernel
theorem dX1_stateAt_10 : decode cX1_stateAt 10 = .ok (.ireturn, 1) := by decide +kernel
theorem dX1_keyAt_0 : decode cX1_keyAt 0 = .ok (.aload_n 0, 1) := by decide +kernel
theorem dX1_keyAt_1 : decode cX1_keyAt 1 = .ok (.getfield 9, 3) := by decide +kernel
theorem dX1_keyAt_4 : decode cX1_keyAt 4 = .ok (.iload_n 1, 1) := by decide +kernel
theorem dX1_keyAt_5 : decode cX1_keyAt 5 = .ok (.iaload, 1) := by decide +kernel
theorem dX1_keyAt_6 : decode cX1_keyAt 6 = .ok (.bipush 10, 2) := by decide +kernel
theorem dX1_keyAt_8 : decode cX1_keyAt 8 = .ok (.idiv, 1) := by decide +kernel
theorem dX1_keyAt_9 : decode cX1_keyAt 9 = .ok (.bipush 100, 2) := by decide +kernel
theorem dX1_keyAt_11 : decode cX1_keyAt 11 = .ok (.irem, 1) := by decide +kernel
theorem dX1_keyAt_12 : decode cX1_keyAt 12 = .ok (.ireturn, 1) := by decide +kernel
theorem dX1_memberAt_0 : decode cX1_memberAt 0 = .ok (.aload_n 0, 1) := by decide +kernel
theorem dX1_memberAt_1 : decode cX1_memberAt 1 = .ok (.getfield 9, 3) := by decide +kernel
theorem dX1_memberAt_4 : decode cX1_memberAt 4 = .ok (.iload_n 1, 1) := by decide +kernel
theorem dX1_memberAt_5 : decode cX1_memberAt 5 = .ok (.iaload, 1) := by decide +kernel
theorem dX1_memberAt_6 : decode cX1_memberAt 6 = .ok (.bipush 10, 2) := by decide +kernel
theorem dX1_memberAt_8 : decode cX1_memberAt 8 = .ok (.irem, 1) := by decide +kernel
theorem dX1_memberAt_9 : decode cX1_memberAt 9 = .ok (.ireturn, 1) := by decide +kernel
set_option maxRecDepth 20000 in
theorem ggX1_leastFree_X1_isTaken : GoodIn wsX1_leastFree wsX1_isTaken := goodIn_r _ [5, 6, 7, 8, 9, 10, 11, 12] (by decide +kernel) (by decide +kernel)
set_option maxRecDepth 20000 in
theorem gX1_leastFree_X1_isTaken : GoodIn wsX1_leastFree (wsV RX1 37 RX1 yX1_isTaken wsX1_isTaken) := goodIn_app (goodIn_of _ (by decide +kernel)) ggX1_leastFree_X1_isTaken
theorem dX1_leastFree_0 : decode cX1_leastFree 0 = .ok (.iconst 0, 1) := by decide +kernel
theorem dX1_leastFree_1 : decode cX1_leastFree 1 = .ok (.istore_n 1, 1) := by decide +kernel
theorem dX1_leastFree_2 : decode cX1_leastFree 2 = .ok (.iload_n 1, 1) := by decide +kernel
theorem dX1_leastFree_3 : decode cX1_leastFree 3 = .ok (.sipush 200, 3) := by decide +kernel
theorem dX1_leastFree_6 : decode cX1_leastFree 6 = .ok (.if_icmp .ge 19, 3) := by decide +kernel
theorem dX1_leastFree_9 : decode cX1_leastFree 9 = .ok (.aload_n 0, 1) := by decide +kernel
theorem dX1_leastFree_10 : decode cX1_leastFree 10 = .ok (.iload_n 1, 1) := by decide +kernel
theorem dX1_leastFree_11 : decode cX1_leastFree 11 = .ok (.invokevirtual 37, 3) := by decide +kernel
theorem dX1_leastFree_14 : decode cX1_leastFree 14 = .ok (.ifCond .ne 5, 3) := by decide +kernel
theorem dX1_leastFree_17 : decode cX1_leastFree 17 = .ok (.iload_n 1, 1) := by decide +kernel
theorem dX1_leastFree_18 : decode cX1_leastFree 18 = .ok (.ireturn, 1) := by decide +kernel
theorem dX1_leastFree_19 : decode cX1_leastFree 19 = .ok (.iinc 1 1, 3) := by decide +kernel
theorem dX1_leastFree_22 : decode cX1_leastFree 22 = .ok (.goto (-20), 3) := by decide +kernel
theorem dX1_leastFree_25 : decode cX1_leastFree 25 = .ok (.iconst (-1), 1) := by decide +kernel
theorem dX1_leastFree_26 : decode cX1_leastFree 26 = .ok (.ireturn, 1) := by decide +kernel
theorem dX1_take_0 : decode cX1_take 0 = .ok (.aload_n 0, 1) := by decide +kernel
theorem dX1_take_1 : decode cX1_take 1 = .ok (.getfield 9, 3) := by decide +kernel
theorem dX1_take_4 : decode cX1_take 4 = .ok (.iload_n 1, 1) := by decide +kernel
theorem dX1_take_5 : decode cX1_take 5 = .ok (.iload_n 2, 1) := by decide +kernel
theorem dX1_take_6 : decode cX1_take 6 = .ok (.iastore, 1) := by decide +kernel
theorem dX1_take_7 : decode cX1_take 7 = .ok (.aload_n 0, 1) := by decide +kernel
theorem dX1_take_8 : decode cX1_take 8 = .ok (.getfield 27, 3) := by decide +kernel
theorem dX1_take_11 : decode cX1_take 11 = .ok (.istore_n 3, 1) := by decide +kernel
theorem dX1_take_12 : decode cX1_take 12 = .ok (.iload_n 3, 1) := by decide +kernel
theorem dX1_take_13 : decode cX1_take 13 = .ok (.ifCond .le 40, 3) := by decide +kernel
theorem dX1_take_16 : decode cX1_take 16 = .ok (.aload_n 0, 1) := by decide +kernel
theorem dX1_take_17 : decode cX1_take 17 = .ok (.getfield 9, 3) := by decide +kernel
theorem dX1_take_20 : decode cX1_take 20 = .ok (.aload_n 0, 1) := by decide +kernel
theorem dX1_take_21 : decode cX1_take 21 = .ok (.getfield 24, 3) := by decide +kernel
theorem dX1_take_24 : decode cX1_take 24 = .ok (.iload_n 3, 1) := by decide +kernel
theorem dX1_take_25 : decode cX1_take 25 = .ok (.iconst 1, 1) := by decide +kernel
theorem dX1_take_26 : decode cX1_take 26 = .ok (.isub, 1) := by decide +kernel
theorem dX1_take_27 : decode cX1_take 27 = .ok (.iaload, 1) := by decide +kernel
theorem dX1_take_28 : decode cX1_take 28 = .ok (.iaload, 1) := by decide +kernel
theorem dX1_take_29 : decode cX1_take 29 = .ok (.iload_n 2, 1) := by decide +kernel
theorem dX1_take_30 : decode cX1_take 30 = .ok (.if_icmp .le 23, 3) := by decide +kernel
theorem dX1_take_33 : decode cX1_take 33 = .ok (.aload_n 0, 1) := by decide +kernel
theorem dX1_take_34 : decode cX1_take 34 = .ok (.getfield 24, 3) := by decide +kernel
theorem dX1_take_37 : decode cX1_take 37 = .ok (.iload_n 3, 1) := by decide +kernel
theorem dX1_take_38 : decode cX1_take 38 = .ok (.aload_n 0, 1) := by decide +kernel
theorem dX1_take_39 : decode cX1_take 39 = .ok (.getfield 24, 3) := by decide +kernel
theorem dX1_take_42 : decode cX1_take 42 = .ok (.iload_n 3, 1) := by decide +kernel
theorem dX1_take_43 : decode cX1_take 43 = .ok (.iconst 1, 1) := by decide +kernel
theorem dX1_take_44 : decode cX1_take 44 = .ok (.isub, 1) := by decide +kernel
theorem dX1_take_45 : decode cX1_take 45 = .ok (.iaload, 1) := by decide +kernel
theorem dX1_take_46 : decode cX1_take 46 = .ok (.iastore, 1) := by decide +kernel
theorem dX1_take_47 : decode cX1_take 47 = .ok (.iinc 3 (-1), 3) := by decide +kernel
theorem dX1_take_50 : decode cX1_take 50 = .ok (.goto (-38), 3) := by decide +kernel
theorem dX1_take_53 : decode cX1_take 53 = .ok (.aload_n 0, 1) := by decide +kernel
theorem dX1_take_54 : decode cX1_take 54 = .ok (.getfield 24, 3) := by decide +kernel
theorem dX1_take_57 : decode cX1_take 57 = .ok (.iload_n 3, 1) := by decide +kernel
theorem dX1_take_58 : decode cX1_take 58 = .ok (.iload_n 1, 1) := by decide +kernel
theorem dX1_take_59 : decode cX1_take 59 = .ok (.iastore, 1) := by decide +kernel
theorem dX1_take_60 : decode cX1_take 60 = .ok (.aload_n 0, 1) := by decide +kernel
theorem dX1_take_61 : decode cX1_take 61 = .ok (.dup, 1) := by decide +kernel
theorem dX1_take_62 : decode cX1_take 62 = .ok (.getfield 27, 3) := by decide +kernel
theorem dX1_take_65 : decode cX1_take 65 = .ok (.iconst 1, 1) := by decide +kernel
theorem dX1_take_66 : decode cX1_take 66 = .ok (.iadd, 1) := by decide +kernel
theorem dX1_take_67 : decode cX1_take 67 = .ok (.putfield 27, 3) := by decide +kernel
theorem dX1_take_70 : decode cX1_take 70 = .ok (.return_, 1) := by decide +kernel
theorem dX1_vacate_0 : decode cX1_vacate 0 = .ok (.aload_n 0, 1) := by decide +kernel
theorem dX1_vacate_1 : decode cX1_vacate 1 = .ok (.getfield 9, 3) := by decide +kernel
theorem dX1_vacate_4 : decode cX1_vacate 4 = .ok (.iload_n 1, 1) := by decide +kernel
theorem dX1_vacate_5 : decode cX1_vacate 5 = .ok (.iconst (-1), 1) := by decide +kernel
theorem dX1_vacate_6 : decode cX1_vacate 6 = .ok (.iastore, 1) := by decide +kernel
theorem dX1_vacate_7 : decode cX1_vacate 7 = .ok (.iconst 0, 1) := by decide +kernel
theorem dX1_vacate_8 : decode cX1_vacate 8 = .ok (.istore_n 2, 1) := by decide +kernel
theorem dX1_vacate_9 : decode cX1_vacate 9 = .ok (.iconst 0, 1) := by decide +kernel
theorem dX1_vacate_10 : decode cX1_vacate 10 = .ok (.istore_n 3, 1) := by decide +kernel
theorem dX1_vacate_11 : decode cX1_vacate 11 = .ok (.iload_n 3, 1) := by decide +kernel
theorem dX1_vacate_12 : decode cX1_vacate 12 = .ok (.aload_n 0, 1) := by decide +kernel
theorem dX1_vacate_13 : decode cX1_vacate 13 = .ok (.getfield 27, 3) := by decide +kernel
theorem dX1_vacate_16 : decode cX1_vacate 16 = .ok (.if_icmp .ge 34, 3) := by decide +kernel
theorem dX1_vacate_19 : decode cX1_vacate 19 = .ok (.aload_n 0, 1) := by decide +kernel
theorem dX1_vacate_20 : decode cX1_vacate 20 = .ok (.getfield 24, 3) := by decide +kernel
theorem dX1_vacate_23 : decode cX1_vacate 23 = .ok (.iload_n 3, 1) := by decide +kernel
theorem dX1_vacate_24 : decode cX1_vacate 24 = .ok (.iaload, 1) := by decide +kernel
theorem dX1_vacate_25 : decode cX1_vacate 25 = .ok (.iload_n 1, 1) := by decide +kernel
theorem dX1_vacate_26 : decode cX1_vacate 26 = .ok (.if_icmp .eq 18, 3) := by decide +kernel
theorem dX1_vacate_29 : decode cX1_vacate 29 = .ok (.aload_n 0, 1) := by decide +kernel
theorem dX1_vacate_30 : decode cX1_vacate 30 = .ok (.getfield 24, 3) := by decide +kernel
theorem dX1_vacate_33 : decode cX1_vacate 33 = .ok (.iload_n 2, 1) := by decide +kernel
theorem dX1_vacate_34 : decode cX1_vacate 34 = .ok (.aload_n 0, 1) := by decide +kernel
theorem dX1_vacate_35 : decode cX1_vacate 35 = .ok (.getfield 24, 3) := by decide +kernel
theorem dX1_vacate_38 : decode cX1_vacate 38 = .ok (.iload_n 3, 1) := by decide +kernel
theorem dX1_vacate_39 : decode cX1_vacate 39 = .ok (.iaload, 1) := by decide +kernel
theorem dX1_vacate_40 : decode cX1_vacate 40 = .ok (.iastore, 1) := by decide +kernel
theorem dX1_vacate_41 : decode cX1_vacate 41 = .ok (.iinc 2 1, 3) := by decide +kernel
theorem dX1_vacate_44 : decode cX1_vacate 44 = .ok (.iinc 3 1, 3) := by decide +kernel
theorem dX1_vacate_47 : decode cX1_vacate 47 = .ok (.goto (-36), 3) := by decide +kernel
theorem dX1_vacate_50 : decode cX1_vacate 50 = .ok (.aload_n 0, 1) := by decide +kernel
theorem dX1_vacate_51 : decode cX1_vacate 51 = .ok (.iload_n 2, 1) := by decide +kernel
theorem dX1_vacate_52 : decode cX1_vacate 52 = .ok (.putfield 27, 3) := by decide +kernel
theorem dX1_vacate_55 : decode cX1_vacate 55 = .ok (.return_, 1) := by decide +kernel
set_option maxRecDepth 20000 in
theorem ggX1_vacateAll_J7_fill_53178 : GoodIn wsX1_vacateAll wsJ7_fill_53178 := goodIn_r _ [6] (by decide +kernel) (by decide +kernel)
set_option maxRecDepth 20000 in
theorem gX1_vacateAll_J7_fill_53178 : GoodIn wsX1_vacateAll (va_wsS RX1 31 yJ7_fill_53178 wsJ7_fill_53178) := goodIn_app (goodIn_of _ (by decide +kernel)) ggX1_vacateAll_J7_fill_53178
theorem dX1_vacateAll_0 : decode cX1_vacateAll 0 = .ok (.aload_n 0, 1) := by decide +kernel
theorem dX1_vacateAll_1 : decode cX1_vacateAll 1 = .ok (.getfield 9, 3) := by decide +kernel
theorem dX1_vacateAll_4 : decode cX1_vacateAll 4 = .ok (.iconst (-1), 1) := by decide +kernel
theorem dX1_vacateAll_5 : decode cX1_vacateAll 5 = .ok (.invokestatic 31, 3) := by decide +kernel
theorem dX1_vacateAll_8 : decode cX1_vacateAll 8 = .ok (.aload_n 0, 1) := by decide +kernel
theorem dX1_vacateAll_9 : decode cX1_vacateAll 9 = .ok (.iconst 0, 1) := by decide +kernel
theorem dX1_vacateAll_10 : decode cX1_vacateAll 10 = .ok (.putfield 27, 3) := by decide +kernel
theorem dX1_vacateAll_13 : decode cX1_vacateAll 13 = .ok (.return_, 1) := by decide +kernel
theorem dX2_init_0 : decode cX2_init 0 = .ok (.aload_n 0, 1) := by decide +kernel
theorem dX2_init_1 : decode cX2_init 1 = .ok (.invokespecial 3, 3) := by decide +kernel
theorem dX2_init_4 : decode cX2_init 4 = .ok (.aload_n 0, 1) := by decide +kernel
theorem dX2_init_5 : decode cX2_init 5 = .ok (.sipush 900, 3) := by decide +kernel
theorem dX2_init_8 : decode cX2_init 8 = .ok (.newarray .int, 2) := by decide +kernel
theorem dX2_init_10 : decode cX2_init 10 = .ok (.putfield 9, 3) := by decide +kernel
theorem dX2_init_13 : decode cX2_init 13 = .ok (.aload_n 0, 1) := by decide +kernel
theorem dX2_init_14 : decode cX2_init 14 = .ok (.iconst 0, 1) := by decide +kernel
theorem dX2_init_15 : decode cX2_init 15 = .ok (.putfield 15, 3) := by decide +kernel
theorem dX2_init_18 : decode cX2_init 18 = .ok (.aload_n 0, 1) := by decide +kernel
theorem dX2_init_19 : decode cX2_init 19 = .ok (.iconst 0, 1) := by decide +kernel
theorem dX2_init_20 : decode cX2_init 20 = .ok (.putfield 19, 3) := by decide +kernel
theorem dX2_init_23 : decode cX2_init 23 = .ok (.aload_n 0, 1) := by decide +kernel
theorem dX2_init_24 : decode cX2_init 24 = .ok (.iconst 0, 1) := by decide +kernel
theorem dX2_init_25 : decode cX2_init 25 = .ok (.putfield 22, 3) := by decide +kernel
theorem dX2_init_28 : decode cX2_init 28 = .ok (.return_, 1) := by decide +kernel
set_option maxRecDepth 20000 in
theorem ggX2_begin_X2_indexOf : GoodIn wsX2_begin wsX2_indexOf := goodIn_r _ [8, 2, 9, 10, 11, 12] (by decide +kernel) (by decide +kernel)
set_option maxRecDepth 20000 in
theorem gX2_begin_X2_indexOf : GoodIn wsX2_begin (wsV RX2 25 RX2 yX2_indexOf wsX2_indexOf) := goodIn_app (goodIn_of _ (by decide +kernel)) ggX2_begin_X2_indexOf
theorem dX2_begin_0 : decode cX2_begin 0 = .ok (.aload_n 0, 1) := by decide +kernel
theorem dX2_begin_1 : decode cX2_begin 1 = .ok (.getfield 19, 3) := by decide +kernel
theorem dX2_begin_4 : decode cX2_begin 4 = .ok (.sipush 150, 3) := by decide +kernel
theorem dX2_begin_7 : decode cX2_begin 7 = .ok (.if_icmp .ne 20, 3) := by decide +kernel
theorem dX2_begin_10 : decode cX2_begin 10 = .ok (.aload_n 0, 1) := by decide +kernel
theorem dX2_begin_11 : decode cX2_begin 11 = .ok (.aload_n 0, 1) := by decide +kernel
theorem dX2_begin_12 : decode cX2_begin 12 = .ok (.getfield 15, 3) := by decide +kernel
theorem dX2_begin_15 : decode cX2_begin 15 = .ok (.iconst 1, 1) := by decide +kernel
theorem dX2_begin_16 : decode cX2_begin 16 = .ok (.iadd, 1) := by decide +kernel
theorem dX2_begin_17 : decode cX2_begin 17 = .ok (.sipush 150, 3) := by decide +kernel
theorem dX2_begin_20 : decode cX2_begin 20 = .ok (.irem, 1) := by decide +kernel
theorem dX2_begin_21 : decode cX2_begin 21 = .ok (.putfield 15, 3) := by decide +kernel
theorem dX2_begin_24 : decode cX2_begin 24 = .ok (.goto 13, 3) := by decide +kernel
theorem dX2_begin_27 : decode cX2_begin 27 = .ok (.aload_n 0, 1) := by decide +kernel
theorem dX2_begin_28 : decode cX2_begin 28 = .ok (.dup, 1) := by decide +kernel
theorem dX2_begin_29 : decode cX2_begin 29 = .ok (.getfield 19, 3) := by decide +kernel
theorem dX2_begin_32 : decode cX2_begin 32 = .ok (.iconst 1, 1) := by decide +kernel
theorem dX2_begin_33 : decode cX2_begin 33 = .ok (.iadd, 1) := by decide +kernel
theorem dX2_begin_34 : decode cX2_begin 34 = .ok (.putfield 19, 3) := by decide +kernel
theorem dX2_begin_37 : decode cX2_begin 37 = .ok (.aload_n 0, 1) := by decide +kernel
theorem dX2_begin_38 : decode cX2_begin 38 = .ok (.dup, 1) := by decide +kernel
theorem dX2_begin_39 : decode cX2_begin 39 = .ok (.getfield 22, 3) := by decide +kernel
theorem dX2_begin_42 : decode cX2_begin 42 = .ok (.iconst 1, 1) := by decide +kernel
theorem dX2_begin_43 : decode cX2_begin 43 = .ok (.iadd, 1) := by decide +kernel
theorem dX2_begin_44 : decode cX2_begin 44 = .ok (.putfield 22, 3) := by decide +kernel
theorem dX2_begin_47 : decode cX2_begin 47 = .ok (.aload_n 0, 1) := by decide +kernel
theorem dX2_begin_48 : decode cX2_begin 48 = .ok (.aload_n 0, 1) := by decide +kernel
theorem dX2_begin_49 : decode cX2_begin 49 = .ok (.getfield 19, 3) := by decide +kernel
theorem dX2_begin_52 : decode cX2_begin 52 = .ok (.iconst 1, 1) := by decide +kernel
theorem dX2_begin_53 : decode cX2_begin 53 = .ok (.isub, 1) := by decide +kernel
theorem dX2_begin_54 : decode cX2_begin 54 = .ok (.invokevirtual 25, 3) := by decide +kernel
theorem dX2_begin_57 : decode cX2_begin 57 = .ok (.ireturn, 1) := by decide +kernel
set_option maxRecDepth 20000 in
theorem ggX2_cell_X2_indexOf : GoodIn wsX2_cell wsX2_indexOf := goodIn_r _ [6, 7, 8, 9, 10, 11] (by decide +kernel) (by decide +kernel)
set_option maxRecDepth 20000 in
theorem gX2_cell_X2_indexOf : GoodIn wsX2_cell (wsV RX2 25 RX2 yX2_indexOf wsX2_indexOf) := goodIn_app (goodIn_of _ (by decide +kernel)) ggX2_cell_X2_indexOf
theorem dX2_cell_0 : decode cX2_cell 0 = .ok (.aload_n 0, 1) := by decide +kernel
theorem dX2_cell_1 : decode cX2_cell 1 = .ok (.getfield 9, 3) := by decide +kernel
theorem dX2_cell_4 : decode cX2_cell 4 = .ok (.aload_n 0, 1) := by decide +kernel
theorem dX2_cell_5 : decode cX2_cell 5 = .ok (.iload_n 1, 1) := by decide +kernel
theorem dX2_cell_6 : decode cX2_cell 6 = .ok (.invokevirtual 25, 3) := by decide +kernel
theorem dX2_cell_9 : decode cX2_cell 9 = .ok (.iload_n 2, 1) := by decide +kernel
theorem dX2_cell_10 : decode cX2_cell 10 = .ok (.iadd, 1) := by decide +kernel
theorem dX2_cell_11 : decode cX2_cell 11 = .ok (.iaload, 1) := by decide +kernel
theorem dX2_cell_12 : decode cX2_cell 12 = .ok (.ireturn, 1) := by decide +kernel
theorem dX2_indexOf_0 : decode cX2_indexOf 0 = .ok (.aload_n 0, 1) := by decide +kernel
theorem dX2_indexOf_1 : decode cX2_indexOf 1 = .ok (.getfield 15, 3) := by decide +kernel
theorem dX2_indexOf_4 : decode cX2_indexOf 4 = .ok (.iload_n 1, 1) := by decide +kernel
theorem dX2_indexOf_5 : decode cX2_indexOf 5 = .ok (.iadd, 1) := by decide +kernel
theorem dX2_indexOf_6 : decode cX2_indexOf 6 = .ok (.sipush 150, 3) := by decide +kernel
theorem dX2_indexOf_9 : decode cX2_indexOf 9 = .ok (.irem, 1) := by decide +kernel
theorem dX2_indexOf_10 : decode cX2_indexOf 10 = .ok (.bipush 6, 2) := by decide +kernel
theorem dX2_indexOf_12 : decode cX2_indexOf 12 = .ok (.imul, 1) := by decide +kernel
theorem dX2_indexOf_13 : decode cX2_indexOf 13 = .ok (.ireturn, 1) := by decide +kernel
theorem dX3_init_0 : decode cX3_init 0 = .ok (.aload_n 0, 1) := by decide +kernel
theorem dX3_init_1 : decode cX3_init 1 = .ok (.invokespecial 3, 3) := by decide +kernel
theorem dX3_init_4 : decode cX3_init 4 = .ok (.aload_n 0, 1) := by decide +kernel
theorem dX3_init_5 : decode cX3_init 5 = .ok (.bipush 6, 2) := by decide +kernel
theorem dX3_init_7 : decode cX3_init 7 = .ok (.newarray .int, 2) := by decide +kernel
theorem dX3_init_9 : decode cX3_init 9 = .ok (.putfield 9, 3) := by decide +kernel
theorem dX3_init_12 : decode cX3_init 12 = .ok (.aload_n 0, 1) := by decide +kernel
theorem dX3_init_13 : decode cX3_init 13 = .ok (.bipush 6, 2) := by decide +kernel
theorem dX3_init_15 : decode cX3_init 15 = .ok (.newarray .int, 2) := by decide +kernel
theorem dX3_init_17 : decode cX3_init 17 = .ok (.putfield 15, 3) := by decide +kernel
theorem dX3_init_20 : decode cX3_init 20 = .ok (.aload_n 0, 1) := by decide +kernel
theorem dX3_init_21 : decode cX3_init 21 = .ok (.bipush 6, 2) := by decide +kernel
theorem dX3_init_23 : decode cX3_init 23 = .ok (.newarray .int, 2) := by decide +kernel
theorem dX3_init_25 : decode cX3_init 25 = .ok (.putfield 18, 3) := by decide +kernel
theorem dX3_init_28 : decode cX3_init 28 = .ok (.aload_n 0, 1) := by decide +kernel
theorem dX3_init_29 : decode cX3_init 29 = .ok (.bipush 6, 2) := by decide +kernel
theorem dX3_init_31 : decode cX3_init 31 = .ok (.newarray .int, 2) := by decide +kernel
theorem dX3_init_33 : decode cX3_init 33 = .ok (.putfield 21, 3) := by decide +kernel
theorem dX3_init_36 : decode cX3_init 36 = .ok (.aload_n 0, 1) := by decide +kernel
theorem dX3_init_37 : decode cX3_init 37 = .ok (.iconst 2, 1) := by decide +kernel
theorem dX3_init_38 : decode cX3_init 38 = .ok (.newarray .int, 2) := by decide +kernel
theorem dX3_init_40 : decode cX3_init 40 = .ok (.putfield 24, 3) := by decide +kernel
theorem dX3_init_43 : decode cX3_init 43 = .ok (.aload_n 0, 1) := by decide +kernel
theorem dX3_init_44 : decode cX3_init 44 = .ok (.iconst 0, 1) := by decide +kernel
theorem dX3_init_45 : decode cX3_init 45 = .ok (.putfield 27, 3) := by decide +kernel
theorem dX3_init_48 : decode cX3_init 48 = .ok (.return_, 1) := by decide +kernel
theorem dX3_make_0 : decode cX3_make 0 = .ok (.aload_n 0, 1) := by decide +kernel
theorem dX3_make_1 : decode cX3_make 1 = .ok (.getfield 27, 3) := by decide +kernel
theorem dX3_make_4 : decode cX3_make 4 = .ok (.istore 5, 2) := by decide +kernel
theorem dX3_make_6 : decode cX3_make 6 = .ok (.aload_n 0, 1) := by decide +kernel
theorem dX3_make_7 : decode cX3_make 7 = .ok (.getfield 9, 3) := by decide +kernel
theorem dX3_make_10 : decode cX3_make 10 = .ok (.iload 5, 2) := by decide +kernel
theorem dX3_make_12 : decode cX3_make 12 = .ok (.iload_n 1, 1) := by decide +kernel
theorem dX3_make_13 : decode cX3_make 13 = .ok (.iastore, 1) := by decide +kernel
theorem dX3_make_14 : decode cX3_make 14 = .ok (.aload_n 0, 1) := by decide +kernel
theorem dX3_make_15 : decode cX3_make 15 = .ok (.getfield 15, 3) := by decide +kernel
theorem dX3_make_18 : decode cX3_make 18 = .ok (.iload 5, 2) := by decide +kernel
theorem dX3_make_20 : decode cX3_make 20 = .ok (.iload_n 2, 1) := by decide +kernel
theorem dX3_make_21 : decode cX3_make 21 = .ok (.iastore, 1) := by decide +kernel
theorem dX3_make_22 : decode cX3_make 22 = .ok (.aload_n 0, 1) := by decide +kernel
theorem dX3_make_23 : decode cX3_make 23 = .ok (.getfield 18, 3) := by decide +kernel
theorem dX3_make_26 : decode cX3_make 26 = .ok (.iload 5, 2) := by decide +kernel
theorem dX3_make_28 : decode cX3_make 28 = .ok (.iload_n 3, 1) := by decide +kernel
theorem dX3_make_29 : decode cX3_make 29 = .ok (.iastore, 1) := by decide +kernel
theorem dX3_make_30 : decode cX3_make 30 = .ok (.aload_n 0, 1) := by decide +kernel
theorem dX3_make_31 : decode cX3_make 31 = .ok (.getfield 21, 3) := by decide +kernel
theorem dX3_make_34 : decode cX3_make 34 = .ok (.iload 5, 2) := by decide +kernel
theorem dX3_make_36 : decode cX3_make 36 = .ok (.iload 4, 2) := by decide +kernel
theorem dX3_make_38 : decode cX3_make 38 = .ok (.iastore, 1) := by decide +kernel
theorem dX3_make_39 : decode cX3_make 39 = .ok (.aload_n 0, 1) := by decide +kernel
theorem dX3_make_40 : decode cX3_make 40 = .ok (.dup, 1) := by decide +kernel
theorem dX3_make_41 : decode cX3_make 41 = .ok (.getfield 27, 3) := by decide +kernel
theorem dX3_make_44 : decode cX3_make 44 = .ok (.iconst 1, 1) := by decide +kernel
theorem dX3_make_45 : decode cX3_make 45 = .ok (.iadd, 1) := by decide +kernel
theorem dX3_make_46 : decode cX3_make 46 = .ok (.putfield 27, 3) := by decide +kernel
theorem dX3_make_49 : decode cX3_make 49 = .ok (.iload 5, 2) := by decide +kernel
theorem dX3_make_51 : decode cX3_make 51 = .ok (.ireturn, 1) := by decide +kernel
theorem dX3_has_0 : decode cX3_has 0 = .ok (.iload_n 1, 1) := by decide +kernel
theorem dX3_has_1 : decode cX3_has 1 = .ok (.ifCond .lt 15, 3) := by decide +kernel
theorem dX3_has_4 : decode cX3_has 4 = .ok (.iload_n 1, 1) := by decide +kernel
theorem dX3_has_5 : decode cX3_has 5 = .ok (.aload_n 0, 1) := by decide +kernel
theorem dX3_has_6 : decode cX3_has 6 = .ok (.getfield 27, 3) := by decide +kernel
theorem dX3_has_9 : decode cX3_has 9 = .ok (.if_icmp .ge 7, 3) := by decide +kernel
theorem dX3_has_12 : decode cX3_has 12 = .ok (.iconst 1, 1) := by decide +kernel
theorem dX3_has_13 : decode cX3_has 13 = .ok (.goto 4, 3) := by decide +kernel
theorem dX3_has_16 : decode cX3_has 16 = .ok (.iconst 0, 1) := by decide +kernel
theorem dX3_has_17 : decode cX3_has 17 = .ok (.ireturn, 1) := by decide +kernel
theorem dX3_isList_0 : decode cX3_isList 0 = .ok (.aload_n 0, 1) := by decide +kernel
theorem dX3_isList_1 : decode cX3_isList 1 = .ok (.getfield 9, 3) := by decide +kernel
theorem dX3_isList_4 : decode cX3_isList 4 = .ok (.iload_n 1, 1) := by decide +kernel
theorem dX3_isList_5 : decode cX3_isList 5 = .ok (.iaload, 1) := by decide +kernel
theorem dX3_isList_6 : decode cX3_isList 6 = .ok (.iconst 1, 1) := by decide +kernel
theorem dX3_isList_7 : decode cX3_isList 7 = .ok (.if_icmp .ne 7, 3) := by decide +kernel
theorem dX3_isList_10 : decode cX3_isList 10 = .ok (.iconst 1, 1) := by decide +kernel
theorem dX3_isList_11 : decode cX3_isList 11 = .ok (.goto 4, 3) := by decide +kernel
theorem dX3_isList_14 : decode cX3_isList 14 = .ok (.iconst 0, 1) := by decide +kernel
theorem dX3_isList_15 : decode cX3_isList 15 = .ok (.ireturn, 1) := by decide +kernel
theorem dX3_isStampedByReads_0 : decode cX3_isStampedByReads 0 = .ok (.aload_n 0, 1) := by decide +kernel
theorem dX3_isStampedByReads_1 : decode cX3_isStampedByReads 1 = .ok (.getfield 21, 3) := by decide +kernel
theorem dX3_isStampedByReads_4 : decode cX3_isStampedByReads 4 = .ok (.iload_n 1, 1) := by decide +kernel
theorem dX3_isStampedByReads_5 : decode cX3_isStampedByReads 5 = .ok (.iaload, 1) := by decide +kernel
theorem dX3_isStampedByReads_6 : decode cX3_isStampedByReads 6 = .ok (.iconst 1, 1) := by decide +kernel
theorem dX3_isStampedByReads_7 : decode cX3_isStampedByReads 7 = .ok (.if_icmp .ne 7, 3) := by decide +kernel
theorem dX3_isStampedByReads_10 : decode cX3_isStampedByReads 10 = .ok (.iconst 1, 1) := by decide +kernel
theorem dX3_isStampedByReads_11 : decode cX3_isStampedByReads 11 = .ok (.goto 4, 3) := by decide +kernel
theorem dX3_isStampedByReads_14 : decode cX3_isStampedByReads 14 = .ok (.iconst 0, 1) := by decide +kernel
theorem dX3_isStampedByReads_15 : decode cX3_isStampedByReads 15 = .ok (.ireturn, 1) := by decide +kernel
theorem dX3_timeOf_0 : decode cX3_timeOf 0 = .ok (.aload_n 0, 1) := by decide +kernel
theorem dX3_timeOf_1 : decode cX3_timeOf 1 = .ok (.getfield 24, 3) := by decide +kernel
theorem dX3_timeOf_4 : decode cX3_timeOf 4 = .ok (.aload_n 0, 1) := by decide +kernel
theorem dX3_timeOf_5 : decode cX3_timeOf 5 = .ok (.getfield 15, 3) := by decide +kernel
theorem dX3_timeOf_8 : decode cX3_timeOf 8 = .ok (.iload_n 1, 1) := by decide +kernel
theorem dX3_timeOf_9 : decode cX3_timeOf 9 = .ok (.iaload, 1) := by decide +kernel
theorem dX3_timeOf_10 : decode cX3_timeOf 10 = .ok (.iaload, 1) := by decide +kernel
theorem dX3_timeOf_11 : decode cX3_timeOf 11 = .ok (.ireturn, 1) := by decide +kernel
set_option maxRecDepth 20000 in
theorem ggX4_init_X3_init : GoodIn wsX4_init wsX3_init := goodIn_r _ [22, 23, 2, 3, 24, 25, 26, 27, 28, 29, 30, 61, 62, 63, 64, 65, 66] (by decide +kernel) (by decide +kernel)
set_option maxRecDepth 20000 in
theorem gX4_init_X3_init_n11 : GoodIn wsX4_init (wsX3_init) := ggX4_init_X3_init
set_option maxRecDepth 20000 in
theorem ggX4_init_X1_init : GoodIn wsX4_init wsX1_init := goodIn_r _ [33, 34, 2, 3, 24, 35, 36, 37, 38, 39, 40, 41, 42, 43, 44, 72, 73, 74, 75, 76, 77] (by decide +kernel) (by decide +kernel)
set_option maxRecDepth 20000 in
theorem gX4_init_X1_init : GoodIn wsX4_init (wsX1_init) := ggX4_init_X1_init
set_option maxRecDepth 20000 in
theorem ggX4_init_X2_init : GoodIn wsX4_init wsX2_init := goodIn_r _ [46, 47, 2, 3, 24, 48, 49, 50, 51, 78, 79, 80, 81] (by decide +kernel) (by decide +kernel)
set_option maxRecDepth 20000 in
theorem gX4_init_X2_init_n25 : GoodIn wsX4_init (wsX2_init) := ggX4_init_X2_init
set_option maxRecDepth 20000 in
theorem ggX4_init_X0_init : GoodIn wsX4_init wsX0_init := goodIn_r _ [54, 55, 2, 3, 24, 56, 57, 58, 59, 60, 42, 43, 44, 82, 83, 84, 85] (by decide +kernel) (by decide +kernel)
set_option maxRecDepth 20000 in
theorem gX4_init_X0_init : GoodIn wsX4_init (wsX0_init) := ggX4_init_X0_init
theorem dX4_init_0 : decode cX4_init 0 = .ok (.aload_n 0, 1) := by decide +kernel
theorem dX4_init_1 : decode cX4_init 1 = .ok (.invokespecial 3, 3) := by decide +kernel
theorem dX4_init_4 : decode cX4_init 4 = .ok (.aload_n 0, 1) := by decide +kernel
theorem dX4_init_5 : decode cX4_init 5 = .ok (.new 9, 3) := by decide +kernel
theorem dX4_init_8 : decode cX4_init 8 = .ok (.dup, 1) := by decide +kernel
theorem dX4_init_9 : decode cX4_init 9 = .ok (.invokespecial 11, 3) := by decide +kernel
theorem dX4_init_12 : decode cX4_init 12 = .ok (.putfield 12, 3) := by decide +kernel
theorem dX4_init_15 : decode cX4_init 15 = .ok (.aload_n 0, 1) := by decide +kernel
theorem dX4_init_16 : decode cX4_init 16 = .ok (.new 16, 3) := by decide +kernel
theorem dX4_init_19 : decode cX4_init 19 = .ok (.dup, 1) := by decide +kernel
theorem dX4_init_20 : decode cX4_init 20 = .ok (.invokespecial 18, 3) := by decide +kernel
theorem dX4_init_23 : decode cX4_init 23 = .ok (.putfield 19, 3) := by decide +kernel
theorem dX4_init_26 : decode cX4_init 26 = .ok (.aload_n 0, 1) := by decide +kernel
theorem dX4_init_27 : decode cX4_init 27 = .ok (.new 23, 3) := by decide +kernel
theorem dX4_init_30 : decode cX4_init 30 = .ok (.dup, 1) := by decide +kernel
theorem dX4_init_31 : decode cX4_init 31 = .ok (.invokespecial 25, 3) := by decide +kernel
theorem dX4_init_34 : decode cX4_init 34 = .ok (.putfield 26, 3) := by decide +kernel
theorem dX4_init_37 : decode cX4_init 37 = .ok (.aload_n 0, 1) := by decide +kernel
theorem dX4_init_38 : decode cX4_init 38 = .ok (.new 30, 3) := by decide +kernel
theorem dX4_init_41 : decode cX4_init 41 = .ok (.dup, 1) := by decide +kernel
theorem dX4_init_42 : decode cX4_init 42 = .ok (.invokespecial 32, 3) := by decide +kernel
theorem dX4_init_45 : decode cX4_init 45 = .ok (.putfield 33, 3) := by decide +kernel
theorem dX4_init_48 : decode cX4_init 48 = .ok (.aload_n 0, 1) := by decide +kernel
theorem dX4_init_49 : decode cX4_init 49 = .ok (.iconst 0, 1) := by decide +kernel
theorem dX4_init_50 : decode cX4_init 50 = .ok (.putfield 37, 3) := by decide +kernel
theorem dX4_init_53 : decode cX4_init 53 = .ok (.return_, 1) := by decide +kernel
set_option maxRecDepth 20000 in
theorem ggX4_state_X4_isZeroOrOne : GoodIn wsX4_state wsX4_isZeroOrOne := goodIn_r _ [6] (by decide +kernel) (by decide +kernel)
set_option maxRecDepth 20000 in
theorem gX4_state_X4_isZeroOrOne : GoodIn wsX4_state (va_wsS RX4 41 yX4_isZeroOrOne wsX4_isZeroOrOne) := goodIn_app (goodIn_of _ (by decide +kernel)) ggX4_state_X4_isZeroOrOne
set_option maxRecDepth 20000 in
theorem ggX4_state_X4_isSpan : GoodIn wsX4_state wsX4_isSpan := goodIn_r _ [9, 10] (by decide +kernel) (by decide +kernel)
set_option maxRecDepth 20000 in
theorem gX4_state_X4_isSpan : GoodIn wsX4_state (va_wsS RX4 45 yX4_isSpan wsX4_isSpan) := goodIn_app (goodIn_of _ (by decide +kernel)) ggX4_state_X4_isSpan
set_option maxRecDepth 20000 in
theorem ggX4_state_X3_make : GoodIn wsX4_state wsX3_make := goodIn_r _ [15, 16, 17, 18, 19, 20, 26, 27, 28, 29, 30, 31] (by decide +kernel) (by decide +kernel)
set_option maxRecDepth 20000 in
theorem gX4_state_X3_make : GoodIn wsX4_state (wsV RX4 51 RX3 yX3_make wsX3_make) := goodIn_app (goodIn_of _ (by decide +kernel)) ggX4_state_X3_make
theorem dX4_state_0 : decode cX4_state 0 = .ok (.iload_n 1, 1) := by decide +kernel
theorem dX4_state_1 : decode cX4_state 1 = .ok (.invokestatic 41, 3) := by decide +kernel
theorem dX4_state_4 : decode cX4_state 4 = .ok (.ifCond .eq 25, 3) := by decide +kernel
theorem dX4_state_7 : decode cX4_state 7 = .ok (.iload_n 2, 1) := by decide +kernel
theorem dX4_state_8 : decode cX4_state 8 = .ok (.invokestatic 41, 3) := by decide +kernel
theorem dX4_state_11 : decode cX4_state 11 = .ok (.ifCond .eq 18, 3) := by decide +kernel
theorem dX4_state_14 : decode cX4_state 14 = .ok (.iload 4, 2) := by decide +kernel
theorem dX4_state_16 : decode cX4_state 16 = .ok (.invokestatic 41, 3) := by decide +kernel
theorem dX4_state_19 : decode cX4_state 19 = .ok (.ifCond .eq 10, 3) := by decide +kernel
theorem dX4_state_22 : decode cX4_state 22 = .ok (.iload_n 3, 1) := by decide +kernel
theorem dX4_state_23 : decode cX4_state 23 = .ok (.invokestatic 45, 3) := by decide +kernel
theorem dX4_state_26 : decode cX4_state 26 = .ok (.ifCond .ne 5, 3) := by decide +kernel
theorem dX4_state_29 : decode cX4_state 29 = .ok (.iconst (-1), 1) := by decide +kernel
theorem dX4_state_30 : decode cX4_state 30 = .ok (.ireturn, 1) := by decide +kernel
theorem dX4_state_31 : decode cX4_state 31 = .ok (.aload_n 0, 1) := by decide +kernel
theorem dX4_state_32 : decode cX4_state 32 = .ok (.getfield 12, 3) := by decide +kernel
theorem dX4_state_35 : decode cX4_state 35 = .ok (.getfield 48, 3) := by decide +kernel
theorem dX4_state_38 : decode cX4_state 38 = .ok (.bipush 6, 2) := by decide +kernel
theorem dX4_state_40 : decode cX4_state 40 = .ok (.if_icmp .lt 6, 3) := by decide +kernel
theorem dX4_state_43 : decode cX4_state 43 = .ok (.bipush (-3), 2) := by decide +kernel
theorem dX4_state_45 : decode cX4_state 45 = .ok (.ireturn, 1) := by decide +kernel
theorem dX4_state_46 : decode cX4_state 46 = .ok (.aload_n 0, 1) := by decide +kernel
theorem dX4_state_47 : decode cX4_state 47 = .ok (.getfield 12, 3) := by decide +kernel
theorem dX4_state_50 : decode cX4_state 50 = .ok (.iload_n 1, 1) := by decide +kernel
theorem dX4_state_51 : decode cX4_state 51 = .ok (.iload_n 2, 1) := by decide +kernel
theorem dX4_state_52 : decode cX4_state 52 = .ok (.iload_n 3, 1) := by decide +kernel
theorem dX4_state_53 : decode cX4_state 53 = .ok (.iload 4, 2) := by decide +kernel
theorem dX4_state_55 : decode cX4_state 55 = .ok (.invokevirtual 51, 3) := by decide +kernel
theorem dX4_state_58 : decode cX4_state 58 = .ok (.ireturn, 1) := by decide +kernel
set_option maxRecDepth 20000 in
theorem ggX4_put_X4_isNumberFor : GoodIn wsX4_put wsX4_isNumberFor := goodIn_r _ [5, 6, 7, 8, 9, 4, 10, 11, 12, 13, 14, 15, 16, 17, 18, 19, 20, 21, 22, 23, 24, 113, 114, 115, 116, 117, 118, 119, 120, 121, 122, 123] (by decide +kernel) (by decide +kernel)
set_option maxRecDepth 20000 in
theorem gX4_put_X4_isNumberFor : GoodIn wsX4_put (wsV RX4 55 RX4 yX4_isNumberFor wsX4_isNumberFor) := goodIn_app (goodIn_of _ (by decide +kernel)) ggX4_put_X4_isNumberFor
