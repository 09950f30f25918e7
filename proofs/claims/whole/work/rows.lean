section
-- ===== PART A: goes FIRST, ahead of the names: the tables' words, and 'selects' of the private methods out of them =====
/-- a private method of a class that the tables say can be made, by its rows of tables_1 -/
def lw_okq (q : MethodName × Nat) : Prop := (q.1.cls ≠ "java/lang/invoke/MethodHandle" ∧ q.1.cls ≠ "java/lang/invoke/VarHandle") ∧ Cond.instantiable q.1.cls q.2 ∈ tables_1 ∧ Cond.privateMethod q.1 ∈ tables_1 ∧ Cond.instanceMethod q.1 ∈ tables_1
theorem lw_p0 : lw_okq (⟨"StateEnds", "isNumberFor", "(III)Z"⟩, 5) := ⟨⟨by decide +kernel, by decide +kernel⟩, List.mem_of_getElem? (i := 9) (by decide +kernel), List.mem_of_getElem? (i := 161) (by decide +kernel), List.mem_of_getElem? (i := 162) (by decide +kernel)⟩
theorem lw_p1 : lw_okq (⟨"StateEnds", "isStateAndKey", "(II)Z"⟩, 5) := ⟨⟨by decide +kernel, by decide +kernel⟩, List.mem_of_getElem? (i := 9) (by decide +kernel), List.mem_of_getElem? (i := 165) (by decide +kernel), List.mem_of_getElem? (i := 166) (by decide +kernel)⟩
theorem lw_p2 : lw_okq (⟨"StateEnds", "placeOf", "(IIZ)I"⟩, 5) := ⟨⟨by decide +kernel, by decide +kernel⟩, List.mem_of_getElem? (i := 9) (by decide +kernel), List.mem_of_getElem? (i := 183) (by decide +kernel), List.mem_of_getElem? (i := 184) (by decide +kernel)⟩
theorem lw_p3 : lw_okq (⟨"StateEnds", "isShown", "(I)Z"⟩, 5) := ⟨⟨by decide +kernel, by decide +kernel⟩, List.mem_of_getElem? (i := 9) (by decide +kernel), List.mem_of_getElem? (i := 187) (by decide +kernel), List.mem_of_getElem? (i := 188) (by decide +kernel)⟩
theorem lw_p4 : lw_okq (⟨"StateEnds", "leftOf", "(I)I"⟩, 5) := ⟨⟨by decide +kernel, by decide +kernel⟩, List.mem_of_getElem? (i := 9) (by decide +kernel), List.mem_of_getElem? (i := 191) (by decide +kernel), List.mem_of_getElem? (i := 192) (by decide +kernel)⟩
theorem lw_p5 : lw_okq (⟨"StateEnds", "bring", "(II)Z"⟩, 5) := ⟨⟨by decide +kernel, by decide +kernel⟩, List.mem_of_getElem? (i := 9) (by decide +kernel), List.mem_of_getElem? (i := 203) (by decide +kernel), List.mem_of_getElem? (i := 204) (by decide +kernel)⟩
theorem lw_p6 : lw_okq (⟨"StateEnds", "write", "(II)V"⟩, 5) := ⟨⟨by decide +kernel, by decide +kernel⟩, List.mem_of_getElem? (i := 9) (by decide +kernel), List.mem_of_getElem? (i := 219) (by decide +kernel), List.mem_of_getElem? (i := 220) (by decide +kernel)⟩
theorem lw_p7 : lw_okq (⟨"StateEnds", "stamp", "(II)V"⟩, 5) := ⟨⟨by decide +kernel, by decide +kernel⟩, List.mem_of_getElem? (i := 9) (by decide +kernel), List.mem_of_getElem? (i := 223) (by decide +kernel), List.mem_of_getElem? (i := 224) (by decide +kernel)⟩
theorem lw_p8 : lw_okq (⟨"StateEnds", "tell", "(I)V"⟩, 5) := ⟨⟨by decide +kernel, by decide +kernel⟩, List.mem_of_getElem? (i := 9) (by decide +kernel), List.mem_of_getElem? (i := 227) (by decide +kernel), List.mem_of_getElem? (i := 228) (by decide +kernel)⟩
theorem lw_p9 : lw_okq (⟨"StateEnds", "read", "(I)I"⟩, 5) := ⟨⟨by decide +kernel, by decide +kernel⟩, List.mem_of_getElem? (i := 9) (by decide +kernel), List.mem_of_getElem? (i := 251) (by decide +kernel), List.mem_of_getElem? (i := 252) (by decide +kernel)⟩
theorem lw_p10 : lw_okq (⟨"StateEnds", "isListFor", "(II)Z"⟩, 5) := ⟨⟨by decide +kernel, by decide +kernel⟩, List.mem_of_getElem? (i := 9) (by decide +kernel), List.mem_of_getElem? (i := 272) (by decide +kernel), List.mem_of_getElem? (i := 273) (by decide +kernel)⟩
theorem lw_p11 : lw_okq (⟨"StateEnds", "howMany", "(IIZ)I"⟩, 5) := ⟨⟨by decide +kernel, by decide +kernel⟩, List.mem_of_getElem? (i := 9) (by decide +kernel), List.mem_of_getElem? (i := 276) (by decide +kernel), List.mem_of_getElem? (i := 277) (by decide +kernel)⟩
theorem lw_p12 : lw_okq (⟨"StateEnds", "isOfKey", "(III)Z"⟩, 5) := ⟨⟨by decide +kernel, by decide +kernel⟩, List.mem_of_getElem? (i := 9) (by decide +kernel), List.mem_of_getElem? (i := 280) (by decide +kernel), List.mem_of_getElem? (i := 281) (by decide +kernel)⟩
theorem lw_p13 : lw_okq (⟨"StateEnds", "isMemberOrIndexFor", "(III)Z"⟩, 5) := ⟨⟨by decide +kernel, by decide +kernel⟩, List.mem_of_getElem? (i := 9) (by decide +kernel), List.mem_of_getElem? (i := 301) (by decide +kernel), List.mem_of_getElem? (i := 302) (by decide +kernel)⟩
theorem lw_p14 : lw_okq (⟨"StateEnds", "slotFor", "(III)I"⟩, 5) := ⟨⟨by decide +kernel, by decide +kernel⟩, List.mem_of_getElem? (i := 9) (by decide +kernel), List.mem_of_getElem? (i := 305) (by decide +kernel), List.mem_of_getElem? (i := 306) (by decide +kernel)⟩
theorem lw_p15 : lw_okq (⟨"StateEnds", "indexFor", "(II)I"⟩, 5) := ⟨⟨by decide +kernel, by decide +kernel⟩, List.mem_of_getElem? (i := 9) (by decide +kernel), List.mem_of_getElem? (i := 309) (by decide +kernel), List.mem_of_getElem? (i := 310) (by decide +kernel)⟩
def lw_privs_1 : List (MethodName × Nat) := [(⟨"StateEnds", "isNumberFor", "(III)Z"⟩, 5), (⟨"StateEnds", "isStateAndKey", "(II)Z"⟩, 5), (⟨"StateEnds", "placeOf", "(IIZ)I"⟩, 5), (⟨"StateEnds", "isShown", "(I)Z"⟩, 5), (⟨"StateEnds", "leftOf", "(I)I"⟩, 5), (⟨"StateEnds", "bring", "(II)Z"⟩, 5), (⟨"StateEnds", "write", "(II)V"⟩, 5), (⟨"StateEnds", "stamp", "(II)V"⟩, 5), (⟨"StateEnds", "tell", "(I)V"⟩, 5), (⟨"StateEnds", "read", "(I)I"⟩, 5), (⟨"StateEnds", "isListFor", "(II)Z"⟩, 5), (⟨"StateEnds", "howMany", "(IIZ)I"⟩, 5), (⟨"StateEnds", "isOfKey", "(III)Z"⟩, 5), (⟨"StateEnds", "isMemberOrIndexFor", "(III)Z"⟩, 5), (⟨"StateEnds", "slotFor", "(III)I"⟩, 5), (⟨"StateEnds", "indexFor", "(II)I"⟩, 5)]
theorem lw_r1 : ∀ q ∈ lw_privs_1, lw_okq q := List.forall_mem_cons.mpr ⟨lw_p0, List.forall_mem_cons.mpr ⟨lw_p1, List.forall_mem_cons.mpr ⟨lw_p2, List.forall_mem_cons.mpr ⟨lw_p3, List.forall_mem_cons.mpr ⟨lw_p4, List.forall_mem_cons.mpr ⟨lw_p5, List.forall_mem_cons.mpr ⟨lw_p6, List.forall_mem_cons.mpr ⟨lw_p7, List.forall_mem_cons.mpr ⟨lw_p8, List.forall_mem_cons.mpr ⟨lw_p9, List.forall_mem_cons.mpr ⟨lw_p10, List.forall_mem_cons.mpr ⟨lw_p11, List.forall_mem_cons.mpr ⟨lw_p12, List.forall_mem_cons.mpr ⟨lw_p13, List.forall_mem_cons.mpr ⟨lw_p14, List.forall_mem_cons.mpr ⟨lw_p15, fun _ h => absurd h List.not_mem_nil⟩⟩⟩⟩⟩⟩⟩⟩⟩⟩⟩⟩⟩⟩⟩⟩
theorem lw_p16 : lw_okq (⟨"StateEnds", "moveClock", "(II)I"⟩, 5) := ⟨⟨by decide +kernel, by decide +kernel⟩, List.mem_of_getElem? (i := 9) (by decide +kernel), List.mem_of_getElem? (i := 318) (by decide +kernel), List.mem_of_getElem? (i := 319) (by decide +kernel)⟩
theorem lw_p17 : lw_okq (⟨"StateEnds", "howManyShown", "()I"⟩, 5) := ⟨⟨by decide +kernel, by decide +kernel⟩, List.mem_of_getElem? (i := 9) (by decide +kernel), List.mem_of_getElem? (i := 322) (by decide +kernel), List.mem_of_getElem? (i := 323) (by decide +kernel)⟩
theorem lw_p18 : lw_okq (⟨"StateEnds", "spanShownAnew", "(I)V"⟩, 5) := ⟨⟨by decide +kernel, by decide +kernel⟩, List.mem_of_getElem? (i := 9) (by decide +kernel), List.mem_of_getElem? (i := 338) (by decide +kernel), List.mem_of_getElem? (i := 339) (by decide +kernel)⟩
theorem lw_p19 : lw_okq (⟨"StateEndsModel", "isForm", "(II)Z"⟩, 20) := ⟨⟨by decide +kernel, by decide +kernel⟩, List.mem_of_getElem? (i := 390) (by decide +kernel), List.mem_of_getElem? (i := 470) (by decide +kernel), List.mem_of_getElem? (i := 471) (by decide +kernel)⟩
theorem lw_p20 : lw_okq (⟨"StateEndsModel", "isState", "(I)Z"⟩, 20) := ⟨⟨by decide +kernel, by decide +kernel⟩, List.mem_of_getElem? (i := 390) (by decide +kernel), List.mem_of_getElem? (i := 474) (by decide +kernel), List.mem_of_getElem? (i := 475) (by decide +kernel)⟩
theorem lw_p21 : lw_okq (⟨"StateEndsModel", "find", "(III)I"⟩, 20) := ⟨⟨by decide +kernel, by decide +kernel⟩, List.mem_of_getElem? (i := 390) (by decide +kernel), List.mem_of_getElem? (i := 478) (by decide +kernel), List.mem_of_getElem? (i := 479) (by decide +kernel)⟩
theorem lw_p22 : lw_okq (⟨"StateEndsModel", "isShown", "(I)Z"⟩, 20) := ⟨⟨by decide +kernel, by decide +kernel⟩, List.mem_of_getElem? (i := 390) (by decide +kernel), List.mem_of_getElem? (i := 482) (by decide +kernel), List.mem_of_getElem? (i := 483) (by decide +kernel)⟩
theorem lw_p23 : lw_okq (⟨"StateEndsModel", "clockOf", "(I)I"⟩, 20) := ⟨⟨by decide +kernel, by decide +kernel⟩, List.mem_of_getElem? (i := 390) (by decide +kernel), List.mem_of_getElem? (i := 486) (by decide +kernel), List.mem_of_getElem? (i := 487) (by decide +kernel)⟩
theorem lw_p24 : lw_okq (⟨"StateEndsModel", "free", "()I"⟩, 20) := ⟨⟨by decide +kernel, by decide +kernel⟩, List.mem_of_getElem? (i := 390) (by decide +kernel), List.mem_of_getElem? (i := 490) (by decide +kernel), List.mem_of_getElem? (i := 491) (by decide +kernel)⟩
theorem lw_p25 : lw_okq (⟨"StateEndsModel", "tells", "(I)V"⟩, 20) := ⟨⟨by decide +kernel, by decide +kernel⟩, List.mem_of_getElem? (i := 390) (by decide +kernel), List.mem_of_getElem? (i := 494) (by decide +kernel), List.mem_of_getElem? (i := 495) (by decide +kernel)⟩
theorem lw_p26 : lw_okq (⟨"StateEndsModel", "writes", "(IIIII)V"⟩, 20) := ⟨⟨by decide +kernel, by decide +kernel⟩, List.mem_of_getElem? (i := 390) (by decide +kernel), List.mem_of_getElem? (i := 498) (by decide +kernel), List.mem_of_getElem? (i := 499) (by decide +kernel)⟩
theorem lw_p27 : lw_okq (⟨"StateEndsModel", "stamps", "(I)V"⟩, 20) := ⟨⟨by decide +kernel, by decide +kernel⟩, List.mem_of_getElem? (i := 390) (by decide +kernel), List.mem_of_getElem? (i := 502) (by decide +kernel), List.mem_of_getElem? (i := 503) (by decide +kernel)⟩
theorem lw_p28 : lw_okq (⟨"StateEndsModel", "read", "(I)I"⟩, 20) := ⟨⟨by decide +kernel, by decide +kernel⟩, List.mem_of_getElem? (i := 390) (by decide +kernel), List.mem_of_getElem? (i := 510) (by decide +kernel), List.mem_of_getElem? (i := 511) (by decide +kernel)⟩
theorem lw_p29 : lw_okq (⟨"StateEndsModel", "findIn", "(IIIZ)I"⟩, 20) := ⟨⟨by decide +kernel, by decide +kernel⟩, List.mem_of_getElem? (i := 390) (by decide +kernel), List.mem_of_getElem? (i := 530) (by decide +kernel), List.mem_of_getElem? (i := 531) (by decide +kernel)⟩
theorem lw_p30 : lw_okq (⟨"StateEndsModel", "isAsked", "(III)Z"⟩, 20) := ⟨⟨by decide +kernel, by decide +kernel⟩, List.mem_of_getElem? (i := 390) (by decide +kernel), List.mem_of_getElem? (i := 543) (by decide +kernel), List.mem_of_getElem? (i := 544) (by decide +kernel)⟩
theorem lw_p31 : lw_okq (⟨"StateEndsModel", "asked", "(IIIZ)I"⟩, 20) := ⟨⟨by decide +kernel, by decide +kernel⟩, List.mem_of_getElem? (i := 390) (by decide +kernel), List.mem_of_getElem? (i := 547) (by decide +kernel), List.mem_of_getElem? (i := 548) (by decide +kernel)⟩
def lw_privs_2 : List (MethodName × Nat) := [(⟨"StateEnds", "moveClock", "(II)I"⟩, 5), (⟨"StateEnds", "howManyShown", "()I"⟩, 5), (⟨"StateEnds", "spanShownAnew", "(I)V"⟩, 5), (⟨"StateEndsModel", "isForm", "(II)Z"⟩, 20), (⟨"StateEndsModel", "isState", "(I)Z"⟩, 20), (⟨"StateEndsModel", "find", "(III)I"⟩, 20), (⟨"StateEndsModel", "isShown", "(I)Z"⟩, 20), (⟨"StateEndsModel", "clockOf", "(I)I"⟩, 20), (⟨"StateEndsModel", "free", "()I"⟩, 20), (⟨"StateEndsModel", "tells", "(I)V"⟩, 20), (⟨"StateEndsModel", "writes", "(IIIII)V"⟩, 20), (⟨"StateEndsModel", "stamps", "(I)V"⟩, 20), (⟨"StateEndsModel", "read", "(I)I"⟩, 20), (⟨"StateEndsModel", "findIn", "(IIIZ)I"⟩, 20), (⟨"StateEndsModel", "isAsked", "(III)Z"⟩, 20), (⟨"StateEndsModel", "asked", "(IIIZ)I"⟩, 20)]
theorem lw_r2 : ∀ q ∈ lw_privs_2, lw_okq q := List.forall_mem_cons.mpr ⟨lw_p16, List.forall_mem_cons.mpr ⟨lw_p17, List.forall_mem_cons.mpr ⟨lw_p18, List.forall_mem_cons.mpr ⟨lw_p19, List.forall_mem_cons.mpr ⟨lw_p20, List.forall_mem_cons.mpr ⟨lw_p21, List.forall_mem_cons.mpr ⟨lw_p22, List.forall_mem_cons.mpr ⟨lw_p23, List.forall_mem_cons.mpr ⟨lw_p24, List.forall_mem_cons.mpr ⟨lw_p25, List.forall_mem_cons.mpr ⟨lw_p26, List.forall_mem_cons.mpr ⟨lw_p27, List.forall_mem_cons.mpr ⟨lw_p28, List.forall_mem_cons.mpr ⟨lw_p29, List.forall_mem_cons.mpr ⟨lw_p30, List.forall_mem_cons.mpr ⟨lw_p31, fun _ h => absurd h List.not_mem_nil⟩⟩⟩⟩⟩⟩⟩⟩⟩⟩⟩⟩⟩⟩⟩⟩
theorem lw_p32 : lw_okq (⟨"StateEndsModel", "comes", "(II)I"⟩, 20) := ⟨⟨by decide +kernel, by decide +kernel⟩, List.mem_of_getElem? (i := 390) (by decide +kernel), List.mem_of_getElem? (i := 560) (by decide +kernel), List.mem_of_getElem? (i := 561) (by decide +kernel)⟩
theorem lw_p33 : lw_okq (⟨"StateEndsModel", "overs", "()I"⟩, 20) := ⟨⟨by decide +kernel, by decide +kernel⟩, List.mem_of_getElem? (i := 390) (by decide +kernel), List.mem_of_getElem? (i := 564) (by decide +kernel), List.mem_of_getElem? (i := 565) (by decide +kernel)⟩
theorem lw_p34 : lw_okq (⟨"StateEndsModel", "isOver", "(I)Z"⟩, 20) := ⟨⟨by decide +kernel, by decide +kernel⟩, List.mem_of_getElem? (i := 390) (by decide +kernel), List.mem_of_getElem? (i := 568) (by decide +kernel), List.mem_of_getElem? (i := 569) (by decide +kernel)⟩
theorem lw_p35 : lw_okq (⟨"StateEndsModel", "nextKept", "(I)I"⟩, 20) := ⟨⟨by decide +kernel, by decide +kernel⟩, List.mem_of_getElem? (i := 390) (by decide +kernel), List.mem_of_getElem? (i := 588) (by decide +kernel), List.mem_of_getElem? (i := 589) (by decide +kernel)⟩
theorem lw_p36 : lw_okq (⟨"StateEndsModel", "isAhead", "(II)Z"⟩, 20) := ⟨⟨by decide +kernel, by decide +kernel⟩, List.mem_of_getElem? (i := 390) (by decide +kernel), List.mem_of_getElem? (i := 592) (by decide +kernel), List.mem_of_getElem? (i := 593) (by decide +kernel)⟩
def lw_privs_3 : List (MethodName × Nat) := [(⟨"StateEndsModel", "comes", "(II)I"⟩, 20), (⟨"StateEndsModel", "overs", "()I"⟩, 20), (⟨"StateEndsModel", "isOver", "(I)Z"⟩, 20), (⟨"StateEndsModel", "nextKept", "(I)I"⟩, 20), (⟨"StateEndsModel", "isAhead", "(II)Z"⟩, 20)]
theorem lw_r3 : ∀ q ∈ lw_privs_3, lw_okq q := List.forall_mem_cons.mpr ⟨lw_p32, List.forall_mem_cons.mpr ⟨lw_p33, List.forall_mem_cons.mpr ⟨lw_p34, List.forall_mem_cons.mpr ⟨lw_p35, List.forall_mem_cons.mpr ⟨lw_p36, fun _ h => absurd h List.not_mem_nil⟩⟩⟩⟩⟩
def lw_privs : List (MethodName × Nat) := lw_privs_1 ++ (lw_privs_2 ++ (lw_privs_3))
def lw_tbl : List Cond := k2_sels lw_privs ++ tables_1
theorem lw_privs_ok : ∀ q ∈ lw_privs, lw_okq q := by
  show ∀ q ∈ lw_privs_1 ++ (lw_privs_2 ++ (lw_privs_3)), lw_okq q
  exact List.forall_mem_append.mpr ⟨lw_r1, List.forall_mem_append.mpr ⟨lw_r2, lw_r3⟩⟩
end
section
/-! ===== BEGIN words of one list among another's, by their places ===== -/
theorem goodIn_r {big : List Cond} (ws : List Cond) (ps : List Nat) (hp : ws = ps.filterMap (fun i => big[i]?)) (h : ws.all goodWord = true) : GoodIn big ws := by
  intro w hw
  have h1 := List.all_eq_true.mp h w hw
  rw [hp] at hw
  obtain ⟨i, -, hi⟩ := List.mem_filterMap.mp hw
  have hm : w ∈ big := by first | exact List.mem_of_getElem? hi | exact List.getElem?_mem hi
  exact ⟨hm, good_of_word h1⟩
theorem goodIn_app {big a b : List Cond} (ha : GoodIn big a) (hb : GoodIn big b) : GoodIn big (a ++ b) := fun w h => (List.mem_append.mp h).elim (ha w) (hb w)
theorem goodIn_ca {big a b : List Cond} {c : Cond} (ha : GoodIn big (c :: a)) (hb : GoodIn big b) : GoodIn big (c :: (a ++ b)) := fun w h => (List.mem_cons.mp h).elim (fun e => ha w (List.mem_cons.mpr (Or.inl e))) (fun h => (List.mem_append.mp h).elim (fun h => ha w (List.mem_cons.mpr (Or.inr h))) (hb w))
theorem goodIn_sub {big ws : List Cond} (hm : ∀ w ∈ ws, w ∈ big) (h : ws.all goodWord = true) : GoodIn big ws := fun w hw => ⟨hm w hw, good_of_word (List.all_eq_true.mp h w hw)⟩
/-! ===== END ===== -/

/-! ===== BEGIN printed: names, fields, word lists, decode rows ===== -/
def RX0 : String := "StateEnds$Marks"
def TX0 : u_T := fun k => match k with
  | 0 => ("StateEnds$Marks", "slots", "[I", true)
  | 1 => ("StateEnds$Marks", "numbers", "[I", true)
  | 2 => ("StateEnds$Marks", "lefts", "[I", true)
  | _ => ("StateEnds$Marks", "sizes", "[I", true)
def tyX0 : Nat → FieldType := fun k => match k with
  | 0 => .array .int
  | 1 => .array .int
  | 2 => .array .int
  | _ => .array .int
abbrev wsX00 : List Cond := u_ws RX0 TX0 4
theorem nmX0 : ∀ a, a < 4 → ∀ b, b < 4 → a ≠ b → (TX0 a).2.1 ≠ (TX0 b).2.1 := by decide +kernel
theorem tyX0_ok : ∀ k, k < 4 → parseFieldDescriptor (TX0 k).2.2.1 = some (tyX0 k) := by decide +kernel
abbrev cX0_init : ByteArray := prog_2_method_1_code
def yX0_init : MethodName := ⟨RX0, "<init>", "()V"⟩
abbrev cX0_begin : ByteArray := prog_2_method_2_code
def yX0_begin : MethodName := ⟨RX0, "begin", "(I)V"⟩
abbrev cX0_keep : ByteArray := prog_2_method_3_code
def yX0_keep : MethodName := ⟨RX0, "keep", "(IIII)V"⟩
abbrev cX0_indexOf : ByteArray := prog_2_method_4_code
def yX0_indexOf : MethodName := ⟨RX0, "indexOf", "(II)I"⟩
def RX1 : String := "StateEnds$Places"
def TX1 : u_T := fun k => match k with
  | 0 => ("StateEnds$Places", "slots", "[I", true)
  | 1 => ("StateEnds$Places", "numbers", "[I", true)
  | 2 => ("StateEnds$Places", "stamps", "[I", true)
  | 3 => ("StateEnds$Places", "ends", "[I", true)
  | 4 => ("StateEnds$Places", "line", "[I", true)
  | _ => ("StateEnds$Places", "taken", "I", false)
def tyX1 : Nat → FieldType := fun k => match k with
  | 0 => .array .int
  | 1 => .array .int
  | 2 => .array .int
  | 3 => .array .int
  | 4 => .array .int
  | _ => .int
abbrev wsX10 : List Cond := u_ws RX1 TX1 6
theorem nmX1 : ∀ a, a < 6 → ∀ b, b < 6 → a ≠ b → (TX1 a).2.1 ≠ (TX1 b).2.1 := by decide +kernel
theorem tyX1_ok : ∀ k, k < 6 → parseFieldDescriptor (TX1 k).2.2.1 = some (tyX1 k) := by decide +kernel
abbrev cX1_init : ByteArray := prog_3_method_1_code
def yX1_init : MethodName := ⟨RX1, "<init>", "()V"⟩
abbrev cX1_isTaken : ByteArray := prog_3_method_2_code
def yX1_isTaken : MethodName := ⟨RX1, "isTaken", "(I)Z"⟩
abbrev cX1_stateAt : ByteArray := prog_3_method_3_code
def yX1_stateAt : MethodName := ⟨RX1, "stateAt", "(I)I"⟩
abbrev cX1_keyAt : ByteArray := prog_3_method_4_code
def yX1_keyAt : MethodName := ⟨RX1, "keyAt", "(I)I"⟩
abbrev cX1_memberAt : ByteArray := prog_3_method_5_code
def yX1_memberAt : MethodName := ⟨RX1, "memberAt", "(I)I"⟩
abbrev cX1_leastFree : ByteArray := prog_3_method_6_code
def yX1_leastFree : MethodName := ⟨RX1, "leastFree", "()I"⟩
abbrev cX1_take : ByteArray := prog_3_method_7_code
def yX1_take : MethodName := ⟨RX1, "take", "(II)V"⟩
abbrev cX1_vacate : ByteArray := prog_3_method_8_code
def yX1_vacate : MethodName := ⟨RX1, "vacate", "(I)V"⟩
abbrev cX1_vacateAll : ByteArray := prog_3_method_9_code
def yX1_vacateAll : MethodName := ⟨RX1, "vacateAll", "()V"⟩
def RX2 : String := "StateEnds$Rows"
def TX2 : u_T := fun k => match k with
  | 0 => ("StateEnds$Rows", "cells", "[I", true)
  | 1 => ("StateEnds$Rows", "first", "I", false)
  | 2 => ("StateEnds$Rows", "kept", "I", false)
  | _ => ("StateEnds$Rows", "ever", "I", false)
def tyX2 : Nat → FieldType := fun k => match k with
  | 0 => .array .int
  | 1 => .int
  | 2 => .int
  | _ => .int
abbrev wsX20 : List Cond := u_ws RX2 TX2 4
theorem nmX2 : ∀ a, a < 4 → ∀ b, b < 4 → a ≠ b → (TX2 a).2.1 ≠ (TX2 b).2.1 := by decide +kernel
theorem tyX2_ok : ∀ k, k < 4 → parseFieldDescriptor (TX2 k).2.2.1 = some (tyX2 k) := by decide +kernel
abbrev cX2_init : ByteArray := prog_4_method_1_code
def yX2_init : MethodName := ⟨RX2, "<init>", "()V"⟩
abbrev cX2_begin : ByteArray := prog_4_method_2_code
def yX2_begin : MethodName := ⟨RX2, "begin", "()I"⟩
abbrev cX2_cell : ByteArray := prog_4_method_3_code
def yX2_cell : MethodName := ⟨RX2, "cell", "(II)I"⟩
abbrev cX2_indexOf : ByteArray := prog_4_method_4_code
def yX2_indexOf : MethodName := ⟨RX2, "indexOf", "(I)I"⟩
def RX3 : String := "StateEnds$States"
def TX3 : u_T := fun k => match k with
  | 0 => ("StateEnds$States", "forms", "[I", true)
  | 1 => ("StateEnds$States", "clocks", "[I", true)
  | 2 => ("StateEnds$States", "spans", "[I", true)
  | 3 => ("StateEnds$States", "ways", "[I", true)
  | 4 => ("StateEnds$States", "times", "[I", true)
  | _ => ("StateEnds$States", "made", "I", false)
def tyX3 : Nat → FieldType := fun k => match k with
  | 0 => .array .int
  | 1 => .array .int
  | 2 => .array .int
  | 3 => .array .int
  | 4 => .array .int
  | _ => .int
abbrev wsX30 : List Cond := u_ws RX3 TX3 6
theorem nmX3 : ∀ a, a < 6 → ∀ b, b < 6 → a ≠ b → (TX3 a).2.1 ≠ (TX3 b).2.1 := by decide +kernel
theorem tyX3_ok : ∀ k, k < 6 → parseFieldDescriptor (TX3 k).2.2.1 = some (tyX3 k) := by decide +kernel
abbrev cX3_init : ByteArray := prog_5_method_1_code
def yX3_init : MethodName := ⟨RX3, "<init>", "()V"⟩
abbrev cX3_make : ByteArray := prog_5_method_2_code
def yX3_make : MethodName := ⟨RX3, "make", "(IIII)I"⟩
abbrev cX3_has : ByteArray := prog_5_method_3_code
def yX3_has : MethodName := ⟨RX3, "has", "(I)Z"⟩
abbrev cX3_isList : ByteArray := prog_5_method_4_code
def yX3_isList : MethodName := ⟨RX3, "isList", "(I)Z"⟩
abbrev cX3_isStampedByReads : ByteArray := prog_5_method_5_code
def yX3_isStampedByReads : MethodName := ⟨RX3, "isStampedByReads", "(I)Z"⟩
abbrev cX3_timeOf : ByteArray := prog_5_method_6_code
def yX3_timeOf : MethodName := ⟨RX3, "timeOf", "(I)I"⟩
def RX4 : String := "StateEnds"
def TX4 : u_T := fun k => match k with
  | 0 => ("StateEnds", "states", "LStateEnds$States;", true)
  | 1 => ("StateEnds", "places", "LStateEnds$Places;", true)
  | 2 => ("StateEnds", "rows", "LStateEnds$Rows;", true)
  | 3 => ("StateEnds", "marks", "LStateEnds$Marks;", true)
  | _ => ("StateEnds", "sweepFrom", "I", false)
def tyX4 : Nat → FieldType := fun k => match k with
  | 0 => .object "StateEnds$States"
  | 1 => .object "StateEnds$Places"
  | 2 => .object "StateEnds$Rows"
  | 3 => .object "StateEnds$Marks"
  | _ => .int
abbrev wsX40 : List Cond := u_ws RX4 TX4 5
theorem nmX4 : ∀ a, a < 5 → ∀ b, b < 5 → a ≠ b → (TX4 a).2.1 ≠ (TX4 b).2.1 := by decide +kernel
theorem tyX4_ok : ∀ k, k < 5 → parseFieldDescriptor (TX4 k).2.2.1 = some (tyX4 k) := by decide +kernel
abbrev cX4_init : ByteArray := prog_1_method_1_code
def yX4_init : MethodName := ⟨RX4, "<init>", "()V"⟩
abbrev cX4_state : ByteArray := prog_1_method_2_code
def yX4_state : MethodName := ⟨RX4, "state", "(IIII)I"⟩
abbrev cX4_put : ByteArray := prog_1_method_3_code
def yX4_put : MethodName := ⟨RX4, "put", "(IIII)I"⟩
abbrev cX4_get : ByteArray := prog_1_method_4_code
def yX4_get : MethodName := ⟨RX4, "get", "(III)I"⟩
abbrev cX4_remove : ByteArray := prog_1_method_5_code
def yX4_remove : MethodName := ⟨RX4, "remove", "(III)I"⟩
abbrev cX4_add : ByteArray := prog_1_method_6_code
def yX4_add : MethodName := ⟨RX4, "add", "(III)I"⟩
abbrev cX4_at : ByteArray := prog_1_method_7_code
def yX4_at : MethodName := ⟨RX4, "at", "(III)I"⟩
abbrev cX4_clear : ByteArray := prog_1_method_8_code
def yX4_clear : MethodName := ⟨RX4, "clear", "(II)I"⟩
abbrev cX4_held : ByteArray := prog_1_method_9_code
def yX4_held : MethodName := ⟨RX4, "held", "(IIZ)I"⟩
abbrev cX4_left : ByteArray := prog_1_method_10_code
def yX4_left : MethodName := ⟨RX4, "left", "(III)I"⟩
abbrev cX4_tick : ByteArray := prog_1_method_11_code
def yX4_tick : MethodName := ⟨RX4, "tick", "(I)I"⟩
abbrev cX4_watermark : ByteArray := prog_1_method_12_code
def yX4_watermark : MethodName := ⟨RX4, "watermark", "(I)I"⟩
abbrev cX4_sweep : ByteArray := prog_1_method_13_code
def yX4_sweep : MethodName := ⟨RX4, "sweep", "(I)I"⟩
abbrev cX4_setting : ByteArray := prog_1_method_14_code
def yX4_setting : MethodName := ⟨RX4, "setting", "(IIZ)I"⟩
abbrev cX4_mark : ByteArray := prog_1_method_15_code
def yX4_mark : MethodName := ⟨RX4, "mark", "(I)I"⟩
abbrev cX4_restore : ByteArray := prog_1_method_16_code
def yX4_restore : MethodName := ⟨RX4, "restore", "(I)I"⟩
abbrev cX4_row : ByteArray := prog_1_method_17_code
def yX4_row : MethodName := ⟨RX4, "row", "(II)I"⟩
abbrev cX4_place : ByteArray := prog_1_method_18_code
def yX4_place : MethodName := ⟨RX4, "place", "(III)I"⟩
abbrev cX4_next : ByteArray := prog_1_method_19_code
def yX4_next : MethodName := ⟨RX4, "next", "(I)I"⟩
abbrev cX4_count : ByteArray := prog_1_method_20_code
def yX4_count : MethodName := ⟨RX4, "count", "(I)I"⟩
abbrev cX4_isZeroOrOne : ByteArray := prog_1_method_21_code
def yX4_isZeroOrOne : MethodName := ⟨RX4, "isZeroOrOne", "(I)Z"⟩
abbrev cX4_isSpan : ByteArray := prog_1_method_22_code
def yX4_isSpan : MethodName := ⟨RX4, "isSpan", "(I)Z"⟩
abbrev cX4_isMember : ByteArray := prog_1_method_23_code
def yX4_isMember : MethodName := ⟨RX4, "isMember", "(I)Z"⟩
abbrev cX4_isMark : ByteArray := prog_1_method_24_code
def yX4_isMark : MethodName := ⟨RX4, "isMark", "(I)Z"⟩
abbrev cX4_isStateAndKey : ByteArray := prog_1_method_25_code
def yX4_isStateAndKey : MethodName := ⟨RX4, "isStateAndKey", "(II)Z"⟩
abbrev cX4_isNumberFor : ByteArray := prog_1_method_26_code
def yX4_isNumberFor : MethodName := ⟨RX4, "isNumberFor", "(III)Z"⟩
abbrev cX4_isListFor : ByteArray := prog_1_method_27_code
def yX4_isListFor : MethodName := ⟨RX4, "isListFor", "(II)Z"⟩
abbrev cX4_isMemberOrIndexFor : ByteArray := prog_1_method_28_code
def yX4_isMemberOrIndexFor : MethodName := ⟨RX4, "isMemberOrIndexFor", "(III)Z"⟩
abbrev cX4_slotFor : ByteArray := prog_1_method_29_code
def yX4_slotFor : MethodName := ⟨RX4, "slotFor", "(III)I"⟩
abbrev cX4_indexFor : ByteArray := prog_1_method_30_code
def yX4_indexFor : MethodName := ⟨RX4, "indexFor", "(II)I"⟩
abbrev cX4_slotOf : ByteArray := prog_1_method_31_code
def yX4_slotOf : MethodName := ⟨RX4, "slotOf", "(III)I"⟩
abbrev cX4_isOfKey : ByteArray := prog_1_method_32_code
def yX4_isOfKey : MethodName := ⟨RX4, "isOfKey", "(III)Z"⟩
abbrev cX4_isShown : ByteArray := prog_1_method_33_code
def yX4_isShown : MethodName := ⟨RX4, "isShown", "(I)Z"⟩
abbrev cX4_leftOf : ByteArray := prog_1_method_34_code
def yX4_leftOf : MethodName := ⟨RX4, "leftOf", "(I)I"⟩
abbrev cX4_placeOf : ByteArray := prog_1_method_35_code
def yX4_placeOf : MethodName := ⟨RX4, "placeOf", "(IIZ)I"⟩
abbrev cX4_howMany : ByteArray := prog_1_method_36_code
def yX4_howMany : MethodName := ⟨RX4, "howMany", "(IIZ)I"⟩
abbrev cX4_howManyShown : ByteArray := prog_1_method_37_code
def yX4_howManyShown : MethodName := ⟨RX4, "howManyShown", "()I"⟩
abbrev cX4_bring : ByteArray := prog_1_method_38_code
def yX4_bring : MethodName := ⟨RX4, "bring", "(II)Z"⟩
abbrev cX4_write : ByteArray := prog_1_method_39_code
def yX4_write : MethodName := ⟨RX4, "write", "(II)V"⟩
abbrev cX4_stamp : ByteArray := prog_1_method_40_code
def yX4_stamp : MethodName := ⟨RX4, "stamp", "(II)V"⟩
abbrev cX4_read : ByteArray := prog_1_method_41_code
def yX4_read : MethodName := ⟨RX4, "read", "(I)I"⟩
abbrev cX4_tell : ByteArray := prog_1_method_42_code
def yX4_tell : MethodName := ⟨RX4, "tell", "(I)V"⟩
abbrev cX4_moveClock : ByteArray := prog_1_method_43_code
def yX4_moveClock : MethodName := ⟨RX4, "moveClock", "(II)I"⟩
abbrev cX4_spanShownAnew : ByteArray := prog_1_method_44_code
def yX4_spanShownAnew : MethodName := ⟨RX4, "spanShownAnew", "(I)V"⟩
def RX5 : String := "StateEndsModel"
def TX5 : u_T := fun k => match k with
  | 0 => ("StateEndsModel", "states", "I", false)
  | 1 => ("StateEndsModel", "forms", "[I", true)
  | 2 => ("StateEndsModel", "clocks", "[I", true)
  | 3 => ("StateEndsModel", "spans", "[I", true)
  | 4 => ("StateEndsModel", "ways", "[I", true)
  | 5 => ("StateEndsModel", "now", "[I", true)
  | 6 => ("StateEndsModel", "stateOf", "[I", true)
  | 7 => ("StateEndsModel", "keyOf", "[I", true)
  | 8 => ("StateEndsModel", "memberOf", "[I", true)
  | 9 => ("StateEndsModel", "numberOf", "[I", true)
  | 10 => ("StateEndsModel", "stampOf", "[I", true)
  | 11 => ("StateEndsModel", "endOf", "[I", true)
  | 12 => ("StateEndsModel", "cameOf", "[I", true)
  | 13 => ("StateEndsModel", "came", "I", false)
  | 14 => ("StateEndsModel", "sweepAt", "I", false)
  | 15 => ("StateEndsModel", "rows", "[I", true)
  | 16 => ("StateEndsModel", "rowMany", "I", false)
  | 17 => ("StateEndsModel", "rowsEver", "I", false)
  | 18 => ("StateEndsModel", "markMany", "[I", true)
  | _ => ("StateEndsModel", "marks", "[I", true)
def tyX5 : Nat → FieldType := fun k => match k with
  | 0 => .int
  | 1 => .array .int
  | 2 => .array .int
  | 3 => .array .int
  | 4 => .array .int
  | 5 => .array .int
  | 6 => .array .int
  | 7 => .array .int
  | 8 => .array .int
  | 9 => .array .int
  | 10 => .array .int
  | 11 => .array .int
  | 12 => .array .int
  | 13 => .int
  | 14 => .int
  | 15 => .array .int
  | 16 => .int
  | 17 => .int
  | 18 => .array .int
  | _ => .array .int
abbrev wsX50 : List Cond := u_ws RX5 TX5 20
theorem nmX5 : ∀ a, a < 20 → ∀ b, b < 20 → a ≠ b → (TX5 a).2.1 ≠ (TX5 b).2.1 := by decide +kernel
theorem tyX5_ok : ∀ k, k < 20 → parseFieldDescriptor (TX5 k).2.2.1 = some (tyX5 k) := by decide +kernel
abbrev cX5_init : ByteArray := prog_7_method_1_code
def yX5_init : MethodName := ⟨RX5, "<init>", "()V"⟩
abbrev cX5_isIn : ByteArray := prog_7_method_2_code
def yX5_isIn : MethodName := ⟨RX5, "isIn", "(III)Z"⟩
abbrev cX5_isState : ByteArray := prog_7_method_3_code
def yX5_isState : MethodName := ⟨RX5, "isState", "(I)Z"⟩
abbrev cX5_isForm : ByteArray := prog_7_method_4_code
def yX5_isForm : MethodName := ⟨RX5, "isForm", "(II)Z"⟩
abbrev cX5_state : ByteArray := prog_7_method_5_code
def yX5_state : MethodName := ⟨RX5, "state", "(IIII)I"⟩
abbrev cX5_clockOf : ByteArray := prog_7_method_6_code
def yX5_clockOf : MethodName := ⟨RX5, "clockOf", "(I)I"⟩
abbrev cX5_isShown : ByteArray := prog_7_method_7_code
def yX5_isShown : MethodName := ⟨RX5, "isShown", "(I)Z"⟩
abbrev cX5_isOver : ByteArray := prog_7_method_8_code
def yX5_isOver : MethodName := ⟨RX5, "isOver", "(I)Z"⟩
abbrev cX5_free : ByteArray := prog_7_method_9_code
def yX5_free : MethodName := ⟨RX5, "free", "()I"⟩
abbrev cX5_find : ByteArray := prog_7_method_10_code
def yX5_find : MethodName := ⟨RX5, "find", "(III)I"⟩
abbrev cX5_findIn : ByteArray := prog_7_method_11_code
def yX5_findIn : MethodName := ⟨RX5, "findIn", "(IIIZ)I"⟩
abbrev cX5_stamps : ByteArray := prog_7_method_12_code
def yX5_stamps : MethodName := ⟨RX5, "stamps", "(I)V"⟩
abbrev cX5_writes : ByteArray := prog_7_method_13_code
def yX5_writes : MethodName := ⟨RX5, "writes", "(IIIII)V"⟩
abbrev cX5_tells : ByteArray := prog_7_method_14_code
def yX5_tells : MethodName := ⟨RX5, "tells", "(I)V"⟩
abbrev cX5_put : ByteArray := prog_7_method_15_code
def yX5_put : MethodName := ⟨RX5, "put", "(IIII)I"⟩
abbrev cX5_read : ByteArray := prog_7_method_16_code
def yX5_read : MethodName := ⟨RX5, "read", "(I)I"⟩
abbrev cX5_get : ByteArray := prog_7_method_17_code
def yX5_get : MethodName := ⟨RX5, "get", "(III)I"⟩
abbrev cX5_remove : ByteArray := prog_7_method_18_code
def yX5_remove : MethodName := ⟨RX5, "remove", "(III)I"⟩
abbrev cX5_add : ByteArray := prog_7_method_19_code
def yX5_add : MethodName := ⟨RX5, "add", "(III)I"⟩
abbrev cX5_at : ByteArray := prog_7_method_20_code
def yX5_at : MethodName := ⟨RX5, "at", "(III)I"⟩
abbrev cX5_clear : ByteArray := prog_7_method_21_code
def yX5_clear : MethodName := ⟨RX5, "clear", "(II)I"⟩
abbrev cX5_held : ByteArray := prog_7_method_22_code
def yX5_held : MethodName := ⟨RX5, "held", "(IIZ)I"⟩
abbrev cX5_isAsked : ByteArray := prog_7_method_23_code
def yX5_isAsked : MethodName := ⟨RX5, "isAsked", "(III)Z"⟩
abbrev cX5_asked : ByteArray := prog_7_method_24_code
def yX5_asked : MethodName := ⟨RX5, "asked", "(IIIZ)I"⟩
abbrev cX5_left : ByteArray := prog_7_method_25_code
def yX5_left : MethodName := ⟨RX5, "left", "(III)I"⟩
abbrev cX5_place : ByteArray := prog_7_method_26_code
def yX5_place : MethodName := ⟨RX5, "place", "(III)I"⟩
abbrev cX5_comes : ByteArray := prog_7_method_27_code
def yX5_comes : MethodName := ⟨RX5, "comes", "(II)I"⟩
abbrev cX5_overs : ByteArray := prog_7_method_28_code
def yX5_overs : MethodName := ⟨RX5, "overs", "()I"⟩
abbrev cX5_tick : ByteArray := prog_7_method_29_code
def yX5_tick : MethodName := ⟨RX5, "tick", "(I)I"⟩
abbrev cX5_watermark : ByteArray := prog_7_method_30_code
def yX5_watermark : MethodName := ⟨RX5, "watermark", "(I)I"⟩
abbrev cX5_sweep : ByteArray := prog_7_method_31_code
def yX5_sweep : MethodName := ⟨RX5, "sweep", "(I)I"⟩
abbrev cX5_setting : ByteArray := prog_7_method_32_code
def yX5_setting : MethodName := ⟨RX5, "setting", "(IIZ)I"⟩
abbrev cX5_mark : ByteArray := prog_7_method_33_code
def yX5_mark : MethodName := ⟨RX5, "mark", "(I)I"⟩
abbrev cX5_isAhead : ByteArray := prog_7_method_34_code
def yX5_isAhead : MethodName := ⟨RX5, "isAhead", "(II)Z"⟩
abbrev cX5_nextKept : ByteArray := prog_7_method_35_code
def yX5_nextKept : MethodName := ⟨RX5, "nextKept", "(I)I"⟩
abbrev cX5_restore : ByteArray := prog_7_method_36_code
def yX5_restore : MethodName := ⟨RX5, "restore", "(I)I"⟩
abbrev cX5_row : ByteArray := prog_7_method_37_code
def yX5_row : MethodName := ⟨RX5, "row", "(II)I"⟩
abbrev cX5_next : ByteArray := prog_7_method_38_code
def yX5_next : MethodName := ⟨RX5, "next", "(I)I"⟩
abbrev cX5_count : ByteArray := prog_7_method_39_code
def yX5_count : MethodName := ⟨RX5, "count", "(I)I"⟩
def RJ7 : String := "java/util/Arrays"
def TJ7 : u_T := fun k => match k with
  | _ => ("", "", "", false)
def tyJ7 : Nat → FieldType := fun k => match k with
  | _ => .int
abbrev wsJ70 : List Cond := u_ws RJ7 TJ7 0
theorem nmJ7 : ∀ a, a < 0 → ∀ b, b < 0 → a ≠ b → (TJ7 a).2.1 ≠ (TJ7 b).2.1 := by decide +kernel
theorem tyJ7_ok : ∀ k, k < 0 → parseFieldDescriptor (TJ7 k).2.2.1 = some (tyJ7 k) := by decide +kernel
abbrev cJ7_fill_53178 : ByteArray := prog_8_method_103_code
def yJ7_fill_53178 : MethodName := ⟨RJ7, "fill", "([II)V"⟩
def RL : String := "StateEndsLaw"
abbrev cL_law : ByteArray := code
def yL_law : MethodName := ⟨RL, "law", "([I)Z"⟩
def wsJ7_fill_53178 : List Cond := .code yJ7_fill_53178 cJ7_fill_53178 4 none :: ([])
def wsX0_init : List Cond := .code yX0_init cX0_init 1 none :: ([.methodLink RX0 3 objectInit, .instanceMethod objectInit, .code objectInit ⟨#[0xb1]⟩ 1 none, .arrayClass .int, .fieldLink RX0 9 "StateEnds$Marks" "slots" "[I", .fieldLink RX0 15 "StateEnds$Marks" "numbers" "[I", .fieldLink RX0 18 "StateEnds$Marks" "lefts" "[I", .fieldLink RX0 21 "StateEnds$Marks" "sizes" "[I", .methodLink RX0 24 yJ7_fill_53178, .static yJ7_fill_53178, .initialized RJ7, .code yJ7_fill_53178 cJ7_fill_53178 4 none] ++ wsX00)
def wsX0_begin : List Cond := .code yX0_begin cX0_begin 2 none :: ([.fieldLink RX0 21 "StateEnds$Marks" "sizes" "[I"] ++ wsX00)
def wsX0_indexOf : List Cond := .code yX0_indexOf cX0_indexOf 3 (some .int) :: ([])
def wsX0_keep : List Cond := .code yX0_keep cX0_keep 6 none :: ([.fieldLink RX0 21 "StateEnds$Marks" "sizes" "[I", .fieldLink RX0 9 "StateEnds$Marks" "slots" "[I", .fieldLink RX0 15 "StateEnds$Marks" "numbers" "[I", .fieldLink RX0 18 "StateEnds$Marks" "lefts" "[I", .methodLink RX0 30 yX0_indexOf, .instanceMethod yX0_indexOf, .selects RX0 yX0_indexOf yX0_indexOf, .initialized RX0, .code yX0_indexOf cX0_indexOf 3 (some .int)] ++ wsX00)
def wsX1_init : List Cond := .code yX1_init cX1_init 1 none :: ([.methodLink RX1 3 objectInit, .instanceMethod objectInit, .code objectInit ⟨#[0xb1]⟩ 1 none, .arrayClass .int, .fieldLink RX1 9 "StateEnds$Places" "slots" "[I", .fieldLink RX1 15 "StateEnds$Places" "numbers" "[I", .fieldLink RX1 18 "StateEnds$Places" "stamps" "[I", .fieldLink RX1 21 "StateEnds$Places" "ends" "[I", .fieldLink RX1 24 "StateEnds$Places" "line" "[I", .fieldLink RX1 27 "StateEnds$Places" "taken" "I", .methodLink RX1 31 yJ7_fill_53178, .static yJ7_fill_53178, .initialized RJ7, .code yJ7_fill_53178 cJ7_fill_53178 4 none] ++ wsX10)
def wsX1_isTaken : List Cond := .code yX1_isTaken cX1_isTaken 2 (some .boolean) :: ([.fieldLink RX1 9 "StateEnds$Places" "slots" "[I"] ++ wsX10)
def wsX1_stateAt : List Cond := .code yX1_stateAt cX1_stateAt 2 (some .int) :: ([.fieldLink RX1 9 "StateEnds$Places" "slots" "[I"] ++ wsX10)
def wsX1_keyAt : List Cond := .code yX1_keyAt cX1_keyAt 2 (some .int) :: ([.fieldLink RX1 9 "StateEnds$Places" "slots" "[I"] ++ wsX10)
def wsX1_memberAt : List Cond := .code yX1_memberAt cX1_memberAt 2 (some .int) :: ([.fieldLink RX1 9 "StateEnds$Places" "slots" "[I"] ++ wsX10)
def wsX1_leastFree : List Cond := .code yX1_leastFree cX1_leastFree 2 (some .int) :: ([.methodLink RX1 37 yX1_isTaken, .instanceMethod yX1_isTaken, .selects RX1 yX1_isTaken yX1_isTaken, .initialized RX1, .code yX1_isTaken cX1_isTaken 2 (some .boolean), .fieldLink RX1 9 "StateEnds$Places" "slots" "[I"] ++ wsX10)
def wsX1_take : List Cond := .code yX1_take cX1_take 4 none :: ([.fieldLink RX1 9 "StateEnds$Places" "slots" "[I", .fieldLink RX1 27 "StateEnds$Places" "taken" "I", .fieldLink RX1 24 "StateEnds$Places" "line" "[I"] ++ wsX10)
def wsX1_vacate : List Cond := .code yX1_vacate cX1_vacate 4 none :: ([.fieldLink RX1 9 "StateEnds$Places" "slots" "[I", .fieldLink RX1 27 "StateEnds$Places" "taken" "I", .fieldLink RX1 24 "StateEnds$Places" "line" "[I"] ++ wsX10)
def wsX1_vacateAll : List Cond := .code yX1_vacateAll cX1_vacateAll 1 none :: ([.fieldLink RX1 9 "StateEnds$Places" "slots" "[I", .fieldLink RX1 27 "StateEnds$Places" "taken" "I", .methodLink RX1 31 yJ7_fill_53178, .static yJ7_fill_53178, .initialized RJ7, .code yJ7_fill_53178 cJ7_fill_53178 4 none] ++ wsX10)
def wsX2_init : List Cond := .code yX2_init cX2_init 1 none :: ([.methodLink RX2 3 objectInit, .instanceMethod objectInit, .code objectInit ⟨#[0xb1]⟩ 1 none, .arrayClass .int, .fieldLink RX2 9 "StateEnds$Rows" "cells" "[I", .fieldLink RX2 15 "StateEnds$Rows" "first" "I", .fieldLink RX2 19 "StateEnds$Rows" "kept" "I", .fieldLink RX2 22 "StateEnds$Rows" "ever" "I"] ++ wsX20)
def wsX2_indexOf : List Cond := .code yX2_indexOf cX2_indexOf 2 (some .int) :: ([.fieldLink RX2 15 "StateEnds$Rows" "first" "I"] ++ wsX20)
def wsX2_begin : List Cond := .code yX2_begin cX2_begin 1 (some .int) :: ([.fieldLink RX2 19 "StateEnds$Rows" "kept" "I", .fieldLink RX2 15 "StateEnds$Rows" "first" "I", .fieldLink RX2 22 "StateEnds$Rows" "ever" "I", .methodLink RX2 25 yX2_indexOf, .instanceMethod yX2_indexOf, .selects RX2 yX2_indexOf yX2_indexOf, .initialized RX2, .code yX2_indexOf cX2_indexOf 2 (some .int)] ++ wsX20)
def wsX2_cell : List Cond := .code yX2_cell cX2_cell 3 (some .int) :: ([.fieldLink RX2 9 "StateEnds$Rows" "cells" "[I", .methodLink RX2 25 yX2_indexOf, .instanceMethod yX2_indexOf, .selects RX2 yX2_indexOf yX2_indexOf, .initialized RX2, .code yX2_indexOf cX2_indexOf 2 (some .int), .fieldLink RX2 15 "StateEnds$Rows" "first" "I"] ++ wsX20)
def wsX3_init : List Cond := .code yX3_init cX3_init 1 none :: ([.methodLink RX3 3 objectInit, .instanceMethod objectInit, .code objectInit ⟨#[0xb1]⟩ 1 none, .arrayClass .int, .fieldLink RX3 9 "StateEnds$States" "forms" "[I", .fieldLink RX3 15 "StateEnds$States" "clocks" "[I", .fieldLink RX3 18 "StateEnds$States" "spans" "[I", .fieldLink RX3 21 "StateEnds$States" "ways" "[I", .fieldLink RX3 24 "StateEnds$States" "times" "[I", .fieldLink RX3 27 "StateEnds$States" "made" "I"] ++ wsX30)
def wsX3_make : List Cond := .code yX3_make cX3_make 6 (some .int) :: ([.fieldLink RX3 27 "StateEnds$States" "made" "I", .fieldLink RX3 9 "StateEnds$States" "forms" "[I", .fieldLink RX3 15 "StateEnds$States" "clocks" "[I", .fieldLink RX3 18 "StateEnds$States" "spans" "[I", .fieldLink RX3 21 "StateEnds$States" "ways" "[I"] ++ wsX30)
def wsX3_has : List Cond := .code yX3_has cX3_has 2 (some .boolean) :: ([.fieldLink RX3 27 "StateEnds$States" "made" "I"] ++ wsX30)
def wsX3_isList : List Cond := .code yX3_isList cX3_isList 2 (some .boolean) :: ([.fieldLink RX3 9 "StateEnds$States" "forms" "[I"] ++ wsX30)
def wsX3_isStampedByReads : List Cond := .code yX3_isStampedByReads cX3_isStampedByReads 2 (some .boolean) :: ([.fieldLink RX3 21 "StateEnds$States" "ways" "[I"] ++ wsX30)
def wsX3_timeOf : List Cond := .code yX3_timeOf cX3_timeOf 2 (some .int) :: ([.fieldLink RX3 24 "StateEnds$States" "times" "[I", .fieldLink RX3 15 "StateEnds$States" "clocks" "[I"] ++ wsX30)
def wsX4_init_r1 : List Cond := [Cond.methodLink RX4 3 objectInit, Cond.instanceMethod objectInit, Cond.code objectInit ⟨#[0xb1]⟩ 1 none, Cond.classLink RX4 9 RX3, Cond.instantiable RX3 6, Cond.initialized RX3, Cond.fieldLink RX4 12 "StateEnds" "states" "LStateEnds$States;", Cond.classLink RX4 16 RX1, Cond.instantiable RX1 6, Cond.initialized RX1, Cond.fieldLink RX4 19 "StateEnds" "places" "LStateEnds$Places;", Cond.classLink RX4 23 RX2, Cond.instantiable RX2 4, Cond.initialized RX2, Cond.fieldLink RX4 26 "StateEnds" "rows" "LStateEnds$Rows;", Cond.classLink RX4 30 RX0, Cond.instantiable RX0 4, Cond.initialized RX0, Cond.fieldLink RX4 33 "StateEnds" "marks" "LStateEnds$Marks;", Cond.fieldLink RX4 37 "StateEnds" "sweepFrom" "I", Cond.instanceMethod yX3_init, Cond.code yX3_init cX3_init 1 none, Cond.methodLink RX3 3 objectInit, Cond.arrayClass .int]
def wsX4_init_r2 : List Cond := [Cond.fieldLink RX3 9 "StateEnds$States" "forms" "[I", Cond.fieldLink RX3 15 "StateEnds$States" "clocks" "[I", Cond.fieldLink RX3 18 "StateEnds$States" "spans" "[I", Cond.fieldLink RX3 21 "StateEnds$States" "ways" "[I", Cond.fieldLink RX3 24 "StateEnds$States" "times" "[I", Cond.fieldLink RX3 27 "StateEnds$States" "made" "I", Cond.methodLink RX4 18 yX1_init, Cond.instanceMethod yX1_init, Cond.code yX1_init cX1_init 1 none, Cond.methodLink RX1 3 objectInit, Cond.fieldLink RX1 9 "StateEnds$Places" "slots" "[I", Cond.fieldLink RX1 15 "StateEnds$Places" "numbers" "[I", Cond.fieldLink RX1 18 "StateEnds$Places" "stamps" "[I", Cond.fieldLink RX1 21 "StateEnds$Places" "ends" "[I", Cond.fieldLink RX1 24 "StateEnds$Places" "line" "[I", Cond.fieldLink RX1 27 "StateEnds$Places" "taken" "I", Cond.methodLink RX1 31 yJ7_fill_53178, Cond.static yJ7_fill_53178, Cond.initialized RJ7, Cond.code yJ7_fill_53178 cJ7_fill_53178 4 none, Cond.instanceMethod yX2_init, Cond.code yX2_init cX2_init 1 none, Cond.methodLink RX2 3 objectInit, Cond.fieldLink RX2 9 "StateEnds$Rows" "cells" "[I"]
def wsX4_init_r3 : List Cond := [Cond.fieldLink RX2 15 "StateEnds$Rows" "first" "I", Cond.fieldLink RX2 19 "StateEnds$Rows" "kept" "I", Cond.fieldLink RX2 22 "StateEnds$Rows" "ever" "I", Cond.methodLink RX4 32 yX0_init, Cond.instanceMethod yX0_init, Cond.code yX0_init cX0_init 1 none, Cond.methodLink RX0 3 objectInit, Cond.fieldLink RX0 9 "StateEnds$Marks" "slots" "[I", Cond.fieldLink RX0 15 "StateEnds$Marks" "numbers" "[I", Cond.fieldLink RX0 18 "StateEnds$Marks" "lefts" "[I", Cond.fieldLink RX0 21 "StateEnds$Marks" "sizes" "[I", Cond.methodLink RX0 24 yJ7_fill_53178]
def wsX4_init : List Cond := .code yX4_init cX4_init 1 none :: ((wsX4_init_r1 ++ (wsX4_init_r2 ++ wsX4_init_r3)) ++ wsX30 ++ wsX40 ++ wsX10 ++ wsX20 ++ wsX00)
def wsX4_isZeroOrOne : List Cond := .code yX4_isZeroOrOne cX4_isZeroOrOne 1 (some .boolean) :: ([])
def wsX4_isSpan : List Cond := .code yX4_isSpan cX4_isSpan 1 (some .boolean) :: ([.constant RX4 118 (100000)])
def wsX4_state : List Cond := .code yX4_state cX4_state 5 (some .int) :: ([.fieldLink RX4 12 "StateEnds" "states" "LStateEnds$States;", .fieldLink RX4 48 "StateEnds$States" "made" "I", .methodLink RX4 41 yX4_isZeroOrOne, .static yX4_isZeroOrOne, .initialized RX4, .code yX4_isZeroOrOne cX4_isZeroOrOne 1 (some .boolean), .methodLink RX4 45 yX4_isSpan, .static yX4_isSpan, .code yX4_isSpan cX4_isSpan 1 (some .boolean), .constant RX4 118 (100000), .methodLink RX4 51 yX3_make, .instanceMethod yX3_make, .selects RX3 yX3_make yX3_make, .initialized RX3, .code yX3_make cX3_make 6 (some .int), .fieldLink RX3 27 "StateEnds$States" "made" "I", .fieldLink RX3 9 "StateEnds$States" "forms" "[I", .fieldLink RX3 15 "StateEnds$States" "clocks" "[I", .fieldLink RX3 18 "StateEnds$States" "spans" "[I", .fieldLink RX3 21 "StateEnds$States" "ways" "[I"] ++ wsX40 ++ wsX30)
def wsX4_isStateAndKey : List Cond := .code yX4_isStateAndKey cX4_isStateAndKey 3 (some .boolean) :: ([.fieldLink RX4 12 "StateEnds" "states" "LStateEnds$States;", .methodLink RX4 127 yX3_has, .instanceMethod yX3_has, .selects RX3 yX3_has yX3_has, .initialized RX3, .code yX3_has cX3_has 2 (some .boolean), .fieldLink RX3 27 "StateEnds$States" "made" "I"] ++ wsX40 ++ wsX30)
def wsX4_isMember : List Cond := .code yX4_isMember cX4_isMember 1 (some .boolean) :: ([])
def wsX4_isNumberFor : List Cond := .code yX4_isNumberFor cX4_isNumberFor 4 (some .boolean) :: ([.fieldLink RX4 12 "StateEnds" "states" "LStateEnds$States;", .methodLink RX4 95 yX4_isStateAndKey, .instanceMethod yX4_isStateAndKey, .selects RX4 yX4_isStateAndKey yX4_isStateAndKey, .initialized RX4, .code yX4_isStateAndKey cX4_isStateAndKey 3 (some .boolean), .methodLink RX4 127 yX3_has, .instanceMethod yX3_has, .selects RX3 yX3_has yX3_has, .initialized RX3, .code yX3_has cX3_has 2 (some .boolean), .fieldLink RX3 27 "StateEnds$States" "made" "I", .methodLink RX4 197 yX3_isList, .instanceMethod yX3_isList, .selects RX3 yX3_isList yX3_isList, .code yX3_isList cX3_isList 2 (some .boolean), .fieldLink RX3 9 "StateEnds$States" "forms" "[I", .methodLink RX4 200 yX4_isMember, .static yX4_isMember, .code yX4_isMember cX4_isMember 1 (some .boolean)] ++ wsX40 ++ wsX30)
def wsX4_slotOf : List Cond := .code yX4_slotOf cX4_slotOf 3 (some .int) :: ([])
def wsX4_leftOf : List Cond := .code yX4_leftOf cX4_leftOf 2 (some .int) :: ([.fieldLink RX4 19 "StateEnds" "places" "LStateEnds$Places;", .fieldLink RX4 187 "StateEnds$Places" "ends" "[I", .fieldLink RX4 12 "StateEnds" "states" "LStateEnds$States;", .methodLink RX4 184 yX1_stateAt, .instanceMethod yX1_stateAt, .selects RX1 yX1_stateAt yX1_stateAt, .initialized RX1, .code yX1_stateAt cX1_stateAt 2 (some .int), .fieldLink RX1 9 "StateEnds$Places" "slots" "[I", .methodLink RX4 206 yX3_timeOf, .instanceMethod yX3_timeOf, .selects RX3 yX3_timeOf yX3_timeOf, .initialized RX3, .code yX3_timeOf cX3_timeOf 2 (some .int), .fieldLink RX3 24 "StateEnds$States" "times" "[I", .fieldLink RX3 15 "StateEnds$States" "clocks" "[I"] ++ wsX40 ++ wsX10 ++ wsX30)
def wsX4_isShown : List Cond := .code yX4_isShown cX4_isShown 2 (some .boolean) :: ([.methodLink RX4 115 yX4_leftOf, .instanceMethod yX4_leftOf, .selects RX4 yX4_leftOf yX4_leftOf, .initialized RX4, .code yX4_leftOf cX4_leftOf 2 (some .int), .fieldLink RX4 19 "StateEnds" "places" "LStateEnds$Places;", .fieldLink RX4 187 "StateEnds$Places" "ends" "[I", .fieldLink RX4 12 "StateEnds" "states" "LStateEnds$States;", .methodLink RX4 184 yX1_stateAt, .instanceMethod yX1_stateAt, .selects RX1 yX1_stateAt yX1_stateAt, .initialized RX1, .code yX1_stateAt cX1_stateAt 2 (some .int), .fieldLink RX1 9 "StateEnds$Places" "slots" "[I", .methodLink RX4 206 yX3_timeOf, .instanceMethod yX3_timeOf, .selects RX3 yX3_timeOf yX3_timeOf, .initialized RX3, .code yX3_timeOf cX3_timeOf 2 (some .int), .fieldLink RX3 24 "StateEnds$States" "times" "[I", .fieldLink RX3 15 "StateEnds$States" "clocks" "[I"] ++ wsX40 ++ wsX10 ++ wsX30)
def wsX4_placeOf_r1 : List Cond := [Cond.fieldLink RX4 19 "StateEnds" "places" "LStateEnds$Places;", Cond.fieldLink RX4 142 "StateEnds$Places" "taken" "I", Cond.fieldLink RX4 145 "StateEnds$Places" "line" "[I", Cond.fieldLink RX4 148 "StateEnds$Places" "slots" "[I", Cond.methodLink RX4 71 yX4_isShown, Cond.instanceMethod yX4_isShown, Cond.selects RX4 yX4_isShown yX4_isShown, Cond.initialized RX4, Cond.code yX4_isShown cX4_isShown 2 (some .boolean), Cond.methodLink RX4 115 yX4_leftOf, Cond.instanceMethod yX4_leftOf, Cond.selects RX4 yX4_leftOf yX4_leftOf, Cond.code yX4_leftOf cX4_leftOf 2 (some .int), Cond.fieldLink RX4 187 "StateEnds$Places" "ends" "[I", Cond.fieldLink RX4 12 "StateEnds" "states" "LStateEnds$States;", Cond.methodLink RX4 184 yX1_stateAt, Cond.instanceMethod yX1_stateAt, Cond.selects RX1 yX1_stateAt yX1_stateAt, Cond.initialized RX1, Cond.code yX1_stateAt cX1_stateAt 2 (some .int), Cond.fieldLink RX1 9 "StateEnds$Places" "slots" "[I", Cond.methodLink RX4 206 yX3_timeOf, Cond.instanceMethod yX3_timeOf, Cond.selects RX3 yX3_timeOf yX3_timeOf]
def wsX4_placeOf_r2 : List Cond := [Cond.initialized RX3, Cond.code yX3_timeOf cX3_timeOf 2 (some .int), Cond.fieldLink RX3 24 "StateEnds$States" "times" "[I", Cond.fieldLink RX3 15 "StateEnds$States" "clocks" "[I"]
def wsX4_placeOf : List Cond := .code yX4_placeOf cX4_placeOf 7 (some .int) :: ((wsX4_placeOf_r1 ++ wsX4_placeOf_r2) ++ wsX40 ++ wsX10 ++ wsX30)
def wsX4_stamp : List Cond := .code yX4_stamp cX4_stamp 4 none :: ([.fieldLink RX4 12 "StateEnds" "states" "LStateEnds$States;", .fieldLink RX4 19 "StateEnds" "places" "LStateEnds$Places;", .fieldLink RX4 212 "StateEnds$Places" "stamps" "[I", .fieldLink RX4 187 "StateEnds$Places" "ends" "[I", .methodLink RX4 184 yX1_stateAt, .instanceMethod yX1_stateAt, .selects RX1 yX1_stateAt yX1_stateAt, .initialized RX1, .code yX1_stateAt cX1_stateAt 2 (some .int), .fieldLink RX1 9 "StateEnds$Places" "slots" "[I", .methodLink RX4 206 yX3_timeOf, .instanceMethod yX3_timeOf, .selects RX3 yX3_timeOf yX3_timeOf, .initialized RX3, .code yX3_timeOf cX3_timeOf 2 (some .int), .fieldLink RX3 24 "StateEnds$States" "times" "[I", .fieldLink RX3 15 "StateEnds$States" "clocks" "[I"] ++ wsX40 ++ wsX10 ++ wsX30)
def wsX4_write : List Cond := .code yX4_write cX4_write 3 none :: ([.fieldLink RX4 19 "StateEnds" "places" "LStateEnds$Places;", .fieldLink RX4 151 "StateEnds$Places" "numbers" "[I", .fieldLink RX4 12 "StateEnds" "states" "LStateEnds$States;", .fieldLink RX4 130 "StateEnds$States" "spans" "[I", .methodLink RX4 184 yX1_stateAt, .instanceMethod yX1_stateAt, .selects RX1 yX1_stateAt yX1_stateAt, .initialized RX1, .code yX1_stateAt cX1_stateAt 2 (some .int), .fieldLink RX1 9 "StateEnds$Places" "slots" "[I", .methodLink RX4 175 yX4_stamp, .instanceMethod yX4_stamp, .selects RX4 yX4_stamp yX4_stamp, .initialized RX4, .code yX4_stamp cX4_stamp 4 none, .fieldLink RX4 212 "StateEnds$Places" "stamps" "[I", .fieldLink RX4 187 "StateEnds$Places" "ends" "[I", .methodLink RX4 206 yX3_timeOf, .instanceMethod yX3_timeOf, .selects RX3 yX3_timeOf yX3_timeOf, .initialized RX3, .code yX3_timeOf cX3_timeOf 2 (some .int), .fieldLink RX3 24 "StateEnds$States" "times" "[I", .fieldLink RX3 15 "StateEnds$States" "clocks" "[I"] ++ wsX40 ++ wsX10 ++ wsX30)
def wsX4_bring_r1 : List Cond := [Cond.fieldLink RX4 19 "StateEnds" "places" "LStateEnds$Places;", Cond.methodLink RX4 209 yX1_leastFree, Cond.instanceMethod yX1_leastFree, Cond.selects RX1 yX1_leastFree yX1_leastFree, Cond.initialized RX1, Cond.code yX1_leastFree cX1_leastFree 2 (some .int), Cond.methodLink RX1 37 yX1_isTaken, Cond.instanceMethod yX1_isTaken, Cond.selects RX1 yX1_isTaken yX1_isTaken, Cond.code yX1_isTaken cX1_isTaken 2 (some .boolean), Cond.fieldLink RX1 9 "StateEnds$Places" "slots" "[I", Cond.methodLink RX4 168 yX1_take, Cond.instanceMethod yX1_take, Cond.selects RX1 yX1_take yX1_take, Cond.code yX1_take cX1_take 4 none, Cond.fieldLink RX1 27 "StateEnds$Places" "taken" "I", Cond.fieldLink RX1 24 "StateEnds$Places" "line" "[I", Cond.methodLink RX4 78 yX4_write, Cond.instanceMethod yX4_write, Cond.selects RX4 yX4_write yX4_write, Cond.initialized RX4, Cond.code yX4_write cX4_write 3 none, Cond.fieldLink RX4 151 "StateEnds$Places" "numbers" "[I", Cond.fieldLink RX4 12 "StateEnds" "states" "LStateEnds$States;"]
def wsX4_bring_r2 : List Cond := [Cond.fieldLink RX4 130 "StateEnds$States" "spans" "[I", Cond.methodLink RX4 184 yX1_stateAt, Cond.instanceMethod yX1_stateAt, Cond.selects RX1 yX1_stateAt yX1_stateAt, Cond.code yX1_stateAt cX1_stateAt 2 (some .int), Cond.methodLink RX4 175 yX4_stamp, Cond.instanceMethod yX4_stamp, Cond.selects RX4 yX4_stamp yX4_stamp, Cond.code yX4_stamp cX4_stamp 4 none, Cond.fieldLink RX4 212 "StateEnds$Places" "stamps" "[I", Cond.fieldLink RX4 187 "StateEnds$Places" "ends" "[I", Cond.methodLink RX4 206 yX3_timeOf, Cond.instanceMethod yX3_timeOf, Cond.selects RX3 yX3_timeOf yX3_timeOf, Cond.initialized RX3, Cond.code yX3_timeOf cX3_timeOf 2 (some .int), Cond.fieldLink RX3 24 "StateEnds$States" "times" "[I", Cond.fieldLink RX3 15 "StateEnds$States" "clocks" "[I"]
def wsX4_bring : List Cond := .code yX4_bring cX4_bring 4 (some .boolean) :: ((wsX4_bring_r1 ++ wsX4_bring_r2) ++ wsX40 ++ wsX10 ++ wsX30)
def wsX4_tell_r1 : List Cond := [Cond.fieldLink RX4 26 "StateEnds" "rows" "LStateEnds$Rows;", Cond.fieldLink RX4 220 "StateEnds$Rows" "cells" "[I", Cond.fieldLink RX4 19 "StateEnds" "places" "LStateEnds$Places;", Cond.fieldLink RX4 151 "StateEnds$Places" "numbers" "[I", Cond.fieldLink RX4 187 "StateEnds$Places" "ends" "[I", Cond.fieldLink RX4 12 "StateEnds" "states" "LStateEnds$States;", Cond.fieldLink RX4 119 "StateEnds$States" "times" "[I", Cond.methodLink RX4 218 yX2_begin, Cond.instanceMethod yX2_begin, Cond.selects RX2 yX2_begin yX2_begin, Cond.initialized RX2, Cond.code yX2_begin cX2_begin 1 (some .int), Cond.fieldLink RX2 19 "StateEnds$Rows" "kept" "I", Cond.fieldLink RX2 15 "StateEnds$Rows" "first" "I", Cond.fieldLink RX2 22 "StateEnds$Rows" "ever" "I", Cond.methodLink RX2 25 yX2_indexOf, Cond.instanceMethod yX2_indexOf, Cond.selects RX2 yX2_indexOf yX2_indexOf, Cond.code yX2_indexOf cX2_indexOf 2 (some .int), Cond.methodLink RX4 184 yX1_stateAt, Cond.instanceMethod yX1_stateAt, Cond.selects RX1 yX1_stateAt yX1_stateAt, Cond.initialized RX1, Cond.code yX1_stateAt cX1_stateAt 2 (some .int)]
def wsX4_tell_r2 : List Cond := [Cond.fieldLink RX1 9 "StateEnds$Places" "slots" "[I", Cond.methodLink RX4 203 yX1_keyAt, Cond.instanceMethod yX1_keyAt, Cond.selects RX1 yX1_keyAt yX1_keyAt, Cond.code yX1_keyAt cX1_keyAt 2 (some .int), Cond.methodLink RX4 223 yX1_memberAt, Cond.instanceMethod yX1_memberAt, Cond.selects RX1 yX1_memberAt yX1_memberAt, Cond.code yX1_memberAt cX1_memberAt 2 (some .int)]
def wsX4_tell : List Cond := .code yX4_tell cX4_tell 3 none :: ((wsX4_tell_r1 ++ wsX4_tell_r2) ++ wsX40 ++ wsX20 ++ wsX10 ++ wsX30)
def wsX4_put_r1 : List Cond := [Cond.methodLink RX4 55 yX4_isNumberFor, Cond.instanceMethod yX4_isNumberFor, Cond.selects RX4 yX4_isNumberFor yX4_isNumberFor, Cond.initialized RX4, Cond.code yX4_isNumberFor cX4_isNumberFor 4 (some .boolean), Cond.fieldLink RX4 12 "StateEnds" "states" "LStateEnds$States;", Cond.methodLink RX4 95 yX4_isStateAndKey, Cond.instanceMethod yX4_isStateAndKey, Cond.selects RX4 yX4_isStateAndKey yX4_isStateAndKey, Cond.code yX4_isStateAndKey cX4_isStateAndKey 3 (some .boolean), Cond.methodLink RX4 127 yX3_has, Cond.instanceMethod yX3_has, Cond.selects RX3 yX3_has yX3_has, Cond.initialized RX3, Cond.code yX3_has cX3_has 2 (some .boolean), Cond.fieldLink RX3 27 "StateEnds$States" "made" "I", Cond.methodLink RX4 197 yX3_isList, Cond.instanceMethod yX3_isList, Cond.selects RX3 yX3_isList yX3_isList, Cond.code yX3_isList cX3_isList 2 (some .boolean), Cond.fieldLink RX3 9 "StateEnds$States" "forms" "[I", Cond.methodLink RX4 200 yX4_isMember, Cond.static yX4_isMember, Cond.code yX4_isMember cX4_isMember 1 (some .boolean)]
def wsX4_put_r2 : List Cond := [Cond.methodLink RX4 59 yX4_slotOf, Cond.static yX4_slotOf, Cond.code yX4_slotOf cX4_slotOf 3 (some .int), Cond.methodLink RX4 63 yX4_placeOf, Cond.instanceMethod yX4_placeOf, Cond.selects RX4 yX4_placeOf yX4_placeOf, Cond.code yX4_placeOf cX4_placeOf 7 (some .int), Cond.fieldLink RX4 19 "StateEnds" "places" "LStateEnds$Places;", Cond.fieldLink RX4 142 "StateEnds$Places" "taken" "I", Cond.fieldLink RX4 145 "StateEnds$Places" "line" "[I", Cond.fieldLink RX4 148 "StateEnds$Places" "slots" "[I", Cond.methodLink RX4 71 yX4_isShown, Cond.instanceMethod yX4_isShown, Cond.selects RX4 yX4_isShown yX4_isShown, Cond.code yX4_isShown cX4_isShown 2 (some .boolean), Cond.methodLink RX4 115 yX4_leftOf, Cond.instanceMethod yX4_leftOf, Cond.selects RX4 yX4_leftOf yX4_leftOf, Cond.code yX4_leftOf cX4_leftOf 2 (some .int), Cond.fieldLink RX4 187 "StateEnds$Places" "ends" "[I", Cond.methodLink RX4 184 yX1_stateAt, Cond.instanceMethod yX1_stateAt, Cond.selects RX1 yX1_stateAt yX1_stateAt, Cond.initialized RX1]
def wsX4_put_r3 : List Cond := [Cond.code yX1_stateAt cX1_stateAt 2 (some .int), Cond.fieldLink RX1 9 "StateEnds$Places" "slots" "[I", Cond.methodLink RX4 206 yX3_timeOf, Cond.instanceMethod yX3_timeOf, Cond.selects RX3 yX3_timeOf yX3_timeOf, Cond.code yX3_timeOf cX3_timeOf 2 (some .int), Cond.fieldLink RX3 24 "StateEnds$States" "times" "[I", Cond.fieldLink RX3 15 "StateEnds$States" "clocks" "[I", Cond.methodLink RX4 67 yX4_bring, Cond.instanceMethod yX4_bring, Cond.selects RX4 yX4_bring yX4_bring, Cond.code yX4_bring cX4_bring 4 (some .boolean), Cond.methodLink RX4 209 yX1_leastFree, Cond.instanceMethod yX1_leastFree, Cond.selects RX1 yX1_leastFree yX1_leastFree, Cond.code yX1_leastFree cX1_leastFree 2 (some .int), Cond.methodLink RX1 37 yX1_isTaken, Cond.instanceMethod yX1_isTaken, Cond.selects RX1 yX1_isTaken yX1_isTaken, Cond.code yX1_isTaken cX1_isTaken 2 (some .boolean), Cond.methodLink RX4 168 yX1_take, Cond.instanceMethod yX1_take, Cond.selects RX1 yX1_take yX1_take, Cond.code yX1_take cX1_take 4 none]
def wsX4_put_r4 : List Cond := [Cond.fieldLink RX1 27 "StateEnds$Places" "taken" "I", Cond.fieldLink RX1 24 "StateEnds$Places" "line" "[I", Cond.methodLink RX4 78 yX4_write, Cond.instanceMethod yX4_write, Cond.selects RX4 yX4_write yX4_write, Cond.code yX4_write cX4_write 3 none, Cond.fieldLink RX4 151 "StateEnds$Places" "numbers" "[I", Cond.fieldLink RX4 130 "StateEnds$States" "spans" "[I", Cond.methodLink RX4 175 yX4_stamp, Cond.instanceMethod yX4_stamp, Cond.selects RX4 yX4_stamp yX4_stamp, Cond.code yX4_stamp cX4_stamp 4 none, Cond.fieldLink RX4 212 "StateEnds$Places" "stamps" "[I", Cond.methodLink RX4 74 yX4_tell, Cond.instanceMethod yX4_tell, Cond.selects RX4 yX4_tell yX4_tell, Cond.code yX4_tell cX4_tell 3 none, Cond.fieldLink RX4 26 "StateEnds" "rows" "LStateEnds$Rows;", Cond.fieldLink RX4 220 "StateEnds$Rows" "cells" "[I", Cond.fieldLink RX4 119 "StateEnds$States" "times" "[I", Cond.methodLink RX4 218 yX2_begin, Cond.instanceMethod yX2_begin, Cond.selects RX2 yX2_begin yX2_begin, Cond.initialized RX2]
def wsX4_put_r5 : List Cond := [Cond.code yX2_begin cX2_begin 1 (some .int), Cond.fieldLink RX2 19 "StateEnds$Rows" "kept" "I", Cond.fieldLink RX2 15 "StateEnds$Rows" "first" "I", Cond.fieldLink RX2 22 "StateEnds$Rows" "ever" "I", Cond.methodLink RX2 25 yX2_indexOf, Cond.instanceMethod yX2_indexOf, Cond.selects RX2 yX2_indexOf yX2_indexOf, Cond.code yX2_indexOf cX2_indexOf 2 (some .int), Cond.methodLink RX4 203 yX1_keyAt, Cond.instanceMethod yX1_keyAt, Cond.selects RX1 yX1_keyAt yX1_keyAt, Cond.code yX1_keyAt cX1_keyAt 2 (some .int), Cond.methodLink RX4 223 yX1_memberAt, Cond.instanceMethod yX1_memberAt, Cond.selects RX1 yX1_memberAt yX1_memberAt, Cond.code yX1_memberAt cX1_memberAt 2 (some .int)]
def wsX4_put : List Cond := .code yX4_put cX4_put 8 (some .int) :: ((wsX4_put_r1 ++ (wsX4_put_r2 ++ (wsX4_put_r3 ++ (wsX4_put_r4 ++ wsX4_put_r5)))) ++ wsX40 ++ wsX30 ++ wsX10 ++ wsX20)
def wsX4_read_r1 : List Cond := [Cond.constant RX4 114 (-99999999), Cond.fieldLink RX4 19 "StateEnds" "places" "LStateEnds$Places;", Cond.fieldLink RX4 12 "StateEnds" "states" "LStateEnds$States;", Cond.fieldLink RX4 130 "StateEnds$States" "spans" "[I", Cond.fieldLink RX4 151 "StateEnds$Places" "numbers" "[I", Cond.methodLink RX4 184 yX1_stateAt, Cond.instanceMethod yX1_stateAt, Cond.selects RX1 yX1_stateAt yX1_stateAt, Cond.initialized RX1, Cond.code yX1_stateAt cX1_stateAt 2 (some .int), Cond.fieldLink RX1 9 "StateEnds$Places" "slots" "[I", Cond.methodLink RX4 215 yX3_isStampedByReads, Cond.instanceMethod yX3_isStampedByReads, Cond.selects RX3 yX3_isStampedByReads yX3_isStampedByReads, Cond.initialized RX3, Cond.code yX3_isStampedByReads cX3_isStampedByReads 2 (some .boolean), Cond.fieldLink RX3 21 "StateEnds$States" "ways" "[I", Cond.methodLink RX4 175 yX4_stamp, Cond.instanceMethod yX4_stamp, Cond.selects RX4 yX4_stamp yX4_stamp, Cond.initialized RX4, Cond.code yX4_stamp cX4_stamp 4 none, Cond.fieldLink RX4 212 "StateEnds$Places" "stamps" "[I", Cond.fieldLink RX4 187 "StateEnds$Places" "ends" "[I"]
def wsX4_read_r2 : List Cond := [Cond.methodLink RX4 206 yX3_timeOf, Cond.instanceMethod yX3_timeOf, Cond.selects RX3 yX3_timeOf yX3_timeOf, Cond.code yX3_timeOf cX3_timeOf 2 (some .int), Cond.fieldLink RX3 24 "StateEnds$States" "times" "[I", Cond.fieldLink RX3 15 "StateEnds$States" "clocks" "[I"]
def wsX4_read : List Cond := .code yX4_read cX4_read 3 (some .int) :: ((wsX4_read_r1 ++ wsX4_read_r2) ++ wsX40 ++ wsX30 ++ wsX10)
def wsX4_get_r1 : List Cond := [Cond.methodLink RX4 55 yX4_isNumberFor, Cond.instanceMethod yX4_isNumberFor, Cond.selects RX4 yX4_isNumberFor yX4_isNumberFor, Cond.initialized RX4, Cond.code yX4_isNumberFor cX4_isNumberFor 4 (some .boolean), Cond.fieldLink RX4 12 "StateEnds" "states" "LStateEnds$States;", Cond.methodLink RX4 95 yX4_isStateAndKey, Cond.instanceMethod yX4_isStateAndKey, Cond.selects RX4 yX4_isStateAndKey yX4_isStateAndKey, Cond.code yX4_isStateAndKey cX4_isStateAndKey 3 (some .boolean), Cond.methodLink RX4 127 yX3_has, Cond.instanceMethod yX3_has, Cond.selects RX3 yX3_has yX3_has, Cond.initialized RX3, Cond.code yX3_has cX3_has 2 (some .boolean), Cond.fieldLink RX3 27 "StateEnds$States" "made" "I", Cond.methodLink RX4 197 yX3_isList, Cond.instanceMethod yX3_isList, Cond.selects RX3 yX3_isList yX3_isList, Cond.code yX3_isList cX3_isList 2 (some .boolean), Cond.fieldLink RX3 9 "StateEnds$States" "forms" "[I", Cond.methodLink RX4 200 yX4_isMember, Cond.static yX4_isMember, Cond.code yX4_isMember cX4_isMember 1 (some .boolean)]
def wsX4_get_r2 : List Cond := [Cond.methodLink RX4 59 yX4_slotOf, Cond.static yX4_slotOf, Cond.code yX4_slotOf cX4_slotOf 3 (some .int), Cond.methodLink RX4 63 yX4_placeOf, Cond.instanceMethod yX4_placeOf, Cond.selects RX4 yX4_placeOf yX4_placeOf, Cond.code yX4_placeOf cX4_placeOf 7 (some .int), Cond.fieldLink RX4 19 "StateEnds" "places" "LStateEnds$Places;", Cond.fieldLink RX4 142 "StateEnds$Places" "taken" "I", Cond.fieldLink RX4 145 "StateEnds$Places" "line" "[I", Cond.fieldLink RX4 148 "StateEnds$Places" "slots" "[I", Cond.methodLink RX4 71 yX4_isShown, Cond.instanceMethod yX4_isShown, Cond.selects RX4 yX4_isShown yX4_isShown, Cond.code yX4_isShown cX4_isShown 2 (some .boolean), Cond.methodLink RX4 115 yX4_leftOf, Cond.instanceMethod yX4_leftOf, Cond.selects RX4 yX4_leftOf yX4_leftOf, Cond.code yX4_leftOf cX4_leftOf 2 (some .int), Cond.fieldLink RX4 187 "StateEnds$Places" "ends" "[I", Cond.methodLink RX4 184 yX1_stateAt, Cond.instanceMethod yX1_stateAt, Cond.selects RX1 yX1_stateAt yX1_stateAt, Cond.initialized RX1]
def wsX4_get_r3 : List Cond := [Cond.code yX1_stateAt cX1_stateAt 2 (some .int), Cond.fieldLink RX1 9 "StateEnds$Places" "slots" "[I", Cond.methodLink RX4 206 yX3_timeOf, Cond.instanceMethod yX3_timeOf, Cond.selects RX3 yX3_timeOf yX3_timeOf, Cond.code yX3_timeOf cX3_timeOf 2 (some .int), Cond.fieldLink RX3 24 "StateEnds$States" "times" "[I", Cond.fieldLink RX3 15 "StateEnds$States" "clocks" "[I", Cond.methodLink RX4 82 yX4_read, Cond.instanceMethod yX4_read, Cond.selects RX4 yX4_read yX4_read, Cond.code yX4_read cX4_read 3 (some .int), Cond.constant RX4 114 (-99999999), Cond.fieldLink RX4 130 "StateEnds$States" "spans" "[I", Cond.fieldLink RX4 151 "StateEnds$Places" "numbers" "[I", Cond.methodLink RX4 215 yX3_isStampedByReads, Cond.instanceMethod yX3_isStampedByReads, Cond.selects RX3 yX3_isStampedByReads yX3_isStampedByReads, Cond.code yX3_isStampedByReads cX3_isStampedByReads 2 (some .boolean), Cond.fieldLink RX3 21 "StateEnds$States" "ways" "[I", Cond.methodLink RX4 175 yX4_stamp, Cond.instanceMethod yX4_stamp, Cond.selects RX4 yX4_stamp yX4_stamp, Cond.code yX4_stamp cX4_stamp 4 none]
def wsX4_get_r4 : List Cond := [Cond.fieldLink RX4 212 "StateEnds$Places" "stamps" "[I"]
def wsX4_get : List Cond := .code yX4_get cX4_get 4 (some .int) :: ((wsX4_get_r1 ++ (wsX4_get_r2 ++ (wsX4_get_r3 ++ wsX4_get_r4))) ++ wsX40 ++ wsX30 ++ wsX10)
def wsX4_remove_r1 : List Cond := [Cond.fieldLink RX4 19 "StateEnds" "places" "LStateEnds$Places;", Cond.methodLink RX4 55 yX4_isNumberFor, Cond.instanceMethod yX4_isNumberFor, Cond.selects RX4 yX4_isNumberFor yX4_isNumberFor, Cond.initialized RX4, Cond.code yX4_isNumberFor cX4_isNumberFor 4 (some .boolean), Cond.fieldLink RX4 12 "StateEnds" "states" "LStateEnds$States;", Cond.methodLink RX4 95 yX4_isStateAndKey, Cond.instanceMethod yX4_isStateAndKey, Cond.selects RX4 yX4_isStateAndKey yX4_isStateAndKey, Cond.code yX4_isStateAndKey cX4_isStateAndKey 3 (some .boolean), Cond.methodLink RX4 127 yX3_has, Cond.instanceMethod yX3_has, Cond.selects RX3 yX3_has yX3_has, Cond.initialized RX3, Cond.code yX3_has cX3_has 2 (some .boolean), Cond.fieldLink RX3 27 "StateEnds$States" "made" "I", Cond.methodLink RX4 197 yX3_isList, Cond.instanceMethod yX3_isList, Cond.selects RX3 yX3_isList yX3_isList, Cond.code yX3_isList cX3_isList 2 (some .boolean), Cond.fieldLink RX3 9 "StateEnds$States" "forms" "[I", Cond.methodLink RX4 200 yX4_isMember, Cond.static yX4_isMember]
def wsX4_remove_r2 : List Cond := [Cond.code yX4_isMember cX4_isMember 1 (some .boolean), Cond.methodLink RX4 59 yX4_slotOf, Cond.static yX4_slotOf, Cond.code yX4_slotOf cX4_slotOf 3 (some .int), Cond.methodLink RX4 63 yX4_placeOf, Cond.instanceMethod yX4_placeOf, Cond.selects RX4 yX4_placeOf yX4_placeOf, Cond.code yX4_placeOf cX4_placeOf 7 (some .int), Cond.fieldLink RX4 142 "StateEnds$Places" "taken" "I", Cond.fieldLink RX4 145 "StateEnds$Places" "line" "[I", Cond.fieldLink RX4 148 "StateEnds$Places" "slots" "[I", Cond.methodLink RX4 71 yX4_isShown, Cond.instanceMethod yX4_isShown, Cond.selects RX4 yX4_isShown yX4_isShown, Cond.code yX4_isShown cX4_isShown 2 (some .boolean), Cond.methodLink RX4 115 yX4_leftOf, Cond.instanceMethod yX4_leftOf, Cond.selects RX4 yX4_leftOf yX4_leftOf, Cond.code yX4_leftOf cX4_leftOf 2 (some .int), Cond.fieldLink RX4 187 "StateEnds$Places" "ends" "[I", Cond.methodLink RX4 184 yX1_stateAt, Cond.instanceMethod yX1_stateAt, Cond.selects RX1 yX1_stateAt yX1_stateAt, Cond.initialized RX1]
def wsX4_remove_r3 : List Cond := [Cond.code yX1_stateAt cX1_stateAt 2 (some .int), Cond.fieldLink RX1 9 "StateEnds$Places" "slots" "[I", Cond.methodLink RX4 206 yX3_timeOf, Cond.instanceMethod yX3_timeOf, Cond.selects RX3 yX3_timeOf yX3_timeOf, Cond.code yX3_timeOf cX3_timeOf 2 (some .int), Cond.fieldLink RX3 24 "StateEnds$States" "times" "[I", Cond.fieldLink RX3 15 "StateEnds$States" "clocks" "[I", Cond.methodLink RX4 86 yX1_vacate, Cond.instanceMethod yX1_vacate, Cond.selects RX1 yX1_vacate yX1_vacate, Cond.code yX1_vacate cX1_vacate 4 none, Cond.fieldLink RX1 27 "StateEnds$Places" "taken" "I", Cond.fieldLink RX1 24 "StateEnds$Places" "line" "[I"]
def wsX4_remove : List Cond := .code yX4_remove cX4_remove 6 (some .int) :: ((wsX4_remove_r1 ++ (wsX4_remove_r2 ++ wsX4_remove_r3)) ++ wsX40 ++ wsX30 ++ wsX10)
def wsX4_isListFor : List Cond := .code yX4_isListFor cX4_isListFor 3 (some .boolean) :: ([.fieldLink RX4 12 "StateEnds" "states" "LStateEnds$States;", .methodLink RX4 95 yX4_isStateAndKey, .instanceMethod yX4_isStateAndKey, .selects RX4 yX4_isStateAndKey yX4_isStateAndKey, .initialized RX4, .code yX4_isStateAndKey cX4_isStateAndKey 3 (some .boolean), .methodLink RX4 127 yX3_has, .instanceMethod yX3_has, .selects RX3 yX3_has yX3_has, .initialized RX3, .code yX3_has cX3_has 2 (some .boolean), .fieldLink RX3 27 "StateEnds$States" "made" "I", .methodLink RX4 197 yX3_isList, .instanceMethod yX3_isList, .selects RX3 yX3_isList yX3_isList, .code yX3_isList cX3_isList 2 (some .boolean), .fieldLink RX3 9 "StateEnds$States" "forms" "[I"] ++ wsX40 ++ wsX30)
def wsX4_isOfKey : List Cond := .code yX4_isOfKey cX4_isOfKey 4 (some .boolean) :: ([.fieldLink RX4 19 "StateEnds" "places" "LStateEnds$Places;", .methodLink RX4 184 yX1_stateAt, .instanceMethod yX1_stateAt, .selects RX1 yX1_stateAt yX1_stateAt, .initialized RX1, .code yX1_stateAt cX1_stateAt 2 (some .int), .fieldLink RX1 9 "StateEnds$Places" "slots" "[I", .methodLink RX4 203 yX1_keyAt, .instanceMethod yX1_keyAt, .selects RX1 yX1_keyAt yX1_keyAt, .code yX1_keyAt cX1_keyAt 2 (some .int)] ++ wsX40 ++ wsX10)
def wsX4_howMany_r1 : List Cond := [Cond.fieldLink RX4 19 "StateEnds" "places" "LStateEnds$Places;", Cond.fieldLink RX4 142 "StateEnds$Places" "taken" "I", Cond.fieldLink RX4 145 "StateEnds$Places" "line" "[I", Cond.methodLink RX4 101 yX4_isOfKey, Cond.instanceMethod yX4_isOfKey, Cond.selects RX4 yX4_isOfKey yX4_isOfKey, Cond.initialized RX4, Cond.code yX4_isOfKey cX4_isOfKey 4 (some .boolean), Cond.methodLink RX4 184 yX1_stateAt, Cond.instanceMethod yX1_stateAt, Cond.selects RX1 yX1_stateAt yX1_stateAt, Cond.initialized RX1, Cond.code yX1_stateAt cX1_stateAt 2 (some .int), Cond.fieldLink RX1 9 "StateEnds$Places" "slots" "[I", Cond.methodLink RX4 203 yX1_keyAt, Cond.instanceMethod yX1_keyAt, Cond.selects RX1 yX1_keyAt yX1_keyAt, Cond.code yX1_keyAt cX1_keyAt 2 (some .int), Cond.methodLink RX4 71 yX4_isShown, Cond.instanceMethod yX4_isShown, Cond.selects RX4 yX4_isShown yX4_isShown, Cond.code yX4_isShown cX4_isShown 2 (some .boolean), Cond.methodLink RX4 115 yX4_leftOf, Cond.instanceMethod yX4_leftOf]
def wsX4_howMany_r2 : List Cond := [Cond.selects RX4 yX4_leftOf yX4_leftOf, Cond.code yX4_leftOf cX4_leftOf 2 (some .int), Cond.fieldLink RX4 187 "StateEnds$Places" "ends" "[I", Cond.fieldLink RX4 12 "StateEnds" "states" "LStateEnds$States;", Cond.methodLink RX4 206 yX3_timeOf, Cond.instanceMethod yX3_timeOf, Cond.selects RX3 yX3_timeOf yX3_timeOf, Cond.initialized RX3, Cond.code yX3_timeOf cX3_timeOf 2 (some .int), Cond.fieldLink RX3 24 "StateEnds$States" "times" "[I", Cond.fieldLink RX3 15 "StateEnds$States" "clocks" "[I"]
def wsX4_howMany : List Cond := .code yX4_howMany cX4_howMany 7 (some .int) :: ((wsX4_howMany_r1 ++ wsX4_howMany_r2) ++ wsX40 ++ wsX10 ++ wsX30)
def wsX4_add_r1 : List Cond := [Cond.methodLink RX4 89 yX4_isListFor, Cond.instanceMethod yX4_isListFor, Cond.selects RX4 yX4_isListFor yX4_isListFor, Cond.initialized RX4, Cond.code yX4_isListFor cX4_isListFor 3 (some .boolean), Cond.fieldLink RX4 12 "StateEnds" "states" "LStateEnds$States;", Cond.methodLink RX4 95 yX4_isStateAndKey, Cond.instanceMethod yX4_isStateAndKey, Cond.selects RX4 yX4_isStateAndKey yX4_isStateAndKey, Cond.code yX4_isStateAndKey cX4_isStateAndKey 3 (some .boolean), Cond.methodLink RX4 127 yX3_has, Cond.instanceMethod yX3_has, Cond.selects RX3 yX3_has yX3_has, Cond.initialized RX3, Cond.code yX3_has cX3_has 2 (some .boolean), Cond.fieldLink RX3 27 "StateEnds$States" "made" "I", Cond.methodLink RX4 197 yX3_isList, Cond.instanceMethod yX3_isList, Cond.selects RX3 yX3_isList yX3_isList, Cond.code yX3_isList cX3_isList 2 (some .boolean), Cond.fieldLink RX3 9 "StateEnds$States" "forms" "[I", Cond.methodLink RX4 59 yX4_slotOf, Cond.static yX4_slotOf, Cond.code yX4_slotOf cX4_slotOf 3 (some .int)]
def wsX4_add_r2 : List Cond := [Cond.methodLink RX4 67 yX4_bring, Cond.instanceMethod yX4_bring, Cond.selects RX4 yX4_bring yX4_bring, Cond.code yX4_bring cX4_bring 4 (some .boolean), Cond.fieldLink RX4 19 "StateEnds" "places" "LStateEnds$Places;", Cond.methodLink RX4 209 yX1_leastFree, Cond.instanceMethod yX1_leastFree, Cond.selects RX1 yX1_leastFree yX1_leastFree, Cond.initialized RX1, Cond.code yX1_leastFree cX1_leastFree 2 (some .int), Cond.methodLink RX1 37 yX1_isTaken, Cond.instanceMethod yX1_isTaken, Cond.selects RX1 yX1_isTaken yX1_isTaken, Cond.code yX1_isTaken cX1_isTaken 2 (some .boolean), Cond.fieldLink RX1 9 "StateEnds$Places" "slots" "[I", Cond.methodLink RX4 168 yX1_take, Cond.instanceMethod yX1_take, Cond.selects RX1 yX1_take yX1_take, Cond.code yX1_take cX1_take 4 none, Cond.fieldLink RX1 27 "StateEnds$Places" "taken" "I", Cond.fieldLink RX1 24 "StateEnds$Places" "line" "[I", Cond.methodLink RX4 78 yX4_write, Cond.instanceMethod yX4_write, Cond.selects RX4 yX4_write yX4_write]
def wsX4_add_r3 : List Cond := [Cond.code yX4_write cX4_write 3 none, Cond.fieldLink RX4 151 "StateEnds$Places" "numbers" "[I", Cond.fieldLink RX4 130 "StateEnds$States" "spans" "[I", Cond.methodLink RX4 184 yX1_stateAt, Cond.instanceMethod yX1_stateAt, Cond.selects RX1 yX1_stateAt yX1_stateAt, Cond.code yX1_stateAt cX1_stateAt 2 (some .int), Cond.methodLink RX4 175 yX4_stamp, Cond.instanceMethod yX4_stamp, Cond.selects RX4 yX4_stamp yX4_stamp, Cond.code yX4_stamp cX4_stamp 4 none, Cond.fieldLink RX4 212 "StateEnds$Places" "stamps" "[I", Cond.fieldLink RX4 187 "StateEnds$Places" "ends" "[I", Cond.methodLink RX4 206 yX3_timeOf, Cond.instanceMethod yX3_timeOf, Cond.selects RX3 yX3_timeOf yX3_timeOf, Cond.code yX3_timeOf cX3_timeOf 2 (some .int), Cond.fieldLink RX3 24 "StateEnds$States" "times" "[I", Cond.fieldLink RX3 15 "StateEnds$States" "clocks" "[I", Cond.methodLink RX4 92 yX4_howMany, Cond.instanceMethod yX4_howMany, Cond.selects RX4 yX4_howMany yX4_howMany, Cond.code yX4_howMany cX4_howMany 7 (some .int), Cond.fieldLink RX4 142 "StateEnds$Places" "taken" "I"]
def wsX4_add_r4 : List Cond := [Cond.fieldLink RX4 145 "StateEnds$Places" "line" "[I", Cond.methodLink RX4 101 yX4_isOfKey, Cond.instanceMethod yX4_isOfKey, Cond.selects RX4 yX4_isOfKey yX4_isOfKey, Cond.code yX4_isOfKey cX4_isOfKey 4 (some .boolean), Cond.methodLink RX4 203 yX1_keyAt, Cond.instanceMethod yX1_keyAt, Cond.selects RX1 yX1_keyAt yX1_keyAt, Cond.code yX1_keyAt cX1_keyAt 2 (some .int), Cond.methodLink RX4 71 yX4_isShown, Cond.instanceMethod yX4_isShown, Cond.selects RX4 yX4_isShown yX4_isShown, Cond.code yX4_isShown cX4_isShown 2 (some .boolean), Cond.methodLink RX4 115 yX4_leftOf, Cond.instanceMethod yX4_leftOf, Cond.selects RX4 yX4_leftOf yX4_leftOf, Cond.code yX4_leftOf cX4_leftOf 2 (some .int)]
def wsX4_add : List Cond := .code yX4_add cX4_add 4 (some .int) :: ((wsX4_add_r1 ++ (wsX4_add_r2 ++ (wsX4_add_r3 ++ wsX4_add_r4))) ++ wsX40 ++ wsX30 ++ wsX10)
def wsX4_at_r1 : List Cond := [Cond.methodLink RX4 89 yX4_isListFor, Cond.instanceMethod yX4_isListFor, Cond.selects RX4 yX4_isListFor yX4_isListFor, Cond.initialized RX4, Cond.code yX4_isListFor cX4_isListFor 3 (some .boolean), Cond.fieldLink RX4 12 "StateEnds" "states" "LStateEnds$States;", Cond.methodLink RX4 95 yX4_isStateAndKey, Cond.instanceMethod yX4_isStateAndKey, Cond.selects RX4 yX4_isStateAndKey yX4_isStateAndKey, Cond.code yX4_isStateAndKey cX4_isStateAndKey 3 (some .boolean), Cond.methodLink RX4 127 yX3_has, Cond.instanceMethod yX3_has, Cond.selects RX3 yX3_has yX3_has, Cond.initialized RX3, Cond.code yX3_has cX3_has 2 (some .boolean), Cond.fieldLink RX3 27 "StateEnds$States" "made" "I", Cond.methodLink RX4 197 yX3_isList, Cond.instanceMethod yX3_isList, Cond.selects RX3 yX3_isList yX3_isList, Cond.code yX3_isList cX3_isList 2 (some .boolean), Cond.fieldLink RX3 9 "StateEnds$States" "forms" "[I", Cond.methodLink RX4 59 yX4_slotOf, Cond.static yX4_slotOf, Cond.code yX4_slotOf cX4_slotOf 3 (some .int)]
def wsX4_at_r2 : List Cond := [Cond.methodLink RX4 63 yX4_placeOf, Cond.instanceMethod yX4_placeOf, Cond.selects RX4 yX4_placeOf yX4_placeOf, Cond.code yX4_placeOf cX4_placeOf 7 (some .int), Cond.fieldLink RX4 19 "StateEnds" "places" "LStateEnds$Places;", Cond.fieldLink RX4 142 "StateEnds$Places" "taken" "I", Cond.fieldLink RX4 145 "StateEnds$Places" "line" "[I", Cond.fieldLink RX4 148 "StateEnds$Places" "slots" "[I", Cond.methodLink RX4 71 yX4_isShown, Cond.instanceMethod yX4_isShown, Cond.selects RX4 yX4_isShown yX4_isShown, Cond.code yX4_isShown cX4_isShown 2 (some .boolean), Cond.methodLink RX4 115 yX4_leftOf, Cond.instanceMethod yX4_leftOf, Cond.selects RX4 yX4_leftOf yX4_leftOf, Cond.code yX4_leftOf cX4_leftOf 2 (some .int), Cond.fieldLink RX4 187 "StateEnds$Places" "ends" "[I", Cond.methodLink RX4 184 yX1_stateAt, Cond.instanceMethod yX1_stateAt, Cond.selects RX1 yX1_stateAt yX1_stateAt, Cond.initialized RX1, Cond.code yX1_stateAt cX1_stateAt 2 (some .int), Cond.fieldLink RX1 9 "StateEnds$Places" "slots" "[I", Cond.methodLink RX4 206 yX3_timeOf]
def wsX4_at_r3 : List Cond := [Cond.instanceMethod yX3_timeOf, Cond.selects RX3 yX3_timeOf yX3_timeOf, Cond.code yX3_timeOf cX3_timeOf 2 (some .int), Cond.fieldLink RX3 24 "StateEnds$States" "times" "[I", Cond.fieldLink RX3 15 "StateEnds$States" "clocks" "[I", Cond.methodLink RX4 82 yX4_read, Cond.instanceMethod yX4_read, Cond.selects RX4 yX4_read yX4_read, Cond.code yX4_read cX4_read 3 (some .int), Cond.constant RX4 114 (-99999999), Cond.fieldLink RX4 130 "StateEnds$States" "spans" "[I", Cond.fieldLink RX4 151 "StateEnds$Places" "numbers" "[I", Cond.methodLink RX4 215 yX3_isStampedByReads, Cond.instanceMethod yX3_isStampedByReads, Cond.selects RX3 yX3_isStampedByReads yX3_isStampedByReads, Cond.code yX3_isStampedByReads cX3_isStampedByReads 2 (some .boolean), Cond.fieldLink RX3 21 "StateEnds$States" "ways" "[I", Cond.methodLink RX4 175 yX4_stamp, Cond.instanceMethod yX4_stamp, Cond.selects RX4 yX4_stamp yX4_stamp, Cond.code yX4_stamp cX4_stamp 4 none, Cond.fieldLink RX4 212 "StateEnds$Places" "stamps" "[I"]
def wsX4_at : List Cond := .code yX4_at cX4_at 4 (some .int) :: ((wsX4_at_r1 ++ (wsX4_at_r2 ++ wsX4_at_r3)) ++ wsX40 ++ wsX30 ++ wsX10)
def wsX4_clear_r1 : List Cond := [Cond.fieldLink RX4 19 "StateEnds" "places" "LStateEnds$Places;", Cond.methodLink RX4 95 yX4_isStateAndKey, Cond.instanceMethod yX4_isStateAndKey, Cond.selects RX4 yX4_isStateAndKey yX4_isStateAndKey, Cond.initialized RX4, Cond.code yX4_isStateAndKey cX4_isStateAndKey 3 (some .boolean), Cond.fieldLink RX4 12 "StateEnds" "states" "LStateEnds$States;", Cond.methodLink RX4 127 yX3_has, Cond.instanceMethod yX3_has, Cond.selects RX3 yX3_has yX3_has, Cond.initialized RX3, Cond.code yX3_has cX3_has 2 (some .boolean), Cond.fieldLink RX3 27 "StateEnds$States" "made" "I", Cond.methodLink RX4 92 yX4_howMany, Cond.instanceMethod yX4_howMany, Cond.selects RX4 yX4_howMany yX4_howMany, Cond.code yX4_howMany cX4_howMany 7 (some .int), Cond.fieldLink RX4 142 "StateEnds$Places" "taken" "I", Cond.fieldLink RX4 145 "StateEnds$Places" "line" "[I", Cond.methodLink RX4 101 yX4_isOfKey, Cond.instanceMethod yX4_isOfKey, Cond.selects RX4 yX4_isOfKey yX4_isOfKey, Cond.code yX4_isOfKey cX4_isOfKey 4 (some .boolean), Cond.methodLink RX4 184 yX1_stateAt]
def wsX4_clear_r2 : List Cond := [Cond.instanceMethod yX1_stateAt, Cond.selects RX1 yX1_stateAt yX1_stateAt, Cond.initialized RX1, Cond.code yX1_stateAt cX1_stateAt 2 (some .int), Cond.fieldLink RX1 9 "StateEnds$Places" "slots" "[I", Cond.methodLink RX4 203 yX1_keyAt, Cond.instanceMethod yX1_keyAt, Cond.selects RX1 yX1_keyAt yX1_keyAt, Cond.code yX1_keyAt cX1_keyAt 2 (some .int), Cond.methodLink RX4 71 yX4_isShown, Cond.instanceMethod yX4_isShown, Cond.selects RX4 yX4_isShown yX4_isShown, Cond.code yX4_isShown cX4_isShown 2 (some .boolean), Cond.methodLink RX4 115 yX4_leftOf, Cond.instanceMethod yX4_leftOf, Cond.selects RX4 yX4_leftOf yX4_leftOf, Cond.code yX4_leftOf cX4_leftOf 2 (some .int), Cond.fieldLink RX4 187 "StateEnds$Places" "ends" "[I", Cond.methodLink RX4 206 yX3_timeOf, Cond.instanceMethod yX3_timeOf, Cond.selects RX3 yX3_timeOf yX3_timeOf, Cond.code yX3_timeOf cX3_timeOf 2 (some .int), Cond.fieldLink RX3 24 "StateEnds$States" "times" "[I", Cond.fieldLink RX3 15 "StateEnds$States" "clocks" "[I"]
def wsX4_clear_r3 : List Cond := [Cond.methodLink RX4 98 yX1_isTaken, Cond.instanceMethod yX1_isTaken, Cond.selects RX1 yX1_isTaken yX1_isTaken, Cond.code yX1_isTaken cX1_isTaken 2 (some .boolean), Cond.methodLink RX4 86 yX1_vacate, Cond.instanceMethod yX1_vacate, Cond.selects RX1 yX1_vacate yX1_vacate, Cond.code yX1_vacate cX1_vacate 4 none, Cond.fieldLink RX1 27 "StateEnds$Places" "taken" "I", Cond.fieldLink RX1 24 "StateEnds$Places" "line" "[I"]
def wsX4_clear : List Cond := .code yX4_clear cX4_clear 5 (some .int) :: ((wsX4_clear_r1 ++ (wsX4_clear_r2 ++ wsX4_clear_r3)) ++ wsX40 ++ wsX30 ++ wsX10)
def wsX4_held_r1 : List Cond := [Cond.methodLink RX4 95 yX4_isStateAndKey, Cond.instanceMethod yX4_isStateAndKey, Cond.selects RX4 yX4_isStateAndKey yX4_isStateAndKey, Cond.initialized RX4, Cond.code yX4_isStateAndKey cX4_isStateAndKey 3 (some .boolean), Cond.fieldLink RX4 12 "StateEnds" "states" "LStateEnds$States;", Cond.methodLink RX4 127 yX3_has, Cond.instanceMethod yX3_has, Cond.selects RX3 yX3_has yX3_has, Cond.initialized RX3, Cond.code yX3_has cX3_has 2 (some .boolean), Cond.fieldLink RX3 27 "StateEnds$States" "made" "I", Cond.methodLink RX4 92 yX4_howMany, Cond.instanceMethod yX4_howMany, Cond.selects RX4 yX4_howMany yX4_howMany, Cond.code yX4_howMany cX4_howMany 7 (some .int), Cond.fieldLink RX4 19 "StateEnds" "places" "LStateEnds$Places;", Cond.fieldLink RX4 142 "StateEnds$Places" "taken" "I", Cond.fieldLink RX4 145 "StateEnds$Places" "line" "[I", Cond.methodLink RX4 101 yX4_isOfKey, Cond.instanceMethod yX4_isOfKey, Cond.selects RX4 yX4_isOfKey yX4_isOfKey, Cond.code yX4_isOfKey cX4_isOfKey 4 (some .boolean), Cond.methodLink RX4 184 yX1_stateAt]
def wsX4_held_r2 : List Cond := [Cond.instanceMethod yX1_stateAt, Cond.selects RX1 yX1_stateAt yX1_stateAt, Cond.initialized RX1, Cond.code yX1_stateAt cX1_stateAt 2 (some .int), Cond.fieldLink RX1 9 "StateEnds$Places" "slots" "[I", Cond.methodLink RX4 203 yX1_keyAt, Cond.instanceMethod yX1_keyAt, Cond.selects RX1 yX1_keyAt yX1_keyAt, Cond.code yX1_keyAt cX1_keyAt 2 (some .int), Cond.methodLink RX4 71 yX4_isShown, Cond.instanceMethod yX4_isShown, Cond.selects RX4 yX4_isShown yX4_isShown, Cond.code yX4_isShown cX4_isShown 2 (some .boolean), Cond.methodLink RX4 115 yX4_leftOf, Cond.instanceMethod yX4_leftOf, Cond.selects RX4 yX4_leftOf yX4_leftOf, Cond.code yX4_leftOf cX4_leftOf 2 (some .int), Cond.fieldLink RX4 187 "StateEnds$Places" "ends" "[I", Cond.methodLink RX4 206 yX3_timeOf, Cond.instanceMethod yX3_timeOf, Cond.selects RX3 yX3_timeOf yX3_timeOf, Cond.code yX3_timeOf cX3_timeOf 2 (some .int), Cond.fieldLink RX3 24 "StateEnds$States" "times" "[I", Cond.fieldLink RX3 15 "StateEnds$States" "clocks" "[I"]
def wsX4_held : List Cond := .code yX4_held cX4_held 4 (some .int) :: ((wsX4_held_r1 ++ wsX4_held_r2) ++ wsX40 ++ wsX30 ++ wsX10)
def wsX4_isMemberOrIndexFor : List Cond := .code yX4_isMemberOrIndexFor cX4_isMemberOrIndexFor 4 (some .boolean) :: ([.fieldLink RX4 12 "StateEnds" "states" "LStateEnds$States;", .methodLink RX4 95 yX4_isStateAndKey, .instanceMethod yX4_isStateAndKey, .selects RX4 yX4_isStateAndKey yX4_isStateAndKey, .initialized RX4, .code yX4_isStateAndKey cX4_isStateAndKey 3 (some .boolean), .methodLink RX4 127 yX3_has, .instanceMethod yX3_has, .selects RX3 yX3_has yX3_has, .initialized RX3, .code yX3_has cX3_has 2 (some .boolean), .fieldLink RX3 27 "StateEnds$States" "made" "I", .methodLink RX4 197 yX3_isList, .instanceMethod yX3_isList, .selects RX3 yX3_isList yX3_isList, .code yX3_isList cX3_isList 2 (some .boolean), .fieldLink RX3 9 "StateEnds$States" "forms" "[I", .methodLink RX4 200 yX4_isMember, .static yX4_isMember, .code yX4_isMember cX4_isMember 1 (some .boolean)] ++ wsX40 ++ wsX30)
def wsX4_slotFor : List Cond := .code yX4_slotFor cX4_slotFor 4 (some .int) :: ([.fieldLink RX4 12 "StateEnds" "states" "LStateEnds$States;", .methodLink RX4 197 yX3_isList, .instanceMethod yX3_isList, .selects RX3 yX3_isList yX3_isList, .initialized RX3, .code yX3_isList cX3_isList 2 (some .boolean), .fieldLink RX3 9 "StateEnds$States" "forms" "[I", .methodLink RX4 59 yX4_slotOf, .static yX4_slotOf, .initialized RX4, .code yX4_slotOf cX4_slotOf 3 (some .int)] ++ wsX40 ++ wsX30)
def wsX4_indexFor : List Cond := .code yX4_indexFor cX4_indexFor 3 (some .int) :: ([.fieldLink RX4 12 "StateEnds" "states" "LStateEnds$States;", .methodLink RX4 197 yX3_isList, .instanceMethod yX3_isList, .selects RX3 yX3_isList yX3_isList, .initialized RX3, .code yX3_isList cX3_isList 2 (some .boolean), .fieldLink RX3 9 "StateEnds$States" "forms" "[I"] ++ wsX40 ++ wsX30)
def wsX4_left_r1 : List Cond := [Cond.constant RX4 114 (-99999999), Cond.methodLink RX4 104 yX4_isMemberOrIndexFor, Cond.instanceMethod yX4_isMemberOrIndexFor, Cond.selects RX4 yX4_isMemberOrIndexFor yX4_isMemberOrIndexFor, Cond.initialized RX4, Cond.code yX4_isMemberOrIndexFor cX4_isMemberOrIndexFor 4 (some .boolean), Cond.fieldLink RX4 12 "StateEnds" "states" "LStateEnds$States;", Cond.methodLink RX4 95 yX4_isStateAndKey, Cond.instanceMethod yX4_isStateAndKey, Cond.selects RX4 yX4_isStateAndKey yX4_isStateAndKey, Cond.code yX4_isStateAndKey cX4_isStateAndKey 3 (some .boolean), Cond.methodLink RX4 127 yX3_has, Cond.instanceMethod yX3_has, Cond.selects RX3 yX3_has yX3_has, Cond.initialized RX3, Cond.code yX3_has cX3_has 2 (some .boolean), Cond.fieldLink RX3 27 "StateEnds$States" "made" "I", Cond.methodLink RX4 197 yX3_isList, Cond.instanceMethod yX3_isList, Cond.selects RX3 yX3_isList yX3_isList, Cond.code yX3_isList cX3_isList 2 (some .boolean), Cond.fieldLink RX3 9 "StateEnds$States" "forms" "[I", Cond.methodLink RX4 200 yX4_isMember, Cond.static yX4_isMember]
def wsX4_left_r2 : List Cond := [Cond.code yX4_isMember cX4_isMember 1 (some .boolean), Cond.methodLink RX4 107 yX4_slotFor, Cond.instanceMethod yX4_slotFor, Cond.selects RX4 yX4_slotFor yX4_slotFor, Cond.code yX4_slotFor cX4_slotFor 4 (some .int), Cond.methodLink RX4 59 yX4_slotOf, Cond.static yX4_slotOf, Cond.code yX4_slotOf cX4_slotOf 3 (some .int), Cond.methodLink RX4 110 yX4_indexFor, Cond.instanceMethod yX4_indexFor, Cond.selects RX4 yX4_indexFor yX4_indexFor, Cond.code yX4_indexFor cX4_indexFor 3 (some .int), Cond.methodLink RX4 63 yX4_placeOf, Cond.instanceMethod yX4_placeOf, Cond.selects RX4 yX4_placeOf yX4_placeOf, Cond.code yX4_placeOf cX4_placeOf 7 (some .int), Cond.fieldLink RX4 19 "StateEnds" "places" "LStateEnds$Places;", Cond.fieldLink RX4 142 "StateEnds$Places" "taken" "I", Cond.fieldLink RX4 145 "StateEnds$Places" "line" "[I", Cond.fieldLink RX4 148 "StateEnds$Places" "slots" "[I", Cond.methodLink RX4 71 yX4_isShown, Cond.instanceMethod yX4_isShown, Cond.selects RX4 yX4_isShown yX4_isShown, Cond.code yX4_isShown cX4_isShown 2 (some .boolean)]
def wsX4_left_r3 : List Cond := [Cond.methodLink RX4 115 yX4_leftOf, Cond.instanceMethod yX4_leftOf, Cond.selects RX4 yX4_leftOf yX4_leftOf, Cond.code yX4_leftOf cX4_leftOf 2 (some .int), Cond.fieldLink RX4 187 "StateEnds$Places" "ends" "[I", Cond.methodLink RX4 184 yX1_stateAt, Cond.instanceMethod yX1_stateAt, Cond.selects RX1 yX1_stateAt yX1_stateAt, Cond.initialized RX1, Cond.code yX1_stateAt cX1_stateAt 2 (some .int), Cond.fieldLink RX1 9 "StateEnds$Places" "slots" "[I", Cond.methodLink RX4 206 yX3_timeOf, Cond.instanceMethod yX3_timeOf, Cond.selects RX3 yX3_timeOf yX3_timeOf, Cond.code yX3_timeOf cX3_timeOf 2 (some .int), Cond.fieldLink RX3 24 "StateEnds$States" "times" "[I", Cond.fieldLink RX3 15 "StateEnds$States" "clocks" "[I"]
def wsX4_left : List Cond := .code yX4_left cX4_left 5 (some .int) :: ((wsX4_left_r1 ++ (wsX4_left_r2 ++ wsX4_left_r3)) ++ wsX40 ++ wsX30 ++ wsX10)
def wsX4_howManyShown_r1 : List Cond := [Cond.fieldLink RX4 19 "StateEnds" "places" "LStateEnds$Places;", Cond.fieldLink RX4 142 "StateEnds$Places" "taken" "I", Cond.fieldLink RX4 145 "StateEnds$Places" "line" "[I", Cond.methodLink RX4 71 yX4_isShown, Cond.instanceMethod yX4_isShown, Cond.selects RX4 yX4_isShown yX4_isShown, Cond.initialized RX4, Cond.code yX4_isShown cX4_isShown 2 (some .boolean), Cond.methodLink RX4 115 yX4_leftOf, Cond.instanceMethod yX4_leftOf, Cond.selects RX4 yX4_leftOf yX4_leftOf, Cond.code yX4_leftOf cX4_leftOf 2 (some .int), Cond.fieldLink RX4 187 "StateEnds$Places" "ends" "[I", Cond.fieldLink RX4 12 "StateEnds" "states" "LStateEnds$States;", Cond.methodLink RX4 184 yX1_stateAt, Cond.instanceMethod yX1_stateAt, Cond.selects RX1 yX1_stateAt yX1_stateAt, Cond.initialized RX1, Cond.code yX1_stateAt cX1_stateAt 2 (some .int), Cond.fieldLink RX1 9 "StateEnds$Places" "slots" "[I", Cond.methodLink RX4 206 yX3_timeOf, Cond.instanceMethod yX3_timeOf, Cond.selects RX3 yX3_timeOf yX3_timeOf, Cond.initialized RX3]
def wsX4_howManyShown_r2 : List Cond := [Cond.code yX3_timeOf cX3_timeOf 2 (some .int), Cond.fieldLink RX3 24 "StateEnds$States" "times" "[I", Cond.fieldLink RX3 15 "StateEnds$States" "clocks" "[I"]
def wsX4_howManyShown : List Cond := .code yX4_howManyShown cX4_howManyShown 3 (some .int) :: ((wsX4_howManyShown_r1 ++ wsX4_howManyShown_r2) ++ wsX40 ++ wsX10 ++ wsX30)
def wsX4_moveClock_r1 : List Cond := [Cond.fieldLink RX4 12 "StateEnds" "states" "LStateEnds$States;", Cond.fieldLink RX4 119 "StateEnds$States" "times" "[I", Cond.methodLink RX4 190 yX4_howManyShown, Cond.instanceMethod yX4_howManyShown, Cond.selects RX4 yX4_howManyShown yX4_howManyShown, Cond.initialized RX4, Cond.code yX4_howManyShown cX4_howManyShown 3 (some .int), Cond.fieldLink RX4 19 "StateEnds" "places" "LStateEnds$Places;", Cond.fieldLink RX4 142 "StateEnds$Places" "taken" "I", Cond.fieldLink RX4 145 "StateEnds$Places" "line" "[I", Cond.methodLink RX4 71 yX4_isShown, Cond.instanceMethod yX4_isShown, Cond.selects RX4 yX4_isShown yX4_isShown, Cond.code yX4_isShown cX4_isShown 2 (some .boolean), Cond.methodLink RX4 115 yX4_leftOf, Cond.instanceMethod yX4_leftOf, Cond.selects RX4 yX4_leftOf yX4_leftOf, Cond.code yX4_leftOf cX4_leftOf 2 (some .int), Cond.fieldLink RX4 187 "StateEnds$Places" "ends" "[I", Cond.methodLink RX4 184 yX1_stateAt, Cond.instanceMethod yX1_stateAt, Cond.selects RX1 yX1_stateAt yX1_stateAt, Cond.initialized RX1, Cond.code yX1_stateAt cX1_stateAt 2 (some .int)]
def wsX4_moveClock_r2 : List Cond := [Cond.fieldLink RX1 9 "StateEnds$Places" "slots" "[I", Cond.methodLink RX4 206 yX3_timeOf, Cond.instanceMethod yX3_timeOf, Cond.selects RX3 yX3_timeOf yX3_timeOf, Cond.initialized RX3, Cond.code yX3_timeOf cX3_timeOf 2 (some .int), Cond.fieldLink RX3 24 "StateEnds$States" "times" "[I", Cond.fieldLink RX3 15 "StateEnds$States" "clocks" "[I"]
def wsX4_moveClock : List Cond := .code yX4_moveClock cX4_moveClock 4 (some .int) :: ((wsX4_moveClock_r1 ++ wsX4_moveClock_r2) ++ wsX40 ++ wsX30 ++ wsX10)
def wsX4_tick_r1 : List Cond := [Cond.constant RX4 118 (100000), Cond.fieldLink RX4 12 "StateEnds" "states" "LStateEnds$States;", Cond.fieldLink RX4 119 "StateEnds$States" "times" "[I", Cond.constant RX4 123 (1000000000), Cond.methodLink RX4 124 yX4_moveClock, Cond.instanceMethod yX4_moveClock, Cond.selects RX4 yX4_moveClock yX4_moveClock, Cond.initialized RX4, Cond.code yX4_moveClock cX4_moveClock 4 (some .int), Cond.methodLink RX4 190 yX4_howManyShown, Cond.instanceMethod yX4_howManyShown, Cond.selects RX4 yX4_howManyShown yX4_howManyShown, Cond.code yX4_howManyShown cX4_howManyShown 3 (some .int), Cond.fieldLink RX4 19 "StateEnds" "places" "LStateEnds$Places;", Cond.fieldLink RX4 142 "StateEnds$Places" "taken" "I", Cond.fieldLink RX4 145 "StateEnds$Places" "line" "[I", Cond.methodLink RX4 71 yX4_isShown, Cond.instanceMethod yX4_isShown, Cond.selects RX4 yX4_isShown yX4_isShown, Cond.code yX4_isShown cX4_isShown 2 (some .boolean), Cond.methodLink RX4 115 yX4_leftOf, Cond.instanceMethod yX4_leftOf, Cond.selects RX4 yX4_leftOf yX4_leftOf, Cond.code yX4_leftOf cX4_leftOf 2 (some .int)]
def wsX4_tick_r2 : List Cond := [Cond.fieldLink RX4 187 "StateEnds$Places" "ends" "[I", Cond.methodLink RX4 184 yX1_stateAt, Cond.instanceMethod yX1_stateAt, Cond.selects RX1 yX1_stateAt yX1_stateAt, Cond.initialized RX1, Cond.code yX1_stateAt cX1_stateAt 2 (some .int), Cond.fieldLink RX1 9 "StateEnds$Places" "slots" "[I", Cond.methodLink RX4 206 yX3_timeOf, Cond.instanceMethod yX3_timeOf, Cond.selects RX3 yX3_timeOf yX3_timeOf, Cond.initialized RX3, Cond.code yX3_timeOf cX3_timeOf 2 (some .int), Cond.fieldLink RX3 24 "StateEnds$States" "times" "[I", Cond.fieldLink RX3 15 "StateEnds$States" "clocks" "[I"]
def wsX4_tick : List Cond := .code yX4_tick cX4_tick 3 (some .int) :: ((wsX4_tick_r1 ++ wsX4_tick_r2) ++ wsX40 ++ wsX30 ++ wsX10)
def wsX4_watermark_r1 : List Cond := [Cond.constant RX4 123 (1000000000), Cond.fieldLink RX4 12 "StateEnds" "states" "LStateEnds$States;", Cond.fieldLink RX4 119 "StateEnds$States" "times" "[I", Cond.methodLink RX4 124 yX4_moveClock, Cond.instanceMethod yX4_moveClock, Cond.selects RX4 yX4_moveClock yX4_moveClock, Cond.initialized RX4, Cond.code yX4_moveClock cX4_moveClock 4 (some .int), Cond.methodLink RX4 190 yX4_howManyShown, Cond.instanceMethod yX4_howManyShown, Cond.selects RX4 yX4_howManyShown yX4_howManyShown, Cond.code yX4_howManyShown cX4_howManyShown 3 (some .int), Cond.fieldLink RX4 19 "StateEnds" "places" "LStateEnds$Places;", Cond.fieldLink RX4 142 "StateEnds$Places" "taken" "I", Cond.fieldLink RX4 145 "StateEnds$Places" "line" "[I", Cond.methodLink RX4 71 yX4_isShown, Cond.instanceMethod yX4_isShown, Cond.selects RX4 yX4_isShown yX4_isShown, Cond.code yX4_isShown cX4_isShown 2 (some .boolean), Cond.methodLink RX4 115 yX4_leftOf, Cond.instanceMethod yX4_leftOf, Cond.selects RX4 yX4_leftOf yX4_leftOf, Cond.code yX4_leftOf cX4_leftOf 2 (some .int), Cond.fieldLink RX4 187 "StateEnds$Places" "ends" "[I"]
def wsX4_watermark_r2 : List Cond := [Cond.methodLink RX4 184 yX1_stateAt, Cond.instanceMethod yX1_stateAt, Cond.selects RX1 yX1_stateAt yX1_stateAt, Cond.initialized RX1, Cond.code yX1_stateAt cX1_stateAt 2 (some .int), Cond.fieldLink RX1 9 "StateEnds$Places" "slots" "[I", Cond.methodLink RX4 206 yX3_timeOf, Cond.instanceMethod yX3_timeOf, Cond.selects RX3 yX3_timeOf yX3_timeOf, Cond.initialized RX3, Cond.code yX3_timeOf cX3_timeOf 2 (some .int), Cond.fieldLink RX3 24 "StateEnds$States" "times" "[I", Cond.fieldLink RX3 15 "StateEnds$States" "clocks" "[I"]
def wsX4_watermark : List Cond := .code yX4_watermark cX4_watermark 2 (some .int) :: ((wsX4_watermark_r1 ++ wsX4_watermark_r2) ++ wsX40 ++ wsX30 ++ wsX10)
def wsX4_sweep_r1 : List Cond := [Cond.fieldLink RX4 19 "StateEnds" "places" "LStateEnds$Places;", Cond.fieldLink RX4 37 "StateEnds" "sweepFrom" "I", Cond.methodLink RX4 98 yX1_isTaken, Cond.instanceMethod yX1_isTaken, Cond.selects RX1 yX1_isTaken yX1_isTaken, Cond.initialized RX1, Cond.code yX1_isTaken cX1_isTaken 2 (some .boolean), Cond.fieldLink RX1 9 "StateEnds$Places" "slots" "[I", Cond.methodLink RX4 71 yX4_isShown, Cond.instanceMethod yX4_isShown, Cond.selects RX4 yX4_isShown yX4_isShown, Cond.initialized RX4, Cond.code yX4_isShown cX4_isShown 2 (some .boolean), Cond.methodLink RX4 115 yX4_leftOf, Cond.instanceMethod yX4_leftOf, Cond.selects RX4 yX4_leftOf yX4_leftOf, Cond.code yX4_leftOf cX4_leftOf 2 (some .int), Cond.fieldLink RX4 187 "StateEnds$Places" "ends" "[I", Cond.fieldLink RX4 12 "StateEnds" "states" "LStateEnds$States;", Cond.methodLink RX4 184 yX1_stateAt, Cond.instanceMethod yX1_stateAt, Cond.selects RX1 yX1_stateAt yX1_stateAt, Cond.code yX1_stateAt cX1_stateAt 2 (some .int), Cond.methodLink RX4 206 yX3_timeOf]
def wsX4_sweep_r2 : List Cond := [Cond.instanceMethod yX3_timeOf, Cond.selects RX3 yX3_timeOf yX3_timeOf, Cond.initialized RX3, Cond.code yX3_timeOf cX3_timeOf 2 (some .int), Cond.fieldLink RX3 24 "StateEnds$States" "times" "[I", Cond.fieldLink RX3 15 "StateEnds$States" "clocks" "[I", Cond.methodLink RX4 74 yX4_tell, Cond.instanceMethod yX4_tell, Cond.selects RX4 yX4_tell yX4_tell, Cond.code yX4_tell cX4_tell 3 none, Cond.fieldLink RX4 26 "StateEnds" "rows" "LStateEnds$Rows;", Cond.fieldLink RX4 220 "StateEnds$Rows" "cells" "[I", Cond.fieldLink RX4 151 "StateEnds$Places" "numbers" "[I", Cond.fieldLink RX4 119 "StateEnds$States" "times" "[I", Cond.methodLink RX4 218 yX2_begin, Cond.instanceMethod yX2_begin, Cond.selects RX2 yX2_begin yX2_begin, Cond.initialized RX2, Cond.code yX2_begin cX2_begin 1 (some .int), Cond.fieldLink RX2 19 "StateEnds$Rows" "kept" "I", Cond.fieldLink RX2 15 "StateEnds$Rows" "first" "I", Cond.fieldLink RX2 22 "StateEnds$Rows" "ever" "I", Cond.methodLink RX2 25 yX2_indexOf, Cond.instanceMethod yX2_indexOf]
def wsX4_sweep_r3 : List Cond := [Cond.selects RX2 yX2_indexOf yX2_indexOf, Cond.code yX2_indexOf cX2_indexOf 2 (some .int), Cond.methodLink RX4 203 yX1_keyAt, Cond.instanceMethod yX1_keyAt, Cond.selects RX1 yX1_keyAt yX1_keyAt, Cond.code yX1_keyAt cX1_keyAt 2 (some .int), Cond.methodLink RX4 223 yX1_memberAt, Cond.instanceMethod yX1_memberAt, Cond.selects RX1 yX1_memberAt yX1_memberAt, Cond.code yX1_memberAt cX1_memberAt 2 (some .int), Cond.methodLink RX4 86 yX1_vacate, Cond.instanceMethod yX1_vacate, Cond.selects RX1 yX1_vacate yX1_vacate, Cond.code yX1_vacate cX1_vacate 4 none, Cond.fieldLink RX1 27 "StateEnds$Places" "taken" "I", Cond.fieldLink RX1 24 "StateEnds$Places" "line" "[I"]
def wsX4_sweep : List Cond := .code yX4_sweep cX4_sweep 4 (some .int) :: ((wsX4_sweep_r1 ++ (wsX4_sweep_r2 ++ wsX4_sweep_r3)) ++ wsX40 ++ wsX10 ++ wsX30 ++ wsX20)
def wsX4_spanShownAnew_r1 : List Cond := [Cond.fieldLink RX4 19 "StateEnds" "places" "LStateEnds$Places;", Cond.fieldLink RX4 142 "StateEnds$Places" "taken" "I", Cond.fieldLink RX4 145 "StateEnds$Places" "line" "[I", Cond.fieldLink RX4 187 "StateEnds$Places" "ends" "[I", Cond.fieldLink RX4 212 "StateEnds$Places" "stamps" "[I", Cond.fieldLink RX4 12 "StateEnds" "states" "LStateEnds$States;", Cond.fieldLink RX4 130 "StateEnds$States" "spans" "[I", Cond.methodLink RX4 184 yX1_stateAt, Cond.instanceMethod yX1_stateAt, Cond.selects RX1 yX1_stateAt yX1_stateAt, Cond.initialized RX1, Cond.code yX1_stateAt cX1_stateAt 2 (some .int), Cond.fieldLink RX1 9 "StateEnds$Places" "slots" "[I", Cond.methodLink RX4 71 yX4_isShown, Cond.instanceMethod yX4_isShown, Cond.selects RX4 yX4_isShown yX4_isShown, Cond.initialized RX4, Cond.code yX4_isShown cX4_isShown 2 (some .boolean), Cond.methodLink RX4 115 yX4_leftOf, Cond.instanceMethod yX4_leftOf, Cond.selects RX4 yX4_leftOf yX4_leftOf, Cond.code yX4_leftOf cX4_leftOf 2 (some .int), Cond.methodLink RX4 206 yX3_timeOf, Cond.instanceMethod yX3_timeOf]
def wsX4_spanShownAnew_r2 : List Cond := [Cond.selects RX3 yX3_timeOf yX3_timeOf, Cond.initialized RX3, Cond.code yX3_timeOf cX3_timeOf 2 (some .int), Cond.fieldLink RX3 24 "StateEnds$States" "times" "[I", Cond.fieldLink RX3 15 "StateEnds$States" "clocks" "[I"]
def wsX4_spanShownAnew : List Cond := .code yX4_spanShownAnew cX4_spanShownAnew 4 none :: ((wsX4_spanShownAnew_r1 ++ wsX4_spanShownAnew_r2) ++ wsX40 ++ wsX10 ++ wsX30)
def wsX4_setting_r1 : List Cond := [Cond.fieldLink RX4 12 "StateEnds" "states" "LStateEnds$States;", Cond.fieldLink RX4 130 "StateEnds$States" "spans" "[I", Cond.methodLink RX4 127 yX3_has, Cond.instanceMethod yX3_has, Cond.selects RX3 yX3_has yX3_has, Cond.initialized RX3, Cond.code yX3_has cX3_has 2 (some .boolean), Cond.fieldLink RX3 27 "StateEnds$States" "made" "I", Cond.methodLink RX4 45 yX4_isSpan, Cond.static yX4_isSpan, Cond.initialized RX4, Cond.code yX4_isSpan cX4_isSpan 1 (some .boolean), Cond.constant RX4 118 (100000), Cond.methodLink RX4 133 yX4_spanShownAnew, Cond.instanceMethod yX4_spanShownAnew, Cond.selects RX4 yX4_spanShownAnew yX4_spanShownAnew, Cond.code yX4_spanShownAnew cX4_spanShownAnew 4 none, Cond.fieldLink RX4 19 "StateEnds" "places" "LStateEnds$Places;", Cond.fieldLink RX4 142 "StateEnds$Places" "taken" "I", Cond.fieldLink RX4 145 "StateEnds$Places" "line" "[I", Cond.fieldLink RX4 187 "StateEnds$Places" "ends" "[I", Cond.fieldLink RX4 212 "StateEnds$Places" "stamps" "[I", Cond.methodLink RX4 184 yX1_stateAt, Cond.instanceMethod yX1_stateAt]
def wsX4_setting_r2 : List Cond := [Cond.selects RX1 yX1_stateAt yX1_stateAt, Cond.initialized RX1, Cond.code yX1_stateAt cX1_stateAt 2 (some .int), Cond.fieldLink RX1 9 "StateEnds$Places" "slots" "[I", Cond.methodLink RX4 71 yX4_isShown, Cond.instanceMethod yX4_isShown, Cond.selects RX4 yX4_isShown yX4_isShown, Cond.code yX4_isShown cX4_isShown 2 (some .boolean), Cond.methodLink RX4 115 yX4_leftOf, Cond.instanceMethod yX4_leftOf, Cond.selects RX4 yX4_leftOf yX4_leftOf, Cond.code yX4_leftOf cX4_leftOf 2 (some .int), Cond.methodLink RX4 206 yX3_timeOf, Cond.instanceMethod yX3_timeOf, Cond.selects RX3 yX3_timeOf yX3_timeOf, Cond.code yX3_timeOf cX3_timeOf 2 (some .int), Cond.fieldLink RX3 24 "StateEnds$States" "times" "[I", Cond.fieldLink RX3 15 "StateEnds$States" "clocks" "[I"]
def wsX4_setting : List Cond := .code yX4_setting cX4_setting 5 (some .int) :: ((wsX4_setting_r1 ++ wsX4_setting_r2) ++ wsX40 ++ wsX30 ++ wsX10)
def wsX4_isMark : List Cond := .code yX4_isMark cX4_isMark 1 (some .boolean) :: ([])
def wsX4_mark_r1 : List Cond := [Cond.fieldLink RX4 33 "StateEnds" "marks" "LStateEnds$Marks;", Cond.fieldLink RX4 19 "StateEnds" "places" "LStateEnds$Places;", Cond.fieldLink RX4 142 "StateEnds$Places" "taken" "I", Cond.fieldLink RX4 145 "StateEnds$Places" "line" "[I", Cond.fieldLink RX4 148 "StateEnds$Places" "slots" "[I", Cond.fieldLink RX4 151 "StateEnds$Places" "numbers" "[I", Cond.fieldLink RX4 158 "StateEnds$Marks" "sizes" "[I", Cond.methodLink RX4 136 yX4_isMark, Cond.static yX4_isMark, Cond.initialized RX4, Cond.code yX4_isMark cX4_isMark 1 (some .boolean), Cond.methodLink RX4 139 yX0_begin, Cond.instanceMethod yX0_begin, Cond.selects RX0 yX0_begin yX0_begin, Cond.initialized RX0, Cond.code yX0_begin cX0_begin 2 none, Cond.fieldLink RX0 21 "StateEnds$Marks" "sizes" "[I", Cond.methodLink RX4 71 yX4_isShown, Cond.instanceMethod yX4_isShown, Cond.selects RX4 yX4_isShown yX4_isShown, Cond.code yX4_isShown cX4_isShown 2 (some .boolean), Cond.methodLink RX4 115 yX4_leftOf, Cond.instanceMethod yX4_leftOf, Cond.selects RX4 yX4_leftOf yX4_leftOf]
def wsX4_mark_r2 : List Cond := [Cond.code yX4_leftOf cX4_leftOf 2 (some .int), Cond.fieldLink RX4 187 "StateEnds$Places" "ends" "[I", Cond.fieldLink RX4 12 "StateEnds" "states" "LStateEnds$States;", Cond.methodLink RX4 184 yX1_stateAt, Cond.instanceMethod yX1_stateAt, Cond.selects RX1 yX1_stateAt yX1_stateAt, Cond.initialized RX1, Cond.code yX1_stateAt cX1_stateAt 2 (some .int), Cond.fieldLink RX1 9 "StateEnds$Places" "slots" "[I", Cond.methodLink RX4 206 yX3_timeOf, Cond.instanceMethod yX3_timeOf, Cond.selects RX3 yX3_timeOf yX3_timeOf, Cond.initialized RX3, Cond.code yX3_timeOf cX3_timeOf 2 (some .int), Cond.fieldLink RX3 24 "StateEnds$States" "times" "[I", Cond.fieldLink RX3 15 "StateEnds$States" "clocks" "[I", Cond.methodLink RX4 154 yX0_keep, Cond.instanceMethod yX0_keep, Cond.selects RX0 yX0_keep yX0_keep, Cond.code yX0_keep cX0_keep 6 none, Cond.fieldLink RX0 9 "StateEnds$Marks" "slots" "[I", Cond.fieldLink RX0 15 "StateEnds$Marks" "numbers" "[I", Cond.fieldLink RX0 18 "StateEnds$Marks" "lefts" "[I", Cond.methodLink RX0 30 yX0_indexOf]
def wsX4_mark_r3 : List Cond := [Cond.instanceMethod yX0_indexOf, Cond.selects RX0 yX0_indexOf yX0_indexOf, Cond.code yX0_indexOf cX0_indexOf 3 (some .int)]
def wsX4_mark : List Cond := .code yX4_mark cX4_mark 4 (some .int) :: ((wsX4_mark_r1 ++ (wsX4_mark_r2 ++ wsX4_mark_r3)) ++ wsX40 ++ wsX10 ++ wsX00 ++ wsX30)
def wsX4_restore_r1 : List Cond := [Cond.fieldLink RX4 33 "StateEnds" "marks" "LStateEnds$Marks;", Cond.fieldLink RX4 158 "StateEnds$Marks" "sizes" "[I", Cond.fieldLink RX4 19 "StateEnds" "places" "LStateEnds$Places;", Cond.fieldLink RX4 167 "StateEnds$Marks" "slots" "[I", Cond.fieldLink RX4 151 "StateEnds$Places" "numbers" "[I", Cond.fieldLink RX4 171 "StateEnds$Marks" "numbers" "[I", Cond.fieldLink RX4 172 "StateEnds$Marks" "lefts" "[I", Cond.fieldLink RX4 37 "StateEnds" "sweepFrom" "I", Cond.fieldLink RX4 142 "StateEnds$Places" "taken" "I", Cond.methodLink RX4 136 yX4_isMark, Cond.static yX4_isMark, Cond.initialized RX4, Cond.code yX4_isMark cX4_isMark 1 (some .boolean), Cond.methodLink RX4 161 yX1_vacateAll, Cond.instanceMethod yX1_vacateAll, Cond.selects RX1 yX1_vacateAll yX1_vacateAll, Cond.initialized RX1, Cond.code yX1_vacateAll cX1_vacateAll 1 none, Cond.fieldLink RX1 9 "StateEnds$Places" "slots" "[I", Cond.fieldLink RX1 27 "StateEnds$Places" "taken" "I", Cond.methodLink RX1 31 yJ7_fill_53178, Cond.static yJ7_fill_53178, Cond.initialized RJ7, Cond.code yJ7_fill_53178 cJ7_fill_53178 4 none]
def wsX4_restore_r2 : List Cond := [Cond.methodLink RX4 164 yX0_indexOf, Cond.instanceMethod yX0_indexOf, Cond.selects RX0 yX0_indexOf yX0_indexOf, Cond.initialized RX0, Cond.code yX0_indexOf cX0_indexOf 3 (some .int), Cond.methodLink RX4 168 yX1_take, Cond.instanceMethod yX1_take, Cond.selects RX1 yX1_take yX1_take, Cond.code yX1_take cX1_take 4 none, Cond.fieldLink RX1 24 "StateEnds$Places" "line" "[I", Cond.methodLink RX4 175 yX4_stamp, Cond.instanceMethod yX4_stamp, Cond.selects RX4 yX4_stamp yX4_stamp, Cond.code yX4_stamp cX4_stamp 4 none, Cond.fieldLink RX4 12 "StateEnds" "states" "LStateEnds$States;", Cond.fieldLink RX4 212 "StateEnds$Places" "stamps" "[I", Cond.fieldLink RX4 187 "StateEnds$Places" "ends" "[I", Cond.methodLink RX4 184 yX1_stateAt, Cond.instanceMethod yX1_stateAt, Cond.selects RX1 yX1_stateAt yX1_stateAt, Cond.code yX1_stateAt cX1_stateAt 2 (some .int), Cond.methodLink RX4 206 yX3_timeOf, Cond.instanceMethod yX3_timeOf, Cond.selects RX3 yX3_timeOf yX3_timeOf]
def wsX4_restore_r3 : List Cond := [Cond.initialized RX3, Cond.code yX3_timeOf cX3_timeOf 2 (some .int), Cond.fieldLink RX3 24 "StateEnds$States" "times" "[I", Cond.fieldLink RX3 15 "StateEnds$States" "clocks" "[I"]
def wsX4_restore : List Cond := .code yX4_restore cX4_restore 5 (some .int) :: ((wsX4_restore_r1 ++ (wsX4_restore_r2 ++ wsX4_restore_r3)) ++ wsX40 ++ wsX00 ++ wsX10 ++ wsX30)
def wsX4_row : List Cond := .code yX4_row cX4_row 3 (some .int) :: ([.fieldLink RX4 26 "StateEnds" "rows" "LStateEnds$Rows;", .fieldLink RX4 178 "StateEnds$Rows" "kept" "I", .constant RX4 114 (-99999999), .methodLink RX4 181 yX2_cell, .instanceMethod yX2_cell, .selects RX2 yX2_cell yX2_cell, .initialized RX2, .code yX2_cell cX2_cell 3 (some .int), .fieldLink RX2 9 "StateEnds$Rows" "cells" "[I", .methodLink RX2 25 yX2_indexOf, .instanceMethod yX2_indexOf, .selects RX2 yX2_indexOf yX2_indexOf, .code yX2_indexOf cX2_indexOf 2 (some .int), .fieldLink RX2 15 "StateEnds$Rows" "first" "I"] ++ wsX40 ++ wsX20)
def wsX4_place_r1 : List Cond := [Cond.constant RX4 114 (-99999999), Cond.methodLink RX4 104 yX4_isMemberOrIndexFor, Cond.instanceMethod yX4_isMemberOrIndexFor, Cond.selects RX4 yX4_isMemberOrIndexFor yX4_isMemberOrIndexFor, Cond.initialized RX4, Cond.code yX4_isMemberOrIndexFor cX4_isMemberOrIndexFor 4 (some .boolean), Cond.fieldLink RX4 12 "StateEnds" "states" "LStateEnds$States;", Cond.methodLink RX4 95 yX4_isStateAndKey, Cond.instanceMethod yX4_isStateAndKey, Cond.selects RX4 yX4_isStateAndKey yX4_isStateAndKey, Cond.code yX4_isStateAndKey cX4_isStateAndKey 3 (some .boolean), Cond.methodLink RX4 127 yX3_has, Cond.instanceMethod yX3_has, Cond.selects RX3 yX3_has yX3_has, Cond.initialized RX3, Cond.code yX3_has cX3_has 2 (some .boolean), Cond.fieldLink RX3 27 "StateEnds$States" "made" "I", Cond.methodLink RX4 197 yX3_isList, Cond.instanceMethod yX3_isList, Cond.selects RX3 yX3_isList yX3_isList, Cond.code yX3_isList cX3_isList 2 (some .boolean), Cond.fieldLink RX3 9 "StateEnds$States" "forms" "[I", Cond.methodLink RX4 200 yX4_isMember, Cond.static yX4_isMember]
def wsX4_place_r2 : List Cond := [Cond.code yX4_isMember cX4_isMember 1 (some .boolean), Cond.methodLink RX4 107 yX4_slotFor, Cond.instanceMethod yX4_slotFor, Cond.selects RX4 yX4_slotFor yX4_slotFor, Cond.code yX4_slotFor cX4_slotFor 4 (some .int), Cond.methodLink RX4 59 yX4_slotOf, Cond.static yX4_slotOf, Cond.code yX4_slotOf cX4_slotOf 3 (some .int), Cond.methodLink RX4 110 yX4_indexFor, Cond.instanceMethod yX4_indexFor, Cond.selects RX4 yX4_indexFor yX4_indexFor, Cond.code yX4_indexFor cX4_indexFor 3 (some .int), Cond.methodLink RX4 63 yX4_placeOf, Cond.instanceMethod yX4_placeOf, Cond.selects RX4 yX4_placeOf yX4_placeOf, Cond.code yX4_placeOf cX4_placeOf 7 (some .int), Cond.fieldLink RX4 19 "StateEnds" "places" "LStateEnds$Places;", Cond.fieldLink RX4 142 "StateEnds$Places" "taken" "I", Cond.fieldLink RX4 145 "StateEnds$Places" "line" "[I", Cond.fieldLink RX4 148 "StateEnds$Places" "slots" "[I", Cond.methodLink RX4 71 yX4_isShown, Cond.instanceMethod yX4_isShown, Cond.selects RX4 yX4_isShown yX4_isShown, Cond.code yX4_isShown cX4_isShown 2 (some .boolean)]
def wsX4_place_r3 : List Cond := [Cond.methodLink RX4 115 yX4_leftOf, Cond.instanceMethod yX4_leftOf, Cond.selects RX4 yX4_leftOf yX4_leftOf, Cond.code yX4_leftOf cX4_leftOf 2 (some .int), Cond.fieldLink RX4 187 "StateEnds$Places" "ends" "[I", Cond.methodLink RX4 184 yX1_stateAt, Cond.instanceMethod yX1_stateAt, Cond.selects RX1 yX1_stateAt yX1_stateAt, Cond.initialized RX1, Cond.code yX1_stateAt cX1_stateAt 2 (some .int), Cond.fieldLink RX1 9 "StateEnds$Places" "slots" "[I", Cond.methodLink RX4 206 yX3_timeOf, Cond.instanceMethod yX3_timeOf, Cond.selects RX3 yX3_timeOf yX3_timeOf, Cond.code yX3_timeOf cX3_timeOf 2 (some .int), Cond.fieldLink RX3 24 "StateEnds$States" "times" "[I", Cond.fieldLink RX3 15 "StateEnds$States" "clocks" "[I"]
def wsX4_place : List Cond := .code yX4_place cX4_place 5 (some .int) :: ((wsX4_place_r1 ++ (wsX4_place_r2 ++ wsX4_place_r3)) ++ wsX40 ++ wsX30 ++ wsX10)
def wsX4_next_r1 : List Cond := [Cond.fieldLink RX4 12 "StateEnds" "states" "LStateEnds$States;", Cond.constant RX4 114 (-99999999), Cond.fieldLink RX4 19 "StateEnds" "places" "LStateEnds$Places;", Cond.fieldLink RX4 142 "StateEnds$Places" "taken" "I", Cond.fieldLink RX4 145 "StateEnds$Places" "line" "[I", Cond.fieldLink RX4 187 "StateEnds$Places" "ends" "[I", Cond.methodLink RX4 127 yX3_has, Cond.instanceMethod yX3_has, Cond.selects RX3 yX3_has yX3_has, Cond.initialized RX3, Cond.code yX3_has cX3_has 2 (some .boolean), Cond.fieldLink RX3 27 "StateEnds$States" "made" "I", Cond.methodLink RX4 184 yX1_stateAt, Cond.instanceMethod yX1_stateAt, Cond.selects RX1 yX1_stateAt yX1_stateAt, Cond.initialized RX1, Cond.code yX1_stateAt cX1_stateAt 2 (some .int), Cond.fieldLink RX1 9 "StateEnds$Places" "slots" "[I", Cond.methodLink RX4 71 yX4_isShown, Cond.instanceMethod yX4_isShown, Cond.selects RX4 yX4_isShown yX4_isShown, Cond.initialized RX4, Cond.code yX4_isShown cX4_isShown 2 (some .boolean), Cond.methodLink RX4 115 yX4_leftOf]
def wsX4_next_r2 : List Cond := [Cond.instanceMethod yX4_leftOf, Cond.selects RX4 yX4_leftOf yX4_leftOf, Cond.code yX4_leftOf cX4_leftOf 2 (some .int), Cond.methodLink RX4 206 yX3_timeOf, Cond.instanceMethod yX3_timeOf, Cond.selects RX3 yX3_timeOf yX3_timeOf, Cond.code yX3_timeOf cX3_timeOf 2 (some .int), Cond.fieldLink RX3 24 "StateEnds$States" "times" "[I", Cond.fieldLink RX3 15 "StateEnds$States" "clocks" "[I"]
def wsX4_next : List Cond := .code yX4_next cX4_next 5 (some .int) :: ((wsX4_next_r1 ++ wsX4_next_r2) ++ wsX40 ++ wsX10 ++ wsX30)
def wsX4_count_r1 : List Cond := [Cond.fieldLink RX4 12 "StateEnds" "states" "LStateEnds$States;", Cond.fieldLink RX4 48 "StateEnds$States" "made" "I", Cond.fieldLink RX4 19 "StateEnds" "places" "LStateEnds$Places;", Cond.fieldLink RX4 142 "StateEnds$Places" "taken" "I", Cond.fieldLink RX4 26 "StateEnds" "rows" "LStateEnds$Rows;", Cond.fieldLink RX4 178 "StateEnds$Rows" "kept" "I", Cond.fieldLink RX4 194 "StateEnds$Rows" "ever" "I", Cond.fieldLink RX4 119 "StateEnds$States" "times" "[I", Cond.fieldLink RX4 37 "StateEnds" "sweepFrom" "I", Cond.methodLink RX4 190 yX4_howManyShown, Cond.instanceMethod yX4_howManyShown, Cond.selects RX4 yX4_howManyShown yX4_howManyShown, Cond.initialized RX4, Cond.code yX4_howManyShown cX4_howManyShown 3 (some .int), Cond.fieldLink RX4 145 "StateEnds$Places" "line" "[I", Cond.methodLink RX4 71 yX4_isShown, Cond.instanceMethod yX4_isShown, Cond.selects RX4 yX4_isShown yX4_isShown, Cond.code yX4_isShown cX4_isShown 2 (some .boolean), Cond.methodLink RX4 115 yX4_leftOf, Cond.instanceMethod yX4_leftOf, Cond.selects RX4 yX4_leftOf yX4_leftOf, Cond.code yX4_leftOf cX4_leftOf 2 (some .int), Cond.fieldLink RX4 187 "StateEnds$Places" "ends" "[I"]
def wsX4_count_r2 : List Cond := [Cond.methodLink RX4 184 yX1_stateAt, Cond.instanceMethod yX1_stateAt, Cond.selects RX1 yX1_stateAt yX1_stateAt, Cond.initialized RX1, Cond.code yX1_stateAt cX1_stateAt 2 (some .int), Cond.fieldLink RX1 9 "StateEnds$Places" "slots" "[I", Cond.methodLink RX4 206 yX3_timeOf, Cond.instanceMethod yX3_timeOf, Cond.selects RX3 yX3_timeOf yX3_timeOf, Cond.initialized RX3, Cond.code yX3_timeOf cX3_timeOf 2 (some .int), Cond.fieldLink RX3 24 "StateEnds$States" "times" "[I", Cond.fieldLink RX3 15 "StateEnds$States" "clocks" "[I"]
def wsX4_count : List Cond := .code yX4_count cX4_count 2 (some .int) :: ((wsX4_count_r1 ++ wsX4_count_r2) ++ wsX40 ++ wsX30 ++ wsX10 ++ wsX20)
def wsX5_init : List Cond := .code yX5_init cX5_init 2 none :: ([.methodLink RX5 1 objectInit, .instanceMethod objectInit, .code objectInit ⟨#[0xb1]⟩ 1 none, .arrayClass .int, .fieldLink RX5 7 "StateEndsModel" "forms" "[I", .fieldLink RX5 13 "StateEndsModel" "clocks" "[I", .fieldLink RX5 16 "StateEndsModel" "spans" "[I", .fieldLink RX5 19 "StateEndsModel" "ways" "[I", .fieldLink RX5 22 "StateEndsModel" "now" "[I", .fieldLink RX5 25 "StateEndsModel" "stateOf" "[I", .fieldLink RX5 28 "StateEndsModel" "keyOf" "[I", .fieldLink RX5 31 "StateEndsModel" "memberOf" "[I", .fieldLink RX5 34 "StateEndsModel" "numberOf" "[I", .fieldLink RX5 37 "StateEndsModel" "stampOf" "[I", .fieldLink RX5 40 "StateEndsModel" "endOf" "[I", .fieldLink RX5 43 "StateEndsModel" "cameOf" "[I", .fieldLink RX5 46 "StateEndsModel" "rows" "[I", .fieldLink RX5 49 "StateEndsModel" "markMany" "[I", .fieldLink RX5 52 "StateEndsModel" "marks" "[I", .constant RX5 55 (-99999999)] ++ wsX50)
def wsX5_isIn : List Cond := .code yX5_isIn cX5_isIn 3 (some .boolean) :: ([])
def wsX5_isState : List Cond := .code yX5_isState cX5_isState 2 (some .boolean) :: ([.fieldLink RX5 56 "StateEndsModel" "states" "I", .methodLink RX5 60 yX5_isIn, .static yX5_isIn, .initialized RX5, .code yX5_isIn cX5_isIn 3 (some .boolean)] ++ wsX50)
def wsX5_isForm : List Cond := .code yX5_isForm cX5_isForm 3 (some .boolean) :: ([.fieldLink RX5 7 "StateEndsModel" "forms" "[I", .methodLink RX5 64 yX5_isState, .instanceMethod yX5_isState, .selects RX5 yX5_isState yX5_isState, .initialized RX5, .code yX5_isState cX5_isState 2 (some .boolean), .fieldLink RX5 56 "StateEndsModel" "states" "I", .methodLink RX5 60 yX5_isIn, .static yX5_isIn, .code yX5_isIn cX5_isIn 3 (some .boolean)] ++ wsX50)
def wsX5_state : List Cond := .code yX5_state cX5_state 5 (some .int) :: ([.constant RX5 68 (100000), .fieldLink RX5 56 "StateEndsModel" "states" "I", .fieldLink RX5 7 "StateEndsModel" "forms" "[I", .fieldLink RX5 13 "StateEndsModel" "clocks" "[I", .fieldLink RX5 16 "StateEndsModel" "spans" "[I", .fieldLink RX5 19 "StateEndsModel" "ways" "[I", .methodLink RX5 60 yX5_isIn, .static yX5_isIn, .initialized RX5, .code yX5_isIn cX5_isIn 3 (some .boolean)] ++ wsX50)
def wsX5_clockOf : List Cond := .code yX5_clockOf cX5_clockOf 2 (some .int) :: ([.fieldLink RX5 22 "StateEndsModel" "now" "[I", .fieldLink RX5 13 "StateEndsModel" "clocks" "[I", .fieldLink RX5 25 "StateEndsModel" "stateOf" "[I"] ++ wsX50)
def wsX5_isShown : List Cond := .code yX5_isShown cX5_isShown 2 (some .boolean) :: ([.fieldLink RX5 25 "StateEndsModel" "stateOf" "[I", .constant RX5 55 (-99999999), .fieldLink RX5 40 "StateEndsModel" "endOf" "[I", .methodLink RX5 69 yX5_clockOf, .instanceMethod yX5_clockOf, .selects RX5 yX5_clockOf yX5_clockOf, .initialized RX5, .code yX5_clockOf cX5_clockOf 2 (some .int), .fieldLink RX5 22 "StateEndsModel" "now" "[I", .fieldLink RX5 13 "StateEndsModel" "clocks" "[I"] ++ wsX50)
def wsX5_isOver : List Cond := .code yX5_isOver cX5_isOver 2 (some .boolean) :: ([.fieldLink RX5 25 "StateEndsModel" "stateOf" "[I", .constant RX5 55 (-99999999), .fieldLink RX5 40 "StateEndsModel" "endOf" "[I", .methodLink RX5 69 yX5_clockOf, .instanceMethod yX5_clockOf, .selects RX5 yX5_clockOf yX5_clockOf, .initialized RX5, .code yX5_clockOf cX5_clockOf 2 (some .int), .fieldLink RX5 22 "StateEndsModel" "now" "[I", .fieldLink RX5 13 "StateEndsModel" "clocks" "[I"] ++ wsX50)
def wsX5_free : List Cond := .code yX5_free cX5_free 2 (some .int) :: ([.fieldLink RX5 25 "StateEndsModel" "stateOf" "[I", .constant RX5 55 (-99999999)] ++ wsX50)
def wsX5_find : List Cond := .code yX5_find cX5_find 5 (some .int) :: ([.fieldLink RX5 25 "StateEndsModel" "stateOf" "[I", .fieldLink RX5 28 "StateEndsModel" "keyOf" "[I", .fieldLink RX5 31 "StateEndsModel" "memberOf" "[I", .constant RX5 55 (-99999999)] ++ wsX50)
def wsX5_findIn : List Cond := .code yX5_findIn cX5_findIn 10 (some .int) :: ([.constant RX5 55 (-99999999), .fieldLink RX5 25 "StateEndsModel" "stateOf" "[I", .fieldLink RX5 28 "StateEndsModel" "keyOf" "[I", .fieldLink RX5 43 "StateEndsModel" "cameOf" "[I", .methodLink RX5 73 yX5_isShown, .instanceMethod yX5_isShown, .selects RX5 yX5_isShown yX5_isShown, .initialized RX5, .code yX5_isShown cX5_isShown 2 (some .boolean), .fieldLink RX5 40 "StateEndsModel" "endOf" "[I", .methodLink RX5 69 yX5_clockOf, .instanceMethod yX5_clockOf, .selects RX5 yX5_clockOf yX5_clockOf, .code yX5_clockOf cX5_clockOf 2 (some .int), .fieldLink RX5 22 "StateEndsModel" "now" "[I", .fieldLink RX5 13 "StateEndsModel" "clocks" "[I"] ++ wsX50)
def wsX5_stamps : List Cond := .code yX5_stamps cX5_stamps 3 none :: ([.fieldLink RX5 25 "StateEndsModel" "stateOf" "[I", .fieldLink RX5 37 "StateEndsModel" "stampOf" "[I", .fieldLink RX5 22 "StateEndsModel" "now" "[I", .fieldLink RX5 13 "StateEndsModel" "clocks" "[I", .fieldLink RX5 40 "StateEndsModel" "endOf" "[I", .fieldLink RX5 16 "StateEndsModel" "spans" "[I"] ++ wsX50)
def wsX5_writes : List Cond := .code yX5_writes cX5_writes 6 none :: ([.fieldLink RX5 25 "StateEndsModel" "stateOf" "[I", .fieldLink RX5 28 "StateEndsModel" "keyOf" "[I", .fieldLink RX5 31 "StateEndsModel" "memberOf" "[I", .fieldLink RX5 34 "StateEndsModel" "numberOf" "[I", .fieldLink RX5 76 "StateEndsModel" "came" "I", .fieldLink RX5 43 "StateEndsModel" "cameOf" "[I", .methodLink RX5 79 yX5_stamps, .instanceMethod yX5_stamps, .selects RX5 yX5_stamps yX5_stamps, .initialized RX5, .code yX5_stamps cX5_stamps 3 none, .fieldLink RX5 37 "StateEndsModel" "stampOf" "[I", .fieldLink RX5 22 "StateEndsModel" "now" "[I", .fieldLink RX5 13 "StateEndsModel" "clocks" "[I", .fieldLink RX5 40 "StateEndsModel" "endOf" "[I", .fieldLink RX5 16 "StateEndsModel" "spans" "[I"] ++ wsX50)
def wsX5_tells : List Cond := .code yX5_tells cX5_tells 3 none :: ([.fieldLink RX5 83 "StateEndsModel" "rowMany" "I", .fieldLink RX5 46 "StateEndsModel" "rows" "[I", .fieldLink RX5 25 "StateEndsModel" "stateOf" "[I", .fieldLink RX5 28 "StateEndsModel" "keyOf" "[I", .fieldLink RX5 31 "StateEndsModel" "memberOf" "[I", .fieldLink RX5 34 "StateEndsModel" "numberOf" "[I", .fieldLink RX5 40 "StateEndsModel" "endOf" "[I", .fieldLink RX5 22 "StateEndsModel" "now" "[I", .fieldLink RX5 86 "StateEndsModel" "rowsEver" "I"] ++ wsX50)
def wsX5_put_r1 : List Cond := [Cond.constant RX5 55 (-99999999), Cond.methodLink RX5 89 yX5_isForm, Cond.instanceMethod yX5_isForm, Cond.selects RX5 yX5_isForm yX5_isForm, Cond.initialized RX5, Cond.code yX5_isForm cX5_isForm 3 (some .boolean), Cond.fieldLink RX5 7 "StateEndsModel" "forms" "[I", Cond.methodLink RX5 64 yX5_isState, Cond.instanceMethod yX5_isState, Cond.selects RX5 yX5_isState yX5_isState, Cond.code yX5_isState cX5_isState 2 (some .boolean), Cond.fieldLink RX5 56 "StateEndsModel" "states" "I", Cond.methodLink RX5 60 yX5_isIn, Cond.static yX5_isIn, Cond.code yX5_isIn cX5_isIn 3 (some .boolean), Cond.methodLink RX5 93 yX5_find, Cond.instanceMethod yX5_find, Cond.selects RX5 yX5_find yX5_find, Cond.code yX5_find cX5_find 5 (some .int), Cond.fieldLink RX5 25 "StateEndsModel" "stateOf" "[I", Cond.fieldLink RX5 28 "StateEndsModel" "keyOf" "[I", Cond.fieldLink RX5 31 "StateEndsModel" "memberOf" "[I", Cond.methodLink RX5 73 yX5_isShown, Cond.instanceMethod yX5_isShown]
def wsX5_put_r2 : List Cond := [Cond.selects RX5 yX5_isShown yX5_isShown, Cond.code yX5_isShown cX5_isShown 2 (some .boolean), Cond.fieldLink RX5 40 "StateEndsModel" "endOf" "[I", Cond.methodLink RX5 69 yX5_clockOf, Cond.instanceMethod yX5_clockOf, Cond.selects RX5 yX5_clockOf yX5_clockOf, Cond.code yX5_clockOf cX5_clockOf 2 (some .int), Cond.fieldLink RX5 22 "StateEndsModel" "now" "[I", Cond.fieldLink RX5 13 "StateEndsModel" "clocks" "[I", Cond.methodLink RX5 97 yX5_free, Cond.instanceMethod yX5_free, Cond.selects RX5 yX5_free yX5_free, Cond.code yX5_free cX5_free 2 (some .int), Cond.methodLink RX5 101 yX5_tells, Cond.instanceMethod yX5_tells, Cond.selects RX5 yX5_tells yX5_tells, Cond.code yX5_tells cX5_tells 3 none, Cond.fieldLink RX5 83 "StateEndsModel" "rowMany" "I", Cond.fieldLink RX5 46 "StateEndsModel" "rows" "[I", Cond.fieldLink RX5 34 "StateEndsModel" "numberOf" "[I", Cond.fieldLink RX5 86 "StateEndsModel" "rowsEver" "I", Cond.methodLink RX5 104 yX5_writes, Cond.instanceMethod yX5_writes, Cond.selects RX5 yX5_writes yX5_writes]
def wsX5_put_r3 : List Cond := [Cond.code yX5_writes cX5_writes 6 none, Cond.fieldLink RX5 76 "StateEndsModel" "came" "I", Cond.fieldLink RX5 43 "StateEndsModel" "cameOf" "[I", Cond.methodLink RX5 79 yX5_stamps, Cond.instanceMethod yX5_stamps, Cond.selects RX5 yX5_stamps yX5_stamps, Cond.code yX5_stamps cX5_stamps 3 none, Cond.fieldLink RX5 37 "StateEndsModel" "stampOf" "[I", Cond.fieldLink RX5 16 "StateEndsModel" "spans" "[I"]
def wsX5_put : List Cond := .code yX5_put cX5_put 7 (some .int) :: ((wsX5_put_r1 ++ (wsX5_put_r2 ++ wsX5_put_r3)) ++ wsX50)
def wsX5_read : List Cond := .code yX5_read cX5_read 2 (some .int) :: ([.fieldLink RX5 19 "StateEndsModel" "ways" "[I", .fieldLink RX5 25 "StateEndsModel" "stateOf" "[I", .fieldLink RX5 34 "StateEndsModel" "numberOf" "[I", .methodLink RX5 79 yX5_stamps, .instanceMethod yX5_stamps, .selects RX5 yX5_stamps yX5_stamps, .initialized RX5, .code yX5_stamps cX5_stamps 3 none, .fieldLink RX5 37 "StateEndsModel" "stampOf" "[I", .fieldLink RX5 22 "StateEndsModel" "now" "[I", .fieldLink RX5 13 "StateEndsModel" "clocks" "[I", .fieldLink RX5 40 "StateEndsModel" "endOf" "[I", .fieldLink RX5 16 "StateEndsModel" "spans" "[I"] ++ wsX50)
def wsX5_get_r1 : List Cond := [Cond.constant RX5 55 (-99999999), Cond.methodLink RX5 89 yX5_isForm, Cond.instanceMethod yX5_isForm, Cond.selects RX5 yX5_isForm yX5_isForm, Cond.initialized RX5, Cond.code yX5_isForm cX5_isForm 3 (some .boolean), Cond.fieldLink RX5 7 "StateEndsModel" "forms" "[I", Cond.methodLink RX5 64 yX5_isState, Cond.instanceMethod yX5_isState, Cond.selects RX5 yX5_isState yX5_isState, Cond.code yX5_isState cX5_isState 2 (some .boolean), Cond.fieldLink RX5 56 "StateEndsModel" "states" "I", Cond.methodLink RX5 60 yX5_isIn, Cond.static yX5_isIn, Cond.code yX5_isIn cX5_isIn 3 (some .boolean), Cond.methodLink RX5 93 yX5_find, Cond.instanceMethod yX5_find, Cond.selects RX5 yX5_find yX5_find, Cond.code yX5_find cX5_find 5 (some .int), Cond.fieldLink RX5 25 "StateEndsModel" "stateOf" "[I", Cond.fieldLink RX5 28 "StateEndsModel" "keyOf" "[I", Cond.fieldLink RX5 31 "StateEndsModel" "memberOf" "[I", Cond.methodLink RX5 73 yX5_isShown, Cond.instanceMethod yX5_isShown]
def wsX5_get_r2 : List Cond := [Cond.selects RX5 yX5_isShown yX5_isShown, Cond.code yX5_isShown cX5_isShown 2 (some .boolean), Cond.fieldLink RX5 40 "StateEndsModel" "endOf" "[I", Cond.methodLink RX5 69 yX5_clockOf, Cond.instanceMethod yX5_clockOf, Cond.selects RX5 yX5_clockOf yX5_clockOf, Cond.code yX5_clockOf cX5_clockOf 2 (some .int), Cond.fieldLink RX5 22 "StateEndsModel" "now" "[I", Cond.fieldLink RX5 13 "StateEndsModel" "clocks" "[I", Cond.methodLink RX5 108 yX5_read, Cond.instanceMethod yX5_read, Cond.selects RX5 yX5_read yX5_read, Cond.code yX5_read cX5_read 2 (some .int), Cond.fieldLink RX5 19 "StateEndsModel" "ways" "[I", Cond.fieldLink RX5 34 "StateEndsModel" "numberOf" "[I", Cond.methodLink RX5 79 yX5_stamps, Cond.instanceMethod yX5_stamps, Cond.selects RX5 yX5_stamps yX5_stamps, Cond.code yX5_stamps cX5_stamps 3 none, Cond.fieldLink RX5 37 "StateEndsModel" "stampOf" "[I", Cond.fieldLink RX5 16 "StateEndsModel" "spans" "[I"]
def wsX5_get : List Cond := .code yX5_get cX5_get 5 (some .int) :: ((wsX5_get_r1 ++ wsX5_get_r2) ++ wsX50)
def wsX5_remove_r1 : List Cond := [Cond.constant RX5 55 (-99999999), Cond.fieldLink RX5 25 "StateEndsModel" "stateOf" "[I", Cond.methodLink RX5 89 yX5_isForm, Cond.instanceMethod yX5_isForm, Cond.selects RX5 yX5_isForm yX5_isForm, Cond.initialized RX5, Cond.code yX5_isForm cX5_isForm 3 (some .boolean), Cond.fieldLink RX5 7 "StateEndsModel" "forms" "[I", Cond.methodLink RX5 64 yX5_isState, Cond.instanceMethod yX5_isState, Cond.selects RX5 yX5_isState yX5_isState, Cond.code yX5_isState cX5_isState 2 (some .boolean), Cond.fieldLink RX5 56 "StateEndsModel" "states" "I", Cond.methodLink RX5 60 yX5_isIn, Cond.static yX5_isIn, Cond.code yX5_isIn cX5_isIn 3 (some .boolean), Cond.methodLink RX5 93 yX5_find, Cond.instanceMethod yX5_find, Cond.selects RX5 yX5_find yX5_find, Cond.code yX5_find cX5_find 5 (some .int), Cond.fieldLink RX5 28 "StateEndsModel" "keyOf" "[I", Cond.fieldLink RX5 31 "StateEndsModel" "memberOf" "[I", Cond.methodLink RX5 73 yX5_isShown, Cond.instanceMethod yX5_isShown]
def wsX5_remove_r2 : List Cond := [Cond.selects RX5 yX5_isShown yX5_isShown, Cond.code yX5_isShown cX5_isShown 2 (some .boolean), Cond.fieldLink RX5 40 "StateEndsModel" "endOf" "[I", Cond.methodLink RX5 69 yX5_clockOf, Cond.instanceMethod yX5_clockOf, Cond.selects RX5 yX5_clockOf yX5_clockOf, Cond.code yX5_clockOf cX5_clockOf 2 (some .int), Cond.fieldLink RX5 22 "StateEndsModel" "now" "[I", Cond.fieldLink RX5 13 "StateEndsModel" "clocks" "[I"]
def wsX5_remove : List Cond := .code yX5_remove cX5_remove 6 (some .int) :: ((wsX5_remove_r1 ++ wsX5_remove_r2) ++ wsX50)
def wsX5_held : List Cond := .code yX5_held cX5_held 6 (some .int) :: ([.fieldLink RX5 25 "StateEndsModel" "stateOf" "[I", .fieldLink RX5 28 "StateEndsModel" "keyOf" "[I", .methodLink RX5 64 yX5_isState, .instanceMethod yX5_isState, .selects RX5 yX5_isState yX5_isState, .initialized RX5, .code yX5_isState cX5_isState 2 (some .boolean), .fieldLink RX5 56 "StateEndsModel" "states" "I", .methodLink RX5 60 yX5_isIn, .static yX5_isIn, .code yX5_isIn cX5_isIn 3 (some .boolean), .methodLink RX5 73 yX5_isShown, .instanceMethod yX5_isShown, .selects RX5 yX5_isShown yX5_isShown, .code yX5_isShown cX5_isShown 2 (some .boolean), .constant RX5 55 (-99999999), .fieldLink RX5 40 "StateEndsModel" "endOf" "[I", .methodLink RX5 69 yX5_clockOf, .instanceMethod yX5_clockOf, .selects RX5 yX5_clockOf yX5_clockOf, .code yX5_clockOf cX5_clockOf 2 (some .int), .fieldLink RX5 22 "StateEndsModel" "now" "[I", .fieldLink RX5 13 "StateEndsModel" "clocks" "[I"] ++ wsX50)
def wsX5_add_r1 : List Cond := [Cond.constant RX5 55 (-99999999), Cond.methodLink RX5 89 yX5_isForm, Cond.instanceMethod yX5_isForm, Cond.selects RX5 yX5_isForm yX5_isForm, Cond.initialized RX5, Cond.code yX5_isForm cX5_isForm 3 (some .boolean), Cond.fieldLink RX5 7 "StateEndsModel" "forms" "[I", Cond.methodLink RX5 64 yX5_isState, Cond.instanceMethod yX5_isState, Cond.selects RX5 yX5_isState yX5_isState, Cond.code yX5_isState cX5_isState 2 (some .boolean), Cond.fieldLink RX5 56 "StateEndsModel" "states" "I", Cond.methodLink RX5 60 yX5_isIn, Cond.static yX5_isIn, Cond.code yX5_isIn cX5_isIn 3 (some .boolean), Cond.methodLink RX5 97 yX5_free, Cond.instanceMethod yX5_free, Cond.selects RX5 yX5_free yX5_free, Cond.code yX5_free cX5_free 2 (some .int), Cond.fieldLink RX5 25 "StateEndsModel" "stateOf" "[I", Cond.methodLink RX5 104 yX5_writes, Cond.instanceMethod yX5_writes, Cond.selects RX5 yX5_writes yX5_writes, Cond.code yX5_writes cX5_writes 6 none]
def wsX5_add_r2 : List Cond := [Cond.fieldLink RX5 28 "StateEndsModel" "keyOf" "[I", Cond.fieldLink RX5 31 "StateEndsModel" "memberOf" "[I", Cond.fieldLink RX5 34 "StateEndsModel" "numberOf" "[I", Cond.fieldLink RX5 76 "StateEndsModel" "came" "I", Cond.fieldLink RX5 43 "StateEndsModel" "cameOf" "[I", Cond.methodLink RX5 79 yX5_stamps, Cond.instanceMethod yX5_stamps, Cond.selects RX5 yX5_stamps yX5_stamps, Cond.code yX5_stamps cX5_stamps 3 none, Cond.fieldLink RX5 37 "StateEndsModel" "stampOf" "[I", Cond.fieldLink RX5 22 "StateEndsModel" "now" "[I", Cond.fieldLink RX5 13 "StateEndsModel" "clocks" "[I", Cond.fieldLink RX5 40 "StateEndsModel" "endOf" "[I", Cond.fieldLink RX5 16 "StateEndsModel" "spans" "[I", Cond.methodLink RX5 111 yX5_held, Cond.instanceMethod yX5_held, Cond.selects RX5 yX5_held yX5_held, Cond.code yX5_held cX5_held 6 (some .int), Cond.methodLink RX5 73 yX5_isShown, Cond.instanceMethod yX5_isShown, Cond.selects RX5 yX5_isShown yX5_isShown, Cond.code yX5_isShown cX5_isShown 2 (some .boolean), Cond.methodLink RX5 69 yX5_clockOf, Cond.instanceMethod yX5_clockOf]
def wsX5_add_r3 : List Cond := [Cond.selects RX5 yX5_clockOf yX5_clockOf, Cond.code yX5_clockOf cX5_clockOf 2 (some .int)]
def wsX5_add : List Cond := .code yX5_add cX5_add 5 (some .int) :: ((wsX5_add_r1 ++ (wsX5_add_r2 ++ wsX5_add_r3)) ++ wsX50)
def wsX5_at_r1 : List Cond := [Cond.constant RX5 55 (-99999999), Cond.methodLink RX5 89 yX5_isForm, Cond.instanceMethod yX5_isForm, Cond.selects RX5 yX5_isForm yX5_isForm, Cond.initialized RX5, Cond.code yX5_isForm cX5_isForm 3 (some .boolean), Cond.fieldLink RX5 7 "StateEndsModel" "forms" "[I", Cond.methodLink RX5 64 yX5_isState, Cond.instanceMethod yX5_isState, Cond.selects RX5 yX5_isState yX5_isState, Cond.code yX5_isState cX5_isState 2 (some .boolean), Cond.fieldLink RX5 56 "StateEndsModel" "states" "I", Cond.methodLink RX5 60 yX5_isIn, Cond.static yX5_isIn, Cond.code yX5_isIn cX5_isIn 3 (some .boolean), Cond.methodLink RX5 115 yX5_findIn, Cond.instanceMethod yX5_findIn, Cond.selects RX5 yX5_findIn yX5_findIn, Cond.code yX5_findIn cX5_findIn 10 (some .int), Cond.fieldLink RX5 25 "StateEndsModel" "stateOf" "[I", Cond.fieldLink RX5 28 "StateEndsModel" "keyOf" "[I", Cond.fieldLink RX5 43 "StateEndsModel" "cameOf" "[I", Cond.methodLink RX5 73 yX5_isShown, Cond.instanceMethod yX5_isShown]
def wsX5_at_r2 : List Cond := [Cond.selects RX5 yX5_isShown yX5_isShown, Cond.code yX5_isShown cX5_isShown 2 (some .boolean), Cond.fieldLink RX5 40 "StateEndsModel" "endOf" "[I", Cond.methodLink RX5 69 yX5_clockOf, Cond.instanceMethod yX5_clockOf, Cond.selects RX5 yX5_clockOf yX5_clockOf, Cond.code yX5_clockOf cX5_clockOf 2 (some .int), Cond.fieldLink RX5 22 "StateEndsModel" "now" "[I", Cond.fieldLink RX5 13 "StateEndsModel" "clocks" "[I", Cond.methodLink RX5 108 yX5_read, Cond.instanceMethod yX5_read, Cond.selects RX5 yX5_read yX5_read, Cond.code yX5_read cX5_read 2 (some .int), Cond.fieldLink RX5 19 "StateEndsModel" "ways" "[I", Cond.fieldLink RX5 34 "StateEndsModel" "numberOf" "[I", Cond.methodLink RX5 79 yX5_stamps, Cond.instanceMethod yX5_stamps, Cond.selects RX5 yX5_stamps yX5_stamps, Cond.code yX5_stamps cX5_stamps 3 none, Cond.fieldLink RX5 37 "StateEndsModel" "stampOf" "[I", Cond.fieldLink RX5 16 "StateEndsModel" "spans" "[I"]
def wsX5_at : List Cond := .code yX5_at cX5_at 5 (some .int) :: ((wsX5_at_r1 ++ wsX5_at_r2) ++ wsX50)
def wsX5_clear : List Cond := .code yX5_clear cX5_clear 5 (some .int) :: ([.fieldLink RX5 25 "StateEndsModel" "stateOf" "[I", .fieldLink RX5 28 "StateEndsModel" "keyOf" "[I", .constant RX5 55 (-99999999), .methodLink RX5 64 yX5_isState, .instanceMethod yX5_isState, .selects RX5 yX5_isState yX5_isState, .initialized RX5, .code yX5_isState cX5_isState 2 (some .boolean), .fieldLink RX5 56 "StateEndsModel" "states" "I", .methodLink RX5 60 yX5_isIn, .static yX5_isIn, .code yX5_isIn cX5_isIn 3 (some .boolean), .methodLink RX5 73 yX5_isShown, .instanceMethod yX5_isShown, .selects RX5 yX5_isShown yX5_isShown, .code yX5_isShown cX5_isShown 2 (some .boolean), .fieldLink RX5 40 "StateEndsModel" "endOf" "[I", .methodLink RX5 69 yX5_clockOf, .instanceMethod yX5_clockOf, .selects RX5 yX5_clockOf yX5_clockOf, .code yX5_clockOf cX5_clockOf 2 (some .int), .fieldLink RX5 22 "StateEndsModel" "now" "[I", .fieldLink RX5 13 "StateEndsModel" "clocks" "[I"] ++ wsX50)
def wsX5_isAsked : List Cond := .code yX5_isAsked cX5_isAsked 4 (some .boolean) :: ([.fieldLink RX5 7 "StateEndsModel" "forms" "[I", .methodLink RX5 64 yX5_isState, .instanceMethod yX5_isState, .selects RX5 yX5_isState yX5_isState, .initialized RX5, .code yX5_isState cX5_isState 2 (some .boolean), .fieldLink RX5 56 "StateEndsModel" "states" "I", .methodLink RX5 60 yX5_isIn, .static yX5_isIn, .code yX5_isIn cX5_isIn 3 (some .boolean)] ++ wsX50)
def wsX5_asked_r1 : List Cond := [Cond.fieldLink RX5 7 "StateEndsModel" "forms" "[I", Cond.constant RX5 55 (-99999999), Cond.methodLink RX5 93 yX5_find, Cond.instanceMethod yX5_find, Cond.selects RX5 yX5_find yX5_find, Cond.initialized RX5, Cond.code yX5_find cX5_find 5 (some .int), Cond.fieldLink RX5 25 "StateEndsModel" "stateOf" "[I", Cond.fieldLink RX5 28 "StateEndsModel" "keyOf" "[I", Cond.fieldLink RX5 31 "StateEndsModel" "memberOf" "[I", Cond.methodLink RX5 115 yX5_findIn, Cond.instanceMethod yX5_findIn, Cond.selects RX5 yX5_findIn yX5_findIn, Cond.code yX5_findIn cX5_findIn 10 (some .int), Cond.fieldLink RX5 43 "StateEndsModel" "cameOf" "[I", Cond.methodLink RX5 73 yX5_isShown, Cond.instanceMethod yX5_isShown, Cond.selects RX5 yX5_isShown yX5_isShown, Cond.code yX5_isShown cX5_isShown 2 (some .boolean), Cond.fieldLink RX5 40 "StateEndsModel" "endOf" "[I", Cond.methodLink RX5 69 yX5_clockOf, Cond.instanceMethod yX5_clockOf, Cond.selects RX5 yX5_clockOf yX5_clockOf, Cond.code yX5_clockOf cX5_clockOf 2 (some .int)]
def wsX5_asked_r2 : List Cond := [Cond.fieldLink RX5 22 "StateEndsModel" "now" "[I", Cond.fieldLink RX5 13 "StateEndsModel" "clocks" "[I"]
def wsX5_asked : List Cond := .code yX5_asked cX5_asked 5 (some .int) :: ((wsX5_asked_r1 ++ wsX5_asked_r2) ++ wsX50)
def wsX5_left_r1 : List Cond := [Cond.constant RX5 55 (-99999999), Cond.fieldLink RX5 40 "StateEndsModel" "endOf" "[I", Cond.methodLink RX5 119 yX5_isAsked, Cond.instanceMethod yX5_isAsked, Cond.selects RX5 yX5_isAsked yX5_isAsked, Cond.initialized RX5, Cond.code yX5_isAsked cX5_isAsked 4 (some .boolean), Cond.fieldLink RX5 7 "StateEndsModel" "forms" "[I", Cond.methodLink RX5 64 yX5_isState, Cond.instanceMethod yX5_isState, Cond.selects RX5 yX5_isState yX5_isState, Cond.code yX5_isState cX5_isState 2 (some .boolean), Cond.fieldLink RX5 56 "StateEndsModel" "states" "I", Cond.methodLink RX5 60 yX5_isIn, Cond.static yX5_isIn, Cond.code yX5_isIn cX5_isIn 3 (some .boolean), Cond.methodLink RX5 122 yX5_asked, Cond.instanceMethod yX5_asked, Cond.selects RX5 yX5_asked yX5_asked, Cond.code yX5_asked cX5_asked 5 (some .int), Cond.methodLink RX5 93 yX5_find, Cond.instanceMethod yX5_find, Cond.selects RX5 yX5_find yX5_find, Cond.code yX5_find cX5_find 5 (some .int)]
def wsX5_left_r2 : List Cond := [Cond.fieldLink RX5 25 "StateEndsModel" "stateOf" "[I", Cond.fieldLink RX5 28 "StateEndsModel" "keyOf" "[I", Cond.fieldLink RX5 31 "StateEndsModel" "memberOf" "[I", Cond.methodLink RX5 115 yX5_findIn, Cond.instanceMethod yX5_findIn, Cond.selects RX5 yX5_findIn yX5_findIn, Cond.code yX5_findIn cX5_findIn 10 (some .int), Cond.fieldLink RX5 43 "StateEndsModel" "cameOf" "[I", Cond.methodLink RX5 73 yX5_isShown, Cond.instanceMethod yX5_isShown, Cond.selects RX5 yX5_isShown yX5_isShown, Cond.code yX5_isShown cX5_isShown 2 (some .boolean), Cond.methodLink RX5 69 yX5_clockOf, Cond.instanceMethod yX5_clockOf, Cond.selects RX5 yX5_clockOf yX5_clockOf, Cond.code yX5_clockOf cX5_clockOf 2 (some .int), Cond.fieldLink RX5 22 "StateEndsModel" "now" "[I", Cond.fieldLink RX5 13 "StateEndsModel" "clocks" "[I"]
def wsX5_left : List Cond := .code yX5_left cX5_left 5 (some .int) :: ((wsX5_left_r1 ++ wsX5_left_r2) ++ wsX50)
def wsX5_place_r1 : List Cond := [Cond.methodLink RX5 119 yX5_isAsked, Cond.instanceMethod yX5_isAsked, Cond.selects RX5 yX5_isAsked yX5_isAsked, Cond.initialized RX5, Cond.code yX5_isAsked cX5_isAsked 4 (some .boolean), Cond.fieldLink RX5 7 "StateEndsModel" "forms" "[I", Cond.methodLink RX5 64 yX5_isState, Cond.instanceMethod yX5_isState, Cond.selects RX5 yX5_isState yX5_isState, Cond.code yX5_isState cX5_isState 2 (some .boolean), Cond.fieldLink RX5 56 "StateEndsModel" "states" "I", Cond.methodLink RX5 60 yX5_isIn, Cond.static yX5_isIn, Cond.code yX5_isIn cX5_isIn 3 (some .boolean), Cond.methodLink RX5 122 yX5_asked, Cond.instanceMethod yX5_asked, Cond.selects RX5 yX5_asked yX5_asked, Cond.code yX5_asked cX5_asked 5 (some .int), Cond.constant RX5 55 (-99999999), Cond.methodLink RX5 93 yX5_find, Cond.instanceMethod yX5_find, Cond.selects RX5 yX5_find yX5_find, Cond.code yX5_find cX5_find 5 (some .int), Cond.fieldLink RX5 25 "StateEndsModel" "stateOf" "[I"]
def wsX5_place_r2 : List Cond := [Cond.fieldLink RX5 28 "StateEndsModel" "keyOf" "[I", Cond.fieldLink RX5 31 "StateEndsModel" "memberOf" "[I", Cond.methodLink RX5 115 yX5_findIn, Cond.instanceMethod yX5_findIn, Cond.selects RX5 yX5_findIn yX5_findIn, Cond.code yX5_findIn cX5_findIn 10 (some .int), Cond.fieldLink RX5 43 "StateEndsModel" "cameOf" "[I", Cond.methodLink RX5 73 yX5_isShown, Cond.instanceMethod yX5_isShown, Cond.selects RX5 yX5_isShown yX5_isShown, Cond.code yX5_isShown cX5_isShown 2 (some .boolean), Cond.fieldLink RX5 40 "StateEndsModel" "endOf" "[I", Cond.methodLink RX5 69 yX5_clockOf, Cond.instanceMethod yX5_clockOf, Cond.selects RX5 yX5_clockOf yX5_clockOf, Cond.code yX5_clockOf cX5_clockOf 2 (some .int), Cond.fieldLink RX5 22 "StateEndsModel" "now" "[I", Cond.fieldLink RX5 13 "StateEndsModel" "clocks" "[I"]
def wsX5_place : List Cond := .code yX5_place cX5_place 4 (some .int) :: ((wsX5_place_r1 ++ wsX5_place_r2) ++ wsX50)
def wsX5_overs : List Cond := .code yX5_overs cX5_overs 3 (some .int) :: ([.methodLink RX5 128 yX5_isOver, .instanceMethod yX5_isOver, .selects RX5 yX5_isOver yX5_isOver, .initialized RX5, .code yX5_isOver cX5_isOver 2 (some .boolean), .fieldLink RX5 25 "StateEndsModel" "stateOf" "[I", .constant RX5 55 (-99999999), .fieldLink RX5 40 "StateEndsModel" "endOf" "[I", .methodLink RX5 69 yX5_clockOf, .instanceMethod yX5_clockOf, .selects RX5 yX5_clockOf yX5_clockOf, .code yX5_clockOf cX5_clockOf 2 (some .int), .fieldLink RX5 22 "StateEndsModel" "now" "[I", .fieldLink RX5 13 "StateEndsModel" "clocks" "[I"] ++ wsX50)
def wsX5_comes : List Cond := .code yX5_comes cX5_comes 4 (some .int) :: ([.fieldLink RX5 22 "StateEndsModel" "now" "[I", .methodLink RX5 125 yX5_overs, .instanceMethod yX5_overs, .selects RX5 yX5_overs yX5_overs, .initialized RX5, .code yX5_overs cX5_overs 3 (some .int), .methodLink RX5 128 yX5_isOver, .instanceMethod yX5_isOver, .selects RX5 yX5_isOver yX5_isOver, .code yX5_isOver cX5_isOver 2 (some .boolean), .fieldLink RX5 25 "StateEndsModel" "stateOf" "[I", .constant RX5 55 (-99999999), .fieldLink RX5 40 "StateEndsModel" "endOf" "[I", .methodLink RX5 69 yX5_clockOf, .instanceMethod yX5_clockOf, .selects RX5 yX5_clockOf yX5_clockOf, .code yX5_clockOf cX5_clockOf 2 (some .int), .fieldLink RX5 13 "StateEndsModel" "clocks" "[I"] ++ wsX50)
def wsX5_tick_r1 : List Cond := [Cond.constant RX5 68 (100000), Cond.fieldLink RX5 22 "StateEndsModel" "now" "[I", Cond.constant RX5 131 (1000000000), Cond.methodLink RX5 60 yX5_isIn, Cond.static yX5_isIn, Cond.initialized RX5, Cond.code yX5_isIn cX5_isIn 3 (some .boolean), Cond.methodLink RX5 132 yX5_comes, Cond.instanceMethod yX5_comes, Cond.selects RX5 yX5_comes yX5_comes, Cond.code yX5_comes cX5_comes 4 (some .int), Cond.methodLink RX5 125 yX5_overs, Cond.instanceMethod yX5_overs, Cond.selects RX5 yX5_overs yX5_overs, Cond.code yX5_overs cX5_overs 3 (some .int), Cond.methodLink RX5 128 yX5_isOver, Cond.instanceMethod yX5_isOver, Cond.selects RX5 yX5_isOver yX5_isOver, Cond.code yX5_isOver cX5_isOver 2 (some .boolean), Cond.fieldLink RX5 25 "StateEndsModel" "stateOf" "[I", Cond.constant RX5 55 (-99999999), Cond.fieldLink RX5 40 "StateEndsModel" "endOf" "[I", Cond.methodLink RX5 69 yX5_clockOf, Cond.instanceMethod yX5_clockOf]
def wsX5_tick_r2 : List Cond := [Cond.selects RX5 yX5_clockOf yX5_clockOf, Cond.code yX5_clockOf cX5_clockOf 2 (some .int), Cond.fieldLink RX5 13 "StateEndsModel" "clocks" "[I"]
def wsX5_tick : List Cond := .code yX5_tick cX5_tick 2 (some .int) :: ((wsX5_tick_r1 ++ wsX5_tick_r2) ++ wsX50)
def wsX5_watermark_r1 : List Cond := [Cond.constant RX5 131 (1000000000), Cond.fieldLink RX5 22 "StateEndsModel" "now" "[I", Cond.methodLink RX5 60 yX5_isIn, Cond.static yX5_isIn, Cond.initialized RX5, Cond.code yX5_isIn cX5_isIn 3 (some .boolean), Cond.methodLink RX5 132 yX5_comes, Cond.instanceMethod yX5_comes, Cond.selects RX5 yX5_comes yX5_comes, Cond.code yX5_comes cX5_comes 4 (some .int), Cond.methodLink RX5 125 yX5_overs, Cond.instanceMethod yX5_overs, Cond.selects RX5 yX5_overs yX5_overs, Cond.code yX5_overs cX5_overs 3 (some .int), Cond.methodLink RX5 128 yX5_isOver, Cond.instanceMethod yX5_isOver, Cond.selects RX5 yX5_isOver yX5_isOver, Cond.code yX5_isOver cX5_isOver 2 (some .boolean), Cond.fieldLink RX5 25 "StateEndsModel" "stateOf" "[I", Cond.constant RX5 55 (-99999999), Cond.fieldLink RX5 40 "StateEndsModel" "endOf" "[I", Cond.methodLink RX5 69 yX5_clockOf, Cond.instanceMethod yX5_clockOf, Cond.selects RX5 yX5_clockOf yX5_clockOf]
def wsX5_watermark_r2 : List Cond := [Cond.code yX5_clockOf cX5_clockOf 2 (some .int), Cond.fieldLink RX5 13 "StateEndsModel" "clocks" "[I"]
def wsX5_watermark : List Cond := .code yX5_watermark cX5_watermark 2 (some .int) :: ((wsX5_watermark_r1 ++ wsX5_watermark_r2) ++ wsX50)
def wsX5_sweep_r1 : List Cond := [Cond.fieldLink RX5 136 "StateEndsModel" "sweepAt" "I", Cond.fieldLink RX5 25 "StateEndsModel" "stateOf" "[I", Cond.constant RX5 55 (-99999999), Cond.methodLink RX5 60 yX5_isIn, Cond.static yX5_isIn, Cond.initialized RX5, Cond.code yX5_isIn cX5_isIn 3 (some .boolean), Cond.methodLink RX5 128 yX5_isOver, Cond.instanceMethod yX5_isOver, Cond.selects RX5 yX5_isOver yX5_isOver, Cond.code yX5_isOver cX5_isOver 2 (some .boolean), Cond.fieldLink RX5 40 "StateEndsModel" "endOf" "[I", Cond.methodLink RX5 69 yX5_clockOf, Cond.instanceMethod yX5_clockOf, Cond.selects RX5 yX5_clockOf yX5_clockOf, Cond.code yX5_clockOf cX5_clockOf 2 (some .int), Cond.fieldLink RX5 22 "StateEndsModel" "now" "[I", Cond.fieldLink RX5 13 "StateEndsModel" "clocks" "[I", Cond.methodLink RX5 101 yX5_tells, Cond.instanceMethod yX5_tells, Cond.selects RX5 yX5_tells yX5_tells, Cond.code yX5_tells cX5_tells 3 none, Cond.fieldLink RX5 83 "StateEndsModel" "rowMany" "I", Cond.fieldLink RX5 46 "StateEndsModel" "rows" "[I"]
def wsX5_sweep_r2 : List Cond := [Cond.fieldLink RX5 28 "StateEndsModel" "keyOf" "[I", Cond.fieldLink RX5 31 "StateEndsModel" "memberOf" "[I", Cond.fieldLink RX5 34 "StateEndsModel" "numberOf" "[I", Cond.fieldLink RX5 86 "StateEndsModel" "rowsEver" "I"]
def wsX5_sweep : List Cond := .code yX5_sweep cX5_sweep 4 (some .int) :: ((wsX5_sweep_r1 ++ wsX5_sweep_r2) ++ wsX50)
def wsX5_setting_r1 : List Cond := [Cond.constant RX5 68 (100000), Cond.fieldLink RX5 16 "StateEndsModel" "spans" "[I", Cond.fieldLink RX5 25 "StateEndsModel" "stateOf" "[I", Cond.fieldLink RX5 40 "StateEndsModel" "endOf" "[I", Cond.fieldLink RX5 37 "StateEndsModel" "stampOf" "[I", Cond.methodLink RX5 64 yX5_isState, Cond.instanceMethod yX5_isState, Cond.selects RX5 yX5_isState yX5_isState, Cond.initialized RX5, Cond.code yX5_isState cX5_isState 2 (some .boolean), Cond.fieldLink RX5 56 "StateEndsModel" "states" "I", Cond.methodLink RX5 60 yX5_isIn, Cond.static yX5_isIn, Cond.code yX5_isIn cX5_isIn 3 (some .boolean), Cond.methodLink RX5 73 yX5_isShown, Cond.instanceMethod yX5_isShown, Cond.selects RX5 yX5_isShown yX5_isShown, Cond.code yX5_isShown cX5_isShown 2 (some .boolean), Cond.constant RX5 55 (-99999999), Cond.methodLink RX5 69 yX5_clockOf, Cond.instanceMethod yX5_clockOf, Cond.selects RX5 yX5_clockOf yX5_clockOf, Cond.code yX5_clockOf cX5_clockOf 2 (some .int), Cond.fieldLink RX5 22 "StateEndsModel" "now" "[I"]
def wsX5_setting_r2 : List Cond := [Cond.fieldLink RX5 13 "StateEndsModel" "clocks" "[I"]
def wsX5_setting : List Cond := .code yX5_setting cX5_setting 6 (some .int) :: ((wsX5_setting_r1 ++ wsX5_setting_r2) ++ wsX50)
def wsX5_isAhead : List Cond := .code yX5_isAhead cX5_isAhead 3 (some .boolean) :: ([.fieldLink RX5 25 "StateEndsModel" "stateOf" "[I", .fieldLink RX5 28 "StateEndsModel" "keyOf" "[I", .fieldLink RX5 31 "StateEndsModel" "memberOf" "[I", .fieldLink RX5 43 "StateEndsModel" "cameOf" "[I"] ++ wsX50)
def wsX5_nextKept : List Cond := .code yX5_nextKept cX5_nextKept 4 (some .int) :: ([.constant RX5 55 (-99999999), .methodLink RX5 73 yX5_isShown, .instanceMethod yX5_isShown, .selects RX5 yX5_isShown yX5_isShown, .initialized RX5, .code yX5_isShown cX5_isShown 2 (some .boolean), .fieldLink RX5 25 "StateEndsModel" "stateOf" "[I", .fieldLink RX5 40 "StateEndsModel" "endOf" "[I", .methodLink RX5 69 yX5_clockOf, .instanceMethod yX5_clockOf, .selects RX5 yX5_clockOf yX5_clockOf, .code yX5_clockOf cX5_clockOf 2 (some .int), .fieldLink RX5 22 "StateEndsModel" "now" "[I", .fieldLink RX5 13 "StateEndsModel" "clocks" "[I", .methodLink RX5 142 yX5_isAhead, .instanceMethod yX5_isAhead, .selects RX5 yX5_isAhead yX5_isAhead, .code yX5_isAhead cX5_isAhead 3 (some .boolean), .fieldLink RX5 28 "StateEndsModel" "keyOf" "[I", .fieldLink RX5 31 "StateEndsModel" "memberOf" "[I", .fieldLink RX5 43 "StateEndsModel" "cameOf" "[I"] ++ wsX50)
def wsX5_mark_r1 : List Cond := [Cond.constant RX5 55 (-99999999), Cond.fieldLink RX5 52 "StateEndsModel" "marks" "[I", Cond.fieldLink RX5 25 "StateEndsModel" "stateOf" "[I", Cond.fieldLink RX5 28 "StateEndsModel" "keyOf" "[I", Cond.fieldLink RX5 31 "StateEndsModel" "memberOf" "[I", Cond.fieldLink RX5 34 "StateEndsModel" "numberOf" "[I", Cond.fieldLink RX5 40 "StateEndsModel" "endOf" "[I", Cond.fieldLink RX5 49 "StateEndsModel" "markMany" "[I", Cond.methodLink RX5 60 yX5_isIn, Cond.static yX5_isIn, Cond.initialized RX5, Cond.code yX5_isIn cX5_isIn 3 (some .boolean), Cond.methodLink RX5 139 yX5_nextKept, Cond.instanceMethod yX5_nextKept, Cond.selects RX5 yX5_nextKept yX5_nextKept, Cond.code yX5_nextKept cX5_nextKept 4 (some .int), Cond.methodLink RX5 73 yX5_isShown, Cond.instanceMethod yX5_isShown, Cond.selects RX5 yX5_isShown yX5_isShown, Cond.code yX5_isShown cX5_isShown 2 (some .boolean), Cond.methodLink RX5 69 yX5_clockOf, Cond.instanceMethod yX5_clockOf, Cond.selects RX5 yX5_clockOf yX5_clockOf, Cond.code yX5_clockOf cX5_clockOf 2 (some .int)]
def wsX5_mark_r2 : List Cond := [Cond.fieldLink RX5 22 "StateEndsModel" "now" "[I", Cond.fieldLink RX5 13 "StateEndsModel" "clocks" "[I", Cond.methodLink RX5 142 yX5_isAhead, Cond.instanceMethod yX5_isAhead, Cond.selects RX5 yX5_isAhead yX5_isAhead, Cond.code yX5_isAhead cX5_isAhead 3 (some .boolean), Cond.fieldLink RX5 43 "StateEndsModel" "cameOf" "[I"]
def wsX5_mark : List Cond := .code yX5_mark cX5_mark 5 (some .int) :: ((wsX5_mark_r1 ++ wsX5_mark_r2) ++ wsX50)
def wsX5_restore_r1 : List Cond := [Cond.fieldLink RX5 49 "StateEndsModel" "markMany" "[I", Cond.constant RX5 55 (-99999999), Cond.fieldLink RX5 25 "StateEndsModel" "stateOf" "[I", Cond.fieldLink RX5 52 "StateEndsModel" "marks" "[I", Cond.fieldLink RX5 40 "StateEndsModel" "endOf" "[I", Cond.fieldLink RX5 37 "StateEndsModel" "stampOf" "[I", Cond.fieldLink RX5 136 "StateEndsModel" "sweepAt" "I", Cond.methodLink RX5 60 yX5_isIn, Cond.static yX5_isIn, Cond.initialized RX5, Cond.code yX5_isIn cX5_isIn 3 (some .boolean), Cond.methodLink RX5 104 yX5_writes, Cond.instanceMethod yX5_writes, Cond.selects RX5 yX5_writes yX5_writes, Cond.code yX5_writes cX5_writes 6 none, Cond.fieldLink RX5 28 "StateEndsModel" "keyOf" "[I", Cond.fieldLink RX5 31 "StateEndsModel" "memberOf" "[I", Cond.fieldLink RX5 34 "StateEndsModel" "numberOf" "[I", Cond.fieldLink RX5 76 "StateEndsModel" "came" "I", Cond.fieldLink RX5 43 "StateEndsModel" "cameOf" "[I", Cond.methodLink RX5 79 yX5_stamps, Cond.instanceMethod yX5_stamps, Cond.selects RX5 yX5_stamps yX5_stamps, Cond.code yX5_stamps cX5_stamps 3 none]
def wsX5_restore_r2 : List Cond := [Cond.fieldLink RX5 22 "StateEndsModel" "now" "[I", Cond.fieldLink RX5 13 "StateEndsModel" "clocks" "[I", Cond.fieldLink RX5 16 "StateEndsModel" "spans" "[I"]
def wsX5_restore : List Cond := .code yX5_restore cX5_restore 4 (some .int) :: ((wsX5_restore_r1 ++ wsX5_restore_r2) ++ wsX50)
def wsX5_row : List Cond := .code yX5_row cX5_row 3 (some .int) :: ([.fieldLink RX5 83 "StateEndsModel" "rowMany" "I", .fieldLink RX5 46 "StateEndsModel" "rows" "[I", .constant RX5 55 (-99999999), .methodLink RX5 60 yX5_isIn, .static yX5_isIn, .initialized RX5, .code yX5_isIn cX5_isIn 3 (some .boolean)] ++ wsX50)
def wsX5_next : List Cond := .code yX5_next cX5_next 4 (some .int) :: ([.constant RX5 55 (-99999999), .fieldLink RX5 25 "StateEndsModel" "stateOf" "[I", .fieldLink RX5 40 "StateEndsModel" "endOf" "[I", .methodLink RX5 64 yX5_isState, .instanceMethod yX5_isState, .selects RX5 yX5_isState yX5_isState, .initialized RX5, .code yX5_isState cX5_isState 2 (some .boolean), .fieldLink RX5 56 "StateEndsModel" "states" "I", .methodLink RX5 60 yX5_isIn, .static yX5_isIn, .code yX5_isIn cX5_isIn 3 (some .boolean), .methodLink RX5 73 yX5_isShown, .instanceMethod yX5_isShown, .selects RX5 yX5_isShown yX5_isShown, .code yX5_isShown cX5_isShown 2 (some .boolean), .methodLink RX5 69 yX5_clockOf, .instanceMethod yX5_clockOf, .selects RX5 yX5_clockOf yX5_clockOf, .code yX5_clockOf cX5_clockOf 2 (some .int), .fieldLink RX5 22 "StateEndsModel" "now" "[I", .fieldLink RX5 13 "StateEndsModel" "clocks" "[I"] ++ wsX50)
def wsX5_count : List Cond := .code yX5_count cX5_count 5 (some .int) :: ([.fieldLink RX5 25 "StateEndsModel" "stateOf" "[I", .constant RX5 55 (-99999999), .fieldLink RX5 56 "StateEndsModel" "states" "I", .fieldLink RX5 83 "StateEndsModel" "rowMany" "I", .fieldLink RX5 86 "StateEndsModel" "rowsEver" "I", .fieldLink RX5 22 "StateEndsModel" "now" "[I", .fieldLink RX5 136 "StateEndsModel" "sweepAt" "I", .methodLink RX5 73 yX5_isShown, .instanceMethod yX5_isShown, .selects RX5 yX5_isShown yX5_isShown, .initialized RX5, .code yX5_isShown cX5_isShown 2 (some .boolean), .fieldLink RX5 40 "StateEndsModel" "endOf" "[I", .methodLink RX5 69 yX5_clockOf, .instanceMethod yX5_clockOf, .selects RX5 yX5_clockOf yX5_clockOf, .code yX5_clockOf cX5_clockOf 2 (some .int), .fieldLink RX5 13 "StateEndsModel" "clocks" "[I"] ++ wsX50)
def wsL_law_r1 : List Cond := [Cond.classLink RL 7 RX4, Cond.instantiable RX4 5, Cond.initialized RX4, Cond.classLink RL 10 RX5, Cond.instantiable RX5 20, Cond.initialized RX5, Cond.methodLink RL 9 yX4_init, Cond.instanceMethod yX4_init, Cond.code yX4_init cX4_init 1 none, Cond.methodLink RX4 3 objectInit, Cond.instanceMethod objectInit, Cond.code objectInit ⟨#[0xb1]⟩ 1 none, Cond.classLink RX4 9 RX3, Cond.instantiable RX3 6, Cond.initialized RX3, Cond.fieldLink RX4 12 "StateEnds" "states" "LStateEnds$States;", Cond.classLink RX4 16 RX1, Cond.instantiable RX1 6, Cond.initialized RX1, Cond.fieldLink RX4 19 "StateEnds" "places" "LStateEnds$Places;", Cond.classLink RX4 23 RX2, Cond.instantiable RX2 4, Cond.initialized RX2, Cond.fieldLink RX4 26 "StateEnds" "rows" "LStateEnds$Rows;"]
def wsL_law_r2 : List Cond := [Cond.classLink RX4 30 RX0, Cond.instantiable RX0 4, Cond.initialized RX0, Cond.fieldLink RX4 33 "StateEnds" "marks" "LStateEnds$Marks;", Cond.fieldLink RX4 37 "StateEnds" "sweepFrom" "I", Cond.instanceMethod yX3_init, Cond.code yX3_init cX3_init 1 none, Cond.methodLink RX3 3 objectInit, Cond.arrayClass .int, Cond.fieldLink RX3 9 "StateEnds$States" "forms" "[I", Cond.fieldLink RX3 15 "StateEnds$States" "clocks" "[I", Cond.fieldLink RX3 18 "StateEnds$States" "spans" "[I", Cond.fieldLink RX3 21 "StateEnds$States" "ways" "[I", Cond.fieldLink RX3 24 "StateEnds$States" "times" "[I", Cond.fieldLink RX3 27 "StateEnds$States" "made" "I", Cond.methodLink RX4 18 yX1_init, Cond.instanceMethod yX1_init, Cond.code yX1_init cX1_init 1 none, Cond.methodLink RX1 3 objectInit, Cond.fieldLink RX1 9 "StateEnds$Places" "slots" "[I", Cond.fieldLink RX1 15 "StateEnds$Places" "numbers" "[I", Cond.fieldLink RX1 18 "StateEnds$Places" "stamps" "[I", Cond.fieldLink RX1 21 "StateEnds$Places" "ends" "[I", Cond.fieldLink RX1 24 "StateEnds$Places" "line" "[I"]
def wsL_law_r3 : List Cond := [Cond.fieldLink RX1 27 "StateEnds$Places" "taken" "I", Cond.methodLink RX1 31 yJ7_fill_53178, Cond.static yJ7_fill_53178, Cond.initialized RJ7, Cond.code yJ7_fill_53178 cJ7_fill_53178 4 none, Cond.instanceMethod yX2_init, Cond.code yX2_init cX2_init 1 none, Cond.methodLink RX2 3 objectInit, Cond.fieldLink RX2 9 "StateEnds$Rows" "cells" "[I", Cond.fieldLink RX2 15 "StateEnds$Rows" "first" "I", Cond.fieldLink RX2 19 "StateEnds$Rows" "kept" "I", Cond.fieldLink RX2 22 "StateEnds$Rows" "ever" "I", Cond.methodLink RX4 32 yX0_init, Cond.instanceMethod yX0_init, Cond.code yX0_init cX0_init 1 none, Cond.methodLink RX0 3 objectInit, Cond.fieldLink RX0 9 "StateEnds$Marks" "slots" "[I", Cond.fieldLink RX0 15 "StateEnds$Marks" "numbers" "[I", Cond.fieldLink RX0 18 "StateEnds$Marks" "lefts" "[I", Cond.fieldLink RX0 21 "StateEnds$Marks" "sizes" "[I", Cond.methodLink RX0 24 yJ7_fill_53178, Cond.methodLink RL 12 yX5_init, Cond.instanceMethod yX5_init, Cond.code yX5_init cX5_init 2 none]
def wsL_law_r4 : List Cond := [Cond.methodLink RX5 1 objectInit, Cond.fieldLink RX5 7 "StateEndsModel" "forms" "[I", Cond.fieldLink RX5 13 "StateEndsModel" "clocks" "[I", Cond.fieldLink RX5 16 "StateEndsModel" "spans" "[I", Cond.fieldLink RX5 19 "StateEndsModel" "ways" "[I", Cond.fieldLink RX5 22 "StateEndsModel" "now" "[I", Cond.fieldLink RX5 25 "StateEndsModel" "stateOf" "[I", Cond.fieldLink RX5 28 "StateEndsModel" "keyOf" "[I", Cond.fieldLink RX5 31 "StateEndsModel" "memberOf" "[I", Cond.fieldLink RX5 34 "StateEndsModel" "numberOf" "[I", Cond.fieldLink RX5 37 "StateEndsModel" "stampOf" "[I", Cond.fieldLink RX5 40 "StateEndsModel" "endOf" "[I", Cond.fieldLink RX5 43 "StateEndsModel" "cameOf" "[I", Cond.fieldLink RX5 46 "StateEndsModel" "rows" "[I", Cond.fieldLink RX5 49 "StateEndsModel" "markMany" "[I", Cond.fieldLink RX5 52 "StateEndsModel" "marks" "[I", Cond.constant RX5 55 (-99999999), Cond.methodLink RL 13 yX4_state, Cond.instanceMethod yX4_state, Cond.selects RX4 yX4_state yX4_state, Cond.code yX4_state cX4_state 5 (some .int), Cond.fieldLink RX4 48 "StateEnds$States" "made" "I", Cond.methodLink RX4 41 yX4_isZeroOrOne, Cond.static yX4_isZeroOrOne]
def wsL_law_r5 : List Cond := [Cond.code yX4_isZeroOrOne cX4_isZeroOrOne 1 (some .boolean), Cond.methodLink RX4 45 yX4_isSpan, Cond.static yX4_isSpan, Cond.code yX4_isSpan cX4_isSpan 1 (some .boolean), Cond.constant RX4 118 (100000), Cond.methodLink RX4 51 yX3_make, Cond.instanceMethod yX3_make, Cond.selects RX3 yX3_make yX3_make, Cond.code yX3_make cX3_make 6 (some .int), Cond.methodLink RL 17 yX5_state, Cond.instanceMethod yX5_state, Cond.selects RX5 yX5_state yX5_state, Cond.code yX5_state cX5_state 5 (some .int), Cond.constant RX5 68 (100000), Cond.fieldLink RX5 56 "StateEndsModel" "states" "I", Cond.methodLink RX5 60 yX5_isIn, Cond.static yX5_isIn, Cond.code yX5_isIn cX5_isIn 3 (some .boolean), Cond.methodLink RL 18 yX4_put, Cond.instanceMethod yX4_put, Cond.selects RX4 yX4_put yX4_put, Cond.code yX4_put cX4_put 8 (some .int), Cond.methodLink RX4 55 yX4_isNumberFor, Cond.instanceMethod yX4_isNumberFor]
def wsL_law_r6 : List Cond := [Cond.selects RX4 yX4_isNumberFor yX4_isNumberFor, Cond.code yX4_isNumberFor cX4_isNumberFor 4 (some .boolean), Cond.methodLink RX4 95 yX4_isStateAndKey, Cond.instanceMethod yX4_isStateAndKey, Cond.selects RX4 yX4_isStateAndKey yX4_isStateAndKey, Cond.code yX4_isStateAndKey cX4_isStateAndKey 3 (some .boolean), Cond.methodLink RX4 127 yX3_has, Cond.instanceMethod yX3_has, Cond.selects RX3 yX3_has yX3_has, Cond.code yX3_has cX3_has 2 (some .boolean), Cond.methodLink RX4 197 yX3_isList, Cond.instanceMethod yX3_isList, Cond.selects RX3 yX3_isList yX3_isList, Cond.code yX3_isList cX3_isList 2 (some .boolean), Cond.methodLink RX4 200 yX4_isMember, Cond.static yX4_isMember, Cond.code yX4_isMember cX4_isMember 1 (some .boolean), Cond.methodLink RX4 59 yX4_slotOf, Cond.static yX4_slotOf, Cond.code yX4_slotOf cX4_slotOf 3 (some .int), Cond.methodLink RX4 63 yX4_placeOf, Cond.instanceMethod yX4_placeOf, Cond.selects RX4 yX4_placeOf yX4_placeOf, Cond.code yX4_placeOf cX4_placeOf 7 (some .int)]
def wsL_law_r7 : List Cond := [Cond.fieldLink RX4 142 "StateEnds$Places" "taken" "I", Cond.fieldLink RX4 145 "StateEnds$Places" "line" "[I", Cond.fieldLink RX4 148 "StateEnds$Places" "slots" "[I", Cond.methodLink RX4 71 yX4_isShown, Cond.instanceMethod yX4_isShown, Cond.selects RX4 yX4_isShown yX4_isShown, Cond.code yX4_isShown cX4_isShown 2 (some .boolean), Cond.methodLink RX4 115 yX4_leftOf, Cond.instanceMethod yX4_leftOf, Cond.selects RX4 yX4_leftOf yX4_leftOf, Cond.code yX4_leftOf cX4_leftOf 2 (some .int), Cond.fieldLink RX4 187 "StateEnds$Places" "ends" "[I", Cond.methodLink RX4 184 yX1_stateAt, Cond.instanceMethod yX1_stateAt, Cond.selects RX1 yX1_stateAt yX1_stateAt, Cond.code yX1_stateAt cX1_stateAt 2 (some .int), Cond.methodLink RX4 206 yX3_timeOf, Cond.instanceMethod yX3_timeOf, Cond.selects RX3 yX3_timeOf yX3_timeOf, Cond.code yX3_timeOf cX3_timeOf 2 (some .int), Cond.methodLink RX4 67 yX4_bring, Cond.instanceMethod yX4_bring, Cond.selects RX4 yX4_bring yX4_bring, Cond.code yX4_bring cX4_bring 4 (some .boolean)]
def wsL_law_r8 : List Cond := [Cond.methodLink RX4 209 yX1_leastFree, Cond.instanceMethod yX1_leastFree, Cond.selects RX1 yX1_leastFree yX1_leastFree, Cond.code yX1_leastFree cX1_leastFree 2 (some .int), Cond.methodLink RX1 37 yX1_isTaken, Cond.instanceMethod yX1_isTaken, Cond.selects RX1 yX1_isTaken yX1_isTaken, Cond.code yX1_isTaken cX1_isTaken 2 (some .boolean), Cond.methodLink RX4 168 yX1_take, Cond.instanceMethod yX1_take, Cond.selects RX1 yX1_take yX1_take, Cond.code yX1_take cX1_take 4 none, Cond.methodLink RX4 78 yX4_write, Cond.instanceMethod yX4_write, Cond.selects RX4 yX4_write yX4_write, Cond.code yX4_write cX4_write 3 none, Cond.fieldLink RX4 151 "StateEnds$Places" "numbers" "[I", Cond.fieldLink RX4 130 "StateEnds$States" "spans" "[I", Cond.methodLink RX4 175 yX4_stamp, Cond.instanceMethod yX4_stamp, Cond.selects RX4 yX4_stamp yX4_stamp, Cond.code yX4_stamp cX4_stamp 4 none, Cond.fieldLink RX4 212 "StateEnds$Places" "stamps" "[I", Cond.methodLink RX4 74 yX4_tell]
def wsL_law_r9 : List Cond := [Cond.instanceMethod yX4_tell, Cond.selects RX4 yX4_tell yX4_tell, Cond.code yX4_tell cX4_tell 3 none, Cond.fieldLink RX4 220 "StateEnds$Rows" "cells" "[I", Cond.fieldLink RX4 119 "StateEnds$States" "times" "[I", Cond.methodLink RX4 218 yX2_begin, Cond.instanceMethod yX2_begin, Cond.selects RX2 yX2_begin yX2_begin, Cond.code yX2_begin cX2_begin 1 (some .int), Cond.methodLink RX2 25 yX2_indexOf, Cond.instanceMethod yX2_indexOf, Cond.selects RX2 yX2_indexOf yX2_indexOf, Cond.code yX2_indexOf cX2_indexOf 2 (some .int), Cond.methodLink RX4 203 yX1_keyAt, Cond.instanceMethod yX1_keyAt, Cond.selects RX1 yX1_keyAt yX1_keyAt, Cond.code yX1_keyAt cX1_keyAt 2 (some .int), Cond.methodLink RX4 223 yX1_memberAt, Cond.instanceMethod yX1_memberAt, Cond.selects RX1 yX1_memberAt yX1_memberAt, Cond.code yX1_memberAt cX1_memberAt 2 (some .int), Cond.methodLink RL 21 yX5_put, Cond.instanceMethod yX5_put, Cond.selects RX5 yX5_put yX5_put]
def wsL_law_r10 : List Cond := [Cond.code yX5_put cX5_put 7 (some .int), Cond.methodLink RX5 89 yX5_isForm, Cond.instanceMethod yX5_isForm, Cond.selects RX5 yX5_isForm yX5_isForm, Cond.code yX5_isForm cX5_isForm 3 (some .boolean), Cond.methodLink RX5 64 yX5_isState, Cond.instanceMethod yX5_isState, Cond.selects RX5 yX5_isState yX5_isState, Cond.code yX5_isState cX5_isState 2 (some .boolean), Cond.methodLink RX5 93 yX5_find, Cond.instanceMethod yX5_find, Cond.selects RX5 yX5_find yX5_find, Cond.code yX5_find cX5_find 5 (some .int), Cond.methodLink RX5 73 yX5_isShown, Cond.instanceMethod yX5_isShown, Cond.selects RX5 yX5_isShown yX5_isShown, Cond.code yX5_isShown cX5_isShown 2 (some .boolean), Cond.methodLink RX5 69 yX5_clockOf, Cond.instanceMethod yX5_clockOf, Cond.selects RX5 yX5_clockOf yX5_clockOf, Cond.code yX5_clockOf cX5_clockOf 2 (some .int), Cond.methodLink RX5 97 yX5_free, Cond.instanceMethod yX5_free, Cond.selects RX5 yX5_free yX5_free]
def wsL_law_r11 : List Cond := [Cond.code yX5_free cX5_free 2 (some .int), Cond.methodLink RX5 101 yX5_tells, Cond.instanceMethod yX5_tells, Cond.selects RX5 yX5_tells yX5_tells, Cond.code yX5_tells cX5_tells 3 none, Cond.fieldLink RX5 83 "StateEndsModel" "rowMany" "I", Cond.fieldLink RX5 86 "StateEndsModel" "rowsEver" "I", Cond.methodLink RX5 104 yX5_writes, Cond.instanceMethod yX5_writes, Cond.selects RX5 yX5_writes yX5_writes, Cond.code yX5_writes cX5_writes 6 none, Cond.fieldLink RX5 76 "StateEndsModel" "came" "I", Cond.methodLink RX5 79 yX5_stamps, Cond.instanceMethod yX5_stamps, Cond.selects RX5 yX5_stamps yX5_stamps, Cond.code yX5_stamps cX5_stamps 3 none, Cond.methodLink RL 22 yX4_get, Cond.instanceMethod yX4_get, Cond.selects RX4 yX4_get yX4_get, Cond.code yX4_get cX4_get 4 (some .int), Cond.methodLink RX4 82 yX4_read, Cond.instanceMethod yX4_read, Cond.selects RX4 yX4_read yX4_read, Cond.code yX4_read cX4_read 3 (some .int)]
def wsL_law_r12 : List Cond := [Cond.constant RX4 114 (-99999999), Cond.methodLink RX4 215 yX3_isStampedByReads, Cond.instanceMethod yX3_isStampedByReads, Cond.selects RX3 yX3_isStampedByReads yX3_isStampedByReads, Cond.code yX3_isStampedByReads cX3_isStampedByReads 2 (some .boolean), Cond.methodLink RL 26 yX5_get, Cond.instanceMethod yX5_get, Cond.selects RX5 yX5_get yX5_get, Cond.code yX5_get cX5_get 5 (some .int), Cond.methodLink RX5 108 yX5_read, Cond.instanceMethod yX5_read, Cond.selects RX5 yX5_read yX5_read, Cond.code yX5_read cX5_read 2 (some .int), Cond.methodLink RL 27 yX4_remove, Cond.instanceMethod yX4_remove, Cond.selects RX4 yX4_remove yX4_remove, Cond.code yX4_remove cX4_remove 6 (some .int), Cond.methodLink RX4 86 yX1_vacate, Cond.instanceMethod yX1_vacate, Cond.selects RX1 yX1_vacate yX1_vacate, Cond.code yX1_vacate cX1_vacate 4 none, Cond.methodLink RL 30 yX5_remove, Cond.instanceMethod yX5_remove, Cond.selects RX5 yX5_remove yX5_remove]
def wsL_law_r13 : List Cond := [Cond.code yX5_remove cX5_remove 6 (some .int), Cond.methodLink RL 31 yX4_add, Cond.instanceMethod yX4_add, Cond.selects RX4 yX4_add yX4_add, Cond.code yX4_add cX4_add 4 (some .int), Cond.methodLink RX4 89 yX4_isListFor, Cond.instanceMethod yX4_isListFor, Cond.selects RX4 yX4_isListFor yX4_isListFor, Cond.code yX4_isListFor cX4_isListFor 3 (some .boolean), Cond.methodLink RX4 92 yX4_howMany, Cond.instanceMethod yX4_howMany, Cond.selects RX4 yX4_howMany yX4_howMany, Cond.code yX4_howMany cX4_howMany 7 (some .int), Cond.methodLink RX4 101 yX4_isOfKey, Cond.instanceMethod yX4_isOfKey, Cond.selects RX4 yX4_isOfKey yX4_isOfKey, Cond.code yX4_isOfKey cX4_isOfKey 4 (some .boolean), Cond.methodLink RL 34 yX5_add, Cond.instanceMethod yX5_add, Cond.selects RX5 yX5_add yX5_add, Cond.code yX5_add cX5_add 5 (some .int), Cond.methodLink RX5 111 yX5_held, Cond.instanceMethod yX5_held, Cond.selects RX5 yX5_held yX5_held]
def wsL_law_r14 : List Cond := [Cond.code yX5_held cX5_held 6 (some .int), Cond.methodLink RL 35 yX4_at, Cond.instanceMethod yX4_at, Cond.selects RX4 yX4_at yX4_at, Cond.code yX4_at cX4_at 4 (some .int), Cond.methodLink RL 38 yX5_at, Cond.instanceMethod yX5_at, Cond.selects RX5 yX5_at yX5_at, Cond.code yX5_at cX5_at 5 (some .int), Cond.methodLink RX5 115 yX5_findIn, Cond.instanceMethod yX5_findIn, Cond.selects RX5 yX5_findIn yX5_findIn, Cond.code yX5_findIn cX5_findIn 10 (some .int), Cond.methodLink RL 39 yX4_clear, Cond.instanceMethod yX4_clear, Cond.selects RX4 yX4_clear yX4_clear, Cond.code yX4_clear cX4_clear 5 (some .int), Cond.methodLink RX4 98 yX1_isTaken, Cond.methodLink RL 43 yX5_clear, Cond.instanceMethod yX5_clear, Cond.selects RX5 yX5_clear yX5_clear, Cond.code yX5_clear cX5_clear 5 (some .int), Cond.methodLink RL 44 yX4_held, Cond.instanceMethod yX4_held]
def wsL_law_r15 : List Cond := [Cond.selects RX4 yX4_held yX4_held, Cond.code yX4_held cX4_held 4 (some .int), Cond.methodLink RL 48 yX5_held, Cond.methodLink RL 49 yX4_left, Cond.instanceMethod yX4_left, Cond.selects RX4 yX4_left yX4_left, Cond.code yX4_left cX4_left 5 (some .int), Cond.methodLink RX4 104 yX4_isMemberOrIndexFor, Cond.instanceMethod yX4_isMemberOrIndexFor, Cond.selects RX4 yX4_isMemberOrIndexFor yX4_isMemberOrIndexFor, Cond.code yX4_isMemberOrIndexFor cX4_isMemberOrIndexFor 4 (some .boolean), Cond.methodLink RX4 107 yX4_slotFor, Cond.instanceMethod yX4_slotFor, Cond.selects RX4 yX4_slotFor yX4_slotFor, Cond.code yX4_slotFor cX4_slotFor 4 (some .int), Cond.methodLink RX4 110 yX4_indexFor, Cond.instanceMethod yX4_indexFor, Cond.selects RX4 yX4_indexFor yX4_indexFor, Cond.code yX4_indexFor cX4_indexFor 3 (some .int), Cond.methodLink RL 52 yX5_left, Cond.instanceMethod yX5_left, Cond.selects RX5 yX5_left yX5_left, Cond.code yX5_left cX5_left 5 (some .int), Cond.methodLink RX5 119 yX5_isAsked]
def wsL_law_r16 : List Cond := [Cond.instanceMethod yX5_isAsked, Cond.selects RX5 yX5_isAsked yX5_isAsked, Cond.code yX5_isAsked cX5_isAsked 4 (some .boolean), Cond.methodLink RX5 122 yX5_asked, Cond.instanceMethod yX5_asked, Cond.selects RX5 yX5_asked yX5_asked, Cond.code yX5_asked cX5_asked 5 (some .int), Cond.methodLink RL 53 yX4_tick, Cond.instanceMethod yX4_tick, Cond.selects RX4 yX4_tick yX4_tick, Cond.code yX4_tick cX4_tick 3 (some .int), Cond.constant RX4 123 (1000000000), Cond.methodLink RX4 124 yX4_moveClock, Cond.instanceMethod yX4_moveClock, Cond.selects RX4 yX4_moveClock yX4_moveClock, Cond.code yX4_moveClock cX4_moveClock 4 (some .int), Cond.methodLink RX4 190 yX4_howManyShown, Cond.instanceMethod yX4_howManyShown, Cond.selects RX4 yX4_howManyShown yX4_howManyShown, Cond.code yX4_howManyShown cX4_howManyShown 3 (some .int), Cond.methodLink RL 57 yX5_tick, Cond.instanceMethod yX5_tick, Cond.selects RX5 yX5_tick yX5_tick, Cond.code yX5_tick cX5_tick 2 (some .int)]
def wsL_law_r17 : List Cond := [Cond.constant RX5 131 (1000000000), Cond.methodLink RX5 132 yX5_comes, Cond.instanceMethod yX5_comes, Cond.selects RX5 yX5_comes yX5_comes, Cond.code yX5_comes cX5_comes 4 (some .int), Cond.methodLink RX5 125 yX5_overs, Cond.instanceMethod yX5_overs, Cond.selects RX5 yX5_overs yX5_overs, Cond.code yX5_overs cX5_overs 3 (some .int), Cond.methodLink RX5 128 yX5_isOver, Cond.instanceMethod yX5_isOver, Cond.selects RX5 yX5_isOver yX5_isOver, Cond.code yX5_isOver cX5_isOver 2 (some .boolean), Cond.methodLink RL 58 yX4_watermark, Cond.instanceMethod yX4_watermark, Cond.selects RX4 yX4_watermark yX4_watermark, Cond.code yX4_watermark cX4_watermark 2 (some .int), Cond.methodLink RL 61 yX5_watermark, Cond.instanceMethod yX5_watermark, Cond.selects RX5 yX5_watermark yX5_watermark, Cond.code yX5_watermark cX5_watermark 2 (some .int), Cond.methodLink RL 62 yX4_sweep, Cond.instanceMethod yX4_sweep, Cond.selects RX4 yX4_sweep yX4_sweep]
def wsL_law_r18 : List Cond := [Cond.code yX4_sweep cX4_sweep 4 (some .int), Cond.methodLink RL 65 yX5_sweep, Cond.instanceMethod yX5_sweep, Cond.selects RX5 yX5_sweep yX5_sweep, Cond.code yX5_sweep cX5_sweep 4 (some .int), Cond.fieldLink RX5 136 "StateEndsModel" "sweepAt" "I", Cond.methodLink RL 66 yX4_setting, Cond.instanceMethod yX4_setting, Cond.selects RX4 yX4_setting yX4_setting, Cond.code yX4_setting cX4_setting 5 (some .int), Cond.methodLink RX4 133 yX4_spanShownAnew, Cond.instanceMethod yX4_spanShownAnew, Cond.selects RX4 yX4_spanShownAnew yX4_spanShownAnew, Cond.code yX4_spanShownAnew cX4_spanShownAnew 4 none, Cond.methodLink RL 69 yX5_setting, Cond.instanceMethod yX5_setting, Cond.selects RX5 yX5_setting yX5_setting, Cond.code yX5_setting cX5_setting 6 (some .int), Cond.methodLink RL 70 yX4_mark, Cond.instanceMethod yX4_mark, Cond.selects RX4 yX4_mark yX4_mark, Cond.code yX4_mark cX4_mark 4 (some .int), Cond.fieldLink RX4 158 "StateEnds$Marks" "sizes" "[I", Cond.methodLink RX4 136 yX4_isMark]
def wsL_law_r19 : List Cond := [Cond.static yX4_isMark, Cond.code yX4_isMark cX4_isMark 1 (some .boolean), Cond.methodLink RX4 139 yX0_begin, Cond.instanceMethod yX0_begin, Cond.selects RX0 yX0_begin yX0_begin, Cond.code yX0_begin cX0_begin 2 none, Cond.methodLink RX4 154 yX0_keep, Cond.instanceMethod yX0_keep, Cond.selects RX0 yX0_keep yX0_keep, Cond.code yX0_keep cX0_keep 6 none, Cond.methodLink RX0 30 yX0_indexOf, Cond.instanceMethod yX0_indexOf, Cond.selects RX0 yX0_indexOf yX0_indexOf, Cond.code yX0_indexOf cX0_indexOf 3 (some .int), Cond.methodLink RL 73 yX5_mark, Cond.instanceMethod yX5_mark, Cond.selects RX5 yX5_mark yX5_mark, Cond.code yX5_mark cX5_mark 5 (some .int), Cond.methodLink RX5 139 yX5_nextKept, Cond.instanceMethod yX5_nextKept, Cond.selects RX5 yX5_nextKept yX5_nextKept, Cond.code yX5_nextKept cX5_nextKept 4 (some .int), Cond.methodLink RX5 142 yX5_isAhead, Cond.instanceMethod yX5_isAhead]
def wsL_law_r20 : List Cond := [Cond.selects RX5 yX5_isAhead yX5_isAhead, Cond.code yX5_isAhead cX5_isAhead 3 (some .boolean), Cond.methodLink RL 74 yX4_restore, Cond.instanceMethod yX4_restore, Cond.selects RX4 yX4_restore yX4_restore, Cond.code yX4_restore cX4_restore 5 (some .int), Cond.fieldLink RX4 167 "StateEnds$Marks" "slots" "[I", Cond.fieldLink RX4 171 "StateEnds$Marks" "numbers" "[I", Cond.fieldLink RX4 172 "StateEnds$Marks" "lefts" "[I", Cond.methodLink RX4 161 yX1_vacateAll, Cond.instanceMethod yX1_vacateAll, Cond.selects RX1 yX1_vacateAll yX1_vacateAll, Cond.code yX1_vacateAll cX1_vacateAll 1 none, Cond.methodLink RX4 164 yX0_indexOf, Cond.methodLink RL 77 yX5_restore, Cond.instanceMethod yX5_restore, Cond.selects RX5 yX5_restore yX5_restore, Cond.code yX5_restore cX5_restore 4 (some .int), Cond.methodLink RL 78 yX4_row, Cond.instanceMethod yX4_row, Cond.selects RX4 yX4_row yX4_row, Cond.code yX4_row cX4_row 3 (some .int), Cond.fieldLink RX4 178 "StateEnds$Rows" "kept" "I", Cond.methodLink RX4 181 yX2_cell]
def wsL_law_r21 : List Cond := [Cond.instanceMethod yX2_cell, Cond.selects RX2 yX2_cell yX2_cell, Cond.code yX2_cell cX2_cell 3 (some .int), Cond.methodLink RL 81 yX5_row, Cond.instanceMethod yX5_row, Cond.selects RX5 yX5_row yX5_row, Cond.code yX5_row cX5_row 3 (some .int), Cond.methodLink RL 82 yX4_place, Cond.instanceMethod yX4_place, Cond.selects RX4 yX4_place yX4_place, Cond.code yX4_place cX4_place 5 (some .int), Cond.methodLink RL 85 yX5_place, Cond.instanceMethod yX5_place, Cond.selects RX5 yX5_place yX5_place, Cond.code yX5_place cX5_place 4 (some .int), Cond.methodLink RL 86 yX4_next, Cond.instanceMethod yX4_next, Cond.selects RX4 yX4_next yX4_next, Cond.code yX4_next cX4_next 5 (some .int), Cond.methodLink RL 89 yX5_next, Cond.instanceMethod yX5_next, Cond.selects RX5 yX5_next yX5_next, Cond.code yX5_next cX5_next 4 (some .int), Cond.methodLink RL 90 yX4_count]
def wsL_law_r22 : List Cond := [Cond.instanceMethod yX4_count, Cond.selects RX4 yX4_count yX4_count, Cond.code yX4_count cX4_count 2 (some .int), Cond.fieldLink RX4 194 "StateEnds$Rows" "ever" "I", Cond.methodLink RL 93 yX5_count, Cond.instanceMethod yX5_count, Cond.selects RX5 yX5_count yX5_count, Cond.code yX5_count cX5_count 5 (some .int)]
def wsL_law : List Cond := (wsL_law_r1 ++ (wsL_law_r2 ++ (wsL_law_r3 ++ (wsL_law_r4 ++ (wsL_law_r5 ++ (wsL_law_r6 ++ (wsL_law_r7 ++ (wsL_law_r8 ++ (wsL_law_r9 ++ (wsL_law_r10 ++ (wsL_law_r11 ++ (wsL_law_r12 ++ (wsL_law_r13 ++ (wsL_law_r14 ++ (wsL_law_r15 ++ (wsL_law_r16 ++ (wsL_law_r17 ++ (wsL_law_r18 ++ (wsL_law_r19 ++ (wsL_law_r20 ++ (wsL_law_r21 ++ wsL_law_r22))))))))))))))))))))) ++ wsX40 ++ wsX50 ++ wsX30 ++ wsX10 ++ wsX20 ++ wsX00 ++ ([] : List Cond)
set_option maxRecDepth 20000 in
theorem ggX0_init_J7_fill_53178 : GoodIn wsX0_init wsJ7_fill_53178 := goodIn_r _ [12] (by decide +kernel) (by decide +kernel)
set_option maxRecDepth 20000 in
theorem gX0_init_J7_fill_53178 : GoodIn wsX0_init (va_wsS RX0 24 yJ7_fill_53178 wsJ7_fill_53178) := goodIn_app (goodIn_of _ (by decide +kernel)) ggX0_init_J7_fill_53178
theorem dX0_init_0 : decode cX0_init 0 = .ok (.aload_n 0, 1) := by decide +kernel
theorem dX0_init_1 : decode cX0_init 1 = .ok (.invokespecial 3, 3) := by decide +kernel
theorem dX0_init_4 : decode cX0_init 4 = .ok (.aload_n 0, 1) := by decide +kernel
theorem dX0_init_5 : decode cX0_init 5 = .ok (.sipush 600, 3) := by decide +kernel
theorem dX0_init_8 : decode cX0_init 8 = .ok (.newarray .int, 2) := by decide +kernel
theorem dX0_init_10 : decode cX0_init 10 = .ok (.putfield 9, 3) := by decide +kernel
theorem dX0_init_13 : decode cX0_init 13 = .ok (.aload_n 0, 1) := by decide +kernel
theorem dX0_init_14 : decode cX0_init 14 = .ok (.sipush 600, 3) := by decide +kernel
theorem dX0_init_17 : decode cX0_init 17 = .ok (.newarray .int, 2) := by decide +kernel
theorem dX0_init_19 : decode cX0_init 19 = .ok (.putfield 15, 3) := by decide +kernel
theorem dX0_init_22 : decode cX0_init 22 = .ok (.aload_n 0, 1) := by decide +kernel
theorem dX0_init_23 : decode cX0_init 23 = .ok (.sipush 600, 3) := by decide +kernel
theorem dX0_init_26 : decode cX0_init 26 = .ok (.newarray .int, 2) := by decide +kernel
theorem dX0_init_28 : decode cX0_init 28 = .ok (.putfield 18, 3) := by decide +kernel
theorem dX0_init_31 : decode cX0_init 31 = .ok (.aload_n 0, 1) := by decide +kernel
theorem dX0_init_32 : decode cX0_init 32 = .ok (.iconst 3, 1) := by decide +kernel
theorem dX0_init_33 : decode cX0_init 33 = .ok (.newarray .int, 2) := by decide +kernel
theorem dX0_init_35 : decode cX0_init 35 = .ok (.putfield 21, 3) := by decide +kernel
theorem dX0_init_38 : decode cX0_init 38 = .ok (.aload_n 0, 1) := by decide +kernel
theorem dX0_init_39 : decode cX0_init 39 = .ok (.getfield 21, 3) := by decide +kernel
theorem dX0_init_42 : decode cX0_init 42 = .ok (.iconst (-1), 1) := by decide +kernel
theorem dX0_init_43 : decode cX0_init 43 = .ok (.invokestatic 24, 3) := by decide +kernel
theorem dX0_init_46 : decode cX0_init 46 = .ok (.return_, 1) := by decide +kernel
theorem dX0_begin_0 : decode cX0_begin 0 = .ok (.aload_n 0, 1) := by decide +kernel
theorem dX0_begin_1 : decode cX0_begin 1 = .ok (.getfield 21, 3) := by decide +kernel
theorem dX0_begin_4 : decode cX0_begin 4 = .ok (.iload_n 1, 1) := by decide +kernel
theorem dX0_begin_5 : decode cX0_begin 5 = .ok (.iconst 0, 1) := by decide +kernel
theorem dX0_begin_6 : decode cX0_begin 6 = .ok (.iastore, 1) := by decide +kernel
theorem dX0_begin_7 : decode cX0_begin 7 = .ok (.return_, 1) := by decide +kernel
set_option maxRecDepth 20000 in
theorem ggX0_keep_X0_indexOf : GoodIn wsX0_keep wsX0_indexOf := goodIn_r _ [9] (by decide +kernel) (by decide +kernel)
set_option maxRecDepth 20000 in
theorem gX0_keep_X0_indexOf : GoodIn wsX0_keep (wsV RX0 30 RX0 yX0_indexOf wsX0_indexOf) := goodIn_app (goodIn_of _ (by decide +kernel)) ggX0_keep_X0_indexOf
theorem dX0_keep_0 : decode cX0_keep 0 = .ok (.aload_n 0, 1) := by decide +kernel
theorem dX0_keep_1 : decode cX0_keep 1 = .ok (.iload_n 1, 1) := by decide +kernel
theorem dX0_keep_2 : decode cX0_keep 2 = .ok (.aload_n 0, 1) := by decide +kernel
theorem dX0_keep_3 : decode cX0_keep 3 = .ok (.getfield 21, 3) := by decide +kernel
theorem dX0_keep_6 : decode cX0_keep 6 = .ok (.iload_n 1, 1) := by decide +kernel
theorem dX0_keep_7 : decode cX0_keep 7 = .ok (.iaload, 1) := by decide +kernel
theorem dX0_keep_8 : decode cX0_keep 8 = .ok (.invokevirtual 30, 3) := by decide +kernel
theorem dX0_keep_11 : decode cX0_keep 11 = .ok (.istore 5, 2) := by decide +kernel
theorem dX0_keep_13 : decode cX0_keep 13 = .ok (.aload_n 0, 1) := by decide +kernel
theorem dX0_keep_14 : decode cX0_keep 14 = .ok (.getfield 9, 3) := by decide +kernel
theorem dX0_keep_17 : decode cX0_keep 17 = .ok (.iload 5, 2) := by decide +kernel
theorem dX0_keep_19 : decode cX0_keep 19 = .ok (.iload_n 2, 1) := by decide +kernel
theorem dX0_keep_20 : decode cX0_keep 20 = .ok (.iastore, 1) := by decide +kernel
theorem dX0_keep_21 : decode cX0_keep 21 = .ok (.aload_n 0, 1) := by decide +kernel
theorem dX0_keep_22 : decode cX0_keep 22 = .ok (.getfield 15, 3) := by decide +kernel
theorem dX0_keep_25 : decode cX0_keep 25 = .ok (.iload 5, 2) := by decide +kernel
theorem dX0_keep_27 : decode cX0_keep 27 = .ok (.iload_n 3, 1) := by decide +kernel
theorem dX0_keep_28 : decode cX0_keep 28 = .ok (.iastore, 1) := by decide +kernel
theorem dX0_keep_29 : decode cX0_keep 29 = .ok (.aload_n 0, 1) := by decide +kernel
theorem dX0_keep_30 : decode cX0_keep 30 = .ok (.getfield 18, 3) := by decide +kernel
theorem dX0_keep_33 : decode cX0_keep 33 = .ok (.iload 5, 2) := by decide +kernel
theorem dX0_keep_35 : decode cX0_keep 35 = .ok (.iload 4, 2) := by decide +kernel
theorem dX0_keep_37 : decode cX0_keep 37 = .ok (.iastore, 1) := by decide +kernel
theorem dX0_keep_38 : decode cX0_keep 38 = .ok (.aload_n 0, 1) := by decide +kernel
theorem dX0_keep_39 : decode cX0_keep 39 = .ok (.getfield 21, 3) := by decide +kernel
theorem dX0_keep_42 : decode cX0_keep 42 = .ok (.iload_n 1, 1) := by decide +kernel
theorem dX0_keep_43 : decode cX0_keep 43 = .ok (.dup2, 1) := by decide +kernel
theorem dX0_keep_44 : decode cX0_keep 44 = .ok (.iaload, 1) := by decide +kernel
theorem dX0_keep_45 : decode cX0_keep 45 = .ok (.iconst 1, 1) := by decide +kernel
theorem dX0_keep_46 : decode cX0_keep 46 = .ok (.iadd, 1) := by decide +kernel
theorem dX0_keep_47 : decode cX0_keep 47 = .ok (.iastore, 1) := by decide +kernel
theorem dX0_keep_48 : decode cX0_keep 48 = .ok (.return_, 1) := by decide +kernel
theorem dX0_indexOf_0 : decode cX0_indexOf 0 = .ok (.iload_n 1, 1) := by decide +kernel
theorem dX0_indexOf_1 : decode cX0_indexOf 1 = .ok (.sipush 200, 3) := by decide +kernel
theorem dX0_indexOf_4 : decode cX0_indexOf 4 = .ok (.imul, 1) := by decide +kernel
theorem dX0_indexOf_5 : decode cX0_indexOf 5 = .ok (.iload_n 2, 1) := by decide +kernel
theorem dX0_indexOf_6 : decode cX0_indexOf 6 = .ok (.iadd, 1) := by decide +kernel
theorem dX0_indexOf_7 : decode cX0_indexOf 7 = .ok (.ireturn, 1) := by decide +kernel
set_option maxRecDepth 20000 in
theorem ggX1_init_J7_fill_53178 : GoodIn wsX1_init wsJ7_fill_53178 := goodIn_r _ [14] (by decide +kernel) (by decide +kernel)
set_option maxRecDepth 20000 in
theorem gX1_init_J7_fill_53178 : GoodIn wsX1_init (va_wsS RX1 31 yJ7_fill_53178 wsJ7_fill_53178) := goodIn_app (goodIn_of _ (by decide +kernel)) ggX1_init_J7_fill_53178
theorem dX1_init_0 : decode cX1_init 0 = .ok (.aload_n 0, 1) := by decide +kernel
theorem dX1_init_1 : decode cX1_init 1 = .ok (.invokespecial 3, 3) := by decide +kernel
theorem dX1_init_4 : decode cX1_init 4 = .ok (.aload_n 0, 1) := by decide +kernel
theorem dX1_init_5 : decode cX1_init 5 = .ok (.sipush 200, 3) := by decide +kernel
theorem dX1_init_8 : decode cX1_init 8 = .ok (.newarray .int, 2) := by decide +kernel
theorem dX1_init_10 : decode cX1_init 10 = .ok (.putfield 9, 3) := by decide +kernel
theorem dX1_init_13 : decode cX1_init 13 = .ok (.aload_n 0, 1) := by decide +kernel
theorem dX1_init_14 : decode cX1_init 14 = .ok (.sipush 200, 3) := by decide +kernel
theorem dX1_init_17 : decode cX1_init 17 = .ok (.newarray .int, 2) := by decide +kernel
theorem dX1_init_19 : decode cX1_init 19 = .ok (.putfield 15, 3) := by decide +kernel
theorem dX1_init_22 : decode cX1_init 22 = .ok (.aload_n 0, 1) := by decide +kernel
theorem dX1_init_23 : decode cX1_init 23 = .ok (.sipush 200, 3) := by decide +kernel
theorem dX1_init_26 : decode cX1_init 26 = .ok (.newarray .int, 2) := by decide +kernel
theorem dX1_init_28 : decode cX1_init 28 = .ok (.putfield 18, 3) := by decide +kernel
theorem dX1_init_31 : decode cX1_init 31 = .ok (.aload_n 0, 1) := by decide +kernel
theorem dX1_init_32 : decode cX1_init 32 = .ok (.sipush 200, 3) := by decide +kernel
theorem dX1_init_35 : decode cX1_init 35 = .ok (.newarray .int, 2) := by decide +kernel
theorem dX1_init_37 : decode cX1_init 37 = .ok (.putfield 21, 3) := by decide +kernel
theorem dX1_init_40 : decode cX1_init 40 = .ok (.aload_n 0, 1) := by decide +kernel
theorem dX1_init_41 : decode cX1_init 41 = .ok (.sipush 200, 3) := by decide +kernel
theorem dX1_init_44 : decode cX1_init 44 = .ok (.newarray .int, 2) := by decide +kernel
theorem dX1_init_46 : decode cX1_init 46 = .ok (.putfield 24, 3) := by decide +kernel
theorem dX1_init_49 : decode cX1_init 49 = .ok (.aload_n 0, 1) := by decide +kernel
theorem dX1_init_50 : decode cX1_init 50 = .ok (.iconst 0, 1) := by decide +kernel
theorem dX1_init_51 : decode cX1_init 51 = .ok (.putfield 27, 3) := by decide +kernel
theorem dX1_init_54 : decode cX1_init 54 = .ok (.aload_n 0, 1) := by decide +kernel
theorem dX1_init_55 : decode cX1_init 55 = .ok (.getfield 9, 3) := by decide +kernel
theorem dX1_init_58 : decode cX1_init 58 = .ok (.iconst (-1), 1) := by decide +kernel
theorem dX1_init_59 : decode cX1_init 59 = .ok (.invokestatic 31, 3) := by decide +kernel
theorem dX1_init_62 : decode cX1_init 62 = .ok (.return_, 1) := by decide +kernel
theorem dX1_isTaken_0 : decode cX1_isTaken 0 = .ok (.aload_n 0, 1) := by decide +kernel
theorem dX1_isTaken_1 : decode cX1_isTaken 1 = .ok (.getfield 9, 3) := by decide +kernel
theorem dX1_isTaken_4 : decode cX1_isTaken 4 = .ok (.iload_n 1, 1) := by decide +kernel
theorem dX1_isTaken_5 : decode cX1_isTaken 5 = .ok (.iaload, 1) := by decide +kernel
theorem dX1_isTaken_6 : decode cX1_isTaken 6 = .ok (.iconst (-1), 1) := by decide +kernel
theorem dX1_isTaken_7 : decode cX1_isTaken 7 = .ok (.if_icmp .eq 7, 3) := by decide +kernel
theorem dX1_isTaken_10 : decode cX1_isTaken 10 = .ok (.iconst 1, 1) := by decide +kernel
theorem dX1_isTaken_11 : decode cX1_isTaken 11 = .ok (.goto 4, 3) := by decide +kernel
theorem dX1_isTaken_14 : decode cX1_isTaken 14 = .ok (.iconst 0, 1) := by decide +kernel
theorem dX1_isTaken_15 : decode cX1_isTaken 15 = .ok (.ireturn, 1) := by decide +kernel
theorem dX1_stateAt_0 : decode cX1_stateAt 0 = .ok (.aload_n 0, 1) := by decide +kernel
theorem dX1_stateAt_1 : decode cX1_stateAt 1 = .ok (.getfield 9, 3) := by decide +kernel
theorem dX1_stateAt_4 : decode cX1_stateAt 4 = .ok (.iload_n 1, 1) := by decide +kernel
theorem dX1_stateAt_5 : decode cX1_stateAt 5 = .ok (.iaload, 1) := by decide +kernel
theorem dX1_stateAt_6 : decode cX1_stateAt 6 = .ok (.sipush 1000, 3) := by decide +kernel
theorem dX1_stateAt_9 : decode cX1_stateAt 9 = .ok (.idiv, 1) := by decide +kernel
theorem dX1_stateAt_10 : decode cX1_stateAt 10 = .ok (.ireturn, 1) := by decide +kernel
theorem dX1_keyAt_0 : decode cX1_keyAt 0 = .ok (.aload_n 0, 1) := by decide +kernel
theorem dX1_keyAt_1 : decode cX1_keyAt 1 = .ok (.getfield 9, 3) := by decide +kernel
theorem dX1_keyAt_4 : decode cX1_keyAt 4 = .ok (.iload_n 1, 1) := by decide +kernel
theorem dX1_keyAt_5 : decode cX1_keyAt 5 = .ok (.iaload, 1) := by decide +kernel
theorem dX1_keyAt_6 : decode cX1_keyAt 6 = .ok (.bipush 10, 2) := by decide +kernel
theorem dX1_keyAt_8 : decode cX1_keyAt 8 = .ok (.idiv, 1) := by decide +kernel
theorem dX1_keyAt_9 : decode cX1_keyAt 9 = .ok (.bipush 100, 2) := by decide +kernel
theorem dX1_keyAt_11 : decode cX1_keyAt 11 = .ok (.irem, 1) := by decide +kernel
theorem dX1_keyAt_12 : decode cX1_keyAt 12 = .ok (.ireturn, 1) := by decide +kernel
theorem dX1_memberAt_0 : decode cX1_memberAt 0 = .ok (.aload_n 0, 1) := by decide +kernel
theorem dX1_memberAt_1 : decode cX1_memberAt 1 = .ok (.getfield 9, 3) := by decide +kernel
theorem dX1_memberAt_4 : decode cX1_memberAt 4 = .ok (.iload_n 1, 1) := by decide +kernel
theorem dX1_memberAt_5 : decode cX1_memberAt 5 = .ok (.iaload, 1) := by decide +kernel
theorem dX1_memberAt_6 : decode cX1_memberAt 6 = .ok (.bipush 10, 2) := by decide +kernel
theorem dX1_memberAt_8 : decode cX1_memberAt 8 = .ok (.irem, 1) := by decide +kernel
theorem dX1_memberAt_9 : decode cX1_memberAt 9 = .ok (.ireturn, 1) := by decide +kernel
set_option maxRecDepth 20000 in
theorem ggX1_leastFree_X1_isTaken : GoodIn wsX1_leastFree wsX1_isTaken := goodIn_r _ [5, 6, 7, 8, 9, 10, 11, 12] (by decide +kernel) (by decide +kernel)
set_option maxRecDepth 20000 in
theorem gX1_leastFree_X1_isTaken : GoodIn wsX1_leastFree (wsV RX1 37 RX1 yX1_isTaken wsX1_isTaken) := goodIn_app (goodIn_of _ (by decide +kernel)) ggX1_leastFree_X1_isTaken
theorem dX1_leastFree_0 : decode cX1_leastFree 0 = .ok (.iconst 0, 1) := by decide +kernel
theorem dX1_leastFree_1 : decode cX1_leastFree 1 = .ok (.istore_n 1, 1) := by decide +kernel
theorem dX1_leastFree_2 : decode cX1_leastFree 2 = .ok (.iload_n 1, 1) := by decide +kernel
theorem dX1_leastFree_3 : decode cX1_leastFree 3 = .ok (.sipush 200, 3) := by decide +kernel
theorem dX1_leastFree_6 : decode cX1_leastFree 6 = .ok (.if_icmp .ge 19, 3) := by decide +kernel
theorem dX1_leastFree_9 : decode cX1_leastFree 9 = .ok (.aload_n 0, 1) := by decide +kernel
theorem dX1_leastFree_10 : decode cX1_leastFree 10 = .ok (.iload_n 1, 1) := by decide +kernel
theorem dX1_leastFree_11 : decode cX1_leastFree 11 = .ok (.invokevirtual 37, 3) := by decide +kernel
theorem dX1_leastFree_14 : decode cX1_leastFree 14 = .ok (.ifCond .ne 5, 3) := by decide +kernel
theorem dX1_leastFree_17 : decode cX1_leastFree 17 = .ok (.iload_n 1, 1) := by decide +kernel
theorem dX1_leastFree_18 : decode cX1_leastFree 18 = .ok (.ireturn, 1) := by decide +kernel
theorem dX1_leastFree_19 : decode cX1_leastFree 19 = .ok (.iinc 1 1, 3) := by decide +kernel
theorem dX1_leastFree_22 : decode cX1_leastFree 22 = .ok (.goto (-20), 3) := by decide +kernel
theorem dX1_leastFree_25 : decode cX1_leastFree 25 = .ok (.iconst (-1), 1) := by decide +kernel
theorem dX1_leastFree_26 : decode cX1_leastFree 26 = .ok (.ireturn, 1) := by decide +kernel
theorem dX1_take_0 : decode cX1_take 0 = .ok (.aload_n 0, 1) := by decide +kernel
theorem dX1_take_1 : decode cX1_take 1 = .ok (.getfield 9, 3) := by decide +kernel
theorem dX1_take_4 : decode cX1_take 4 = .ok (.iload_n 1, 1) := by decide +kernel
theorem dX1_take_5 : decode cX1_take 5 = .ok (.iload_n 2, 1) := by decide +kernel
theorem dX1_take_6 : decode cX1_take 6 = .ok (.iastore, 1) := by decide +kernel
theorem dX1_take_7 : decode cX1_take 7 = .ok (.aload_n 0, 1) := by decide +kernel
theorem dX1_take_8 : decode cX1_take 8 = .ok (.getfield 27, 3) := by decide +kernel
theorem dX1_take_11 : decode cX1_take 11 = .ok (.istore_n 3, 1) := by decide +kernel
theorem dX1_take_12 : decode cX1_take 12 = .ok (.iload_n 3, 1) := by decide +kernel
theorem dX1_take_13 : decode cX1_take 13 = .ok (.ifCond .le 40, 3) := by decide +kernel
theorem dX1_take_16 : decode cX1_take 16 = .ok (.aload_n 0, 1) := by decide +kernel
theorem dX1_take_17 : decode cX1_take 17 = .ok (.getfield 9, 3) := by decide +kernel
theorem dX1_take_20 : decode cX1_take 20 = .ok (.aload_n 0, 1) := by decide +kernel
theorem dX1_take_21 : decode cX1_take 21 = .ok (.getfield 24, 3) := by decide +kernel
theorem dX1_take_24 : decode cX1_take 24 = .ok (.iload_n 3, 1) := by decide +kernel
theorem dX1_take_25 : decode cX1_take 25 = .ok (.iconst 1, 1) := by decide +kernel
theorem dX1_take_26 : decode cX1_take 26 = .ok (.isub, 1) := by decide +kernel
theorem dX1_take_27 : decode cX1_take 27 = .ok (.iaload, 1) := by decide +kernel
theorem dX1_take_28 : decode cX1_take 28 = .ok (.iaload, 1) := by decide +kernel
theorem dX1_take_29 : decode cX1_take 29 = .ok (.iload_n 2, 1) := by decide +kernel
theorem dX1_take_30 : decode cX1_take 30 = .ok (.if_icmp .le 23, 3) := by decide +kernel
theorem dX1_take_33 : decode cX1_take 33 = .ok (.aload_n 0, 1) := by decide +kernel
theorem dX1_take_34 : decode cX1_take 34 = .ok (.getfield 24, 3) := by decide +kernel
theorem dX1_take_37 : decode cX1_take 37 = .ok (.iload_n 3, 1) := by decide +kernel
theorem dX1_take_38 : decode cX1_take 38 = .ok (.aload_n 0, 1) := by decide +kernel
theorem dX1_take_39 : decode cX1_take 39 = .ok (.getfield 24, 3) := by decide +kernel
theorem dX1_take_42 : decode cX1_take 42 = .ok (.iload_n 3, 1) := by decide +kernel
theorem dX1_take_43 : decode cX1_take 43 = .ok (.iconst 1, 1) := by decide +kernel
theorem dX1_take_44 : decode cX1_take 44 = .ok (.isub, 1) := by decide +kernel
theorem dX1_take_45 : decode cX1_take 45 = .ok (.iaload, 1) := by decide +kernel
theorem dX1_take_46 : decode cX1_take 46 = .ok (.iastore, 1) := by decide +kernel
theorem dX1_take_47 : decode cX1_take 47 = .ok (.iinc 3 (-1), 3) := by decide +kernel
theorem dX1_take_50 : decode cX1_take 50 = .ok (.goto (-38), 3) := by decide +kernel
theorem dX1_take_53 : decode cX1_take 53 = .ok (.aload_n 0, 1) := by decide +kernel
theorem dX1_take_54 : decode cX1_take 54 = .ok (.getfield 24, 3) := by decide +kernel
theorem dX1_take_57 : decode cX1_take 57 = .ok (.iload_n 3, 1) := by decide +kernel
theorem dX1_take_58 : decode cX1_take 58 = .ok (.iload_n 1, 1) := by decide +kernel
theorem dX1_take_59 : decode cX1_take 59 = .ok (.iastore, 1) := by decide +kernel
theorem dX1_take_60 : decode cX1_take 60 = .ok (.aload_n 0, 1) := by decide +kernel
theorem dX1_take_61 : decode cX1_take 61 = .ok (.dup, 1) := by decide +kernel
theorem dX1_take_62 : decode cX1_take 62 = .ok (.getfield 27, 3) := by decide +kernel
theorem dX1_take_65 : decode cX1_take 65 = .ok (.iconst 1, 1) := by decide +kernel
theorem dX1_take_66 : decode cX1_take 66 = .ok (.iadd, 1) := by decide +kernel
theorem dX1_take_67 : decode cX1_take 67 = .ok (.putfield 27, 3) := by decide +kernel
theorem dX1_take_70 : decode cX1_take 70 = .ok (.return_, 1) := by decide +kernel
theorem dX1_vacate_0 : decode cX1_vacate 0 = .ok (.aload_n 0, 1) := by decide +kernel
theorem dX1_vacate_1 : decode cX1_vacate 1 = .ok (.getfield 9, 3) := by decide +kernel
theorem dX1_vacate_4 : decode cX1_vacate 4 = .ok (.iload_n 1, 1) := by decide +kernel
theorem dX1_vacate_5 : decode cX1_vacate 5 = .ok (.iconst (-1), 1) := by decide +kernel
theorem dX1_vacate_6 : decode cX1_vacate 6 = .ok (.iastore, 1) := by decide +kernel
theorem dX1_vacate_7 : decode cX1_vacate 7 = .ok (.iconst 0, 1) := by decide +kernel
theorem dX1_vacate_8 : decode cX1_vacate 8 = .ok (.istore_n 2, 1) := by decide +kernel
theorem dX1_vacate_9 : decode cX1_vacate 9 = .ok (.iconst 0, 1) := by decide +kernel
theorem dX1_vacate_10 : decode cX1_vacate 10 = .ok (.istore_n 3, 1) := by decide +kernel
theorem dX1_vacate_11 : decode cX1_vacate 11 = .ok (.iload_n 3, 1) := by decide +kernel
theorem dX1_vacate_12 : decode cX1_vacate 12 = .ok (.aload_n 0, 1) := by decide +kernel
theorem dX1_vacate_13 : decode cX1_vacate 13 = .ok (.getfield 27, 3) := by decide +kernel
theorem dX1_vacate_16 : decode cX1_vacate 16 = .ok (.if_icmp .ge 34, 3) := by decide +kernel
theorem dX1_vacate_19 : decode cX1_vacate 19 = .ok (.aload_n 0, 1) := by decide +kernel
theorem dX1_vacate_20 : decode cX1_vacate 20 = .ok (.getfield 24, 3) := by decide +kernel
theorem dX1_vacate_23 : decode cX1_vacate 23 = .ok (.iload_n 3, 1) := by decide +kernel
theorem dX1_vacate_24 : decode cX1_vacate 24 = .ok (.iaload, 1) := by decide +kernel
theorem dX1_vacate_25 : decode cX1_vacate 25 = .ok (.iload_n 1, 1) := by decide +kernel
theorem dX1_vacate_26 : decode cX1_vacate 26 = .ok (.if_icmp .eq 18, 3) := by decide +kernel
theorem dX1_vacate_29 : decode cX1_vacate 29 = .ok (.aload_n 0, 1) := by decide +kernel
theorem dX1_vacate_30 : decode cX1_vacate 30 = .ok (.getfield 24, 3) := by decide +kernel
theorem dX1_vacate_33 : decode cX1_vacate 33 = .ok (.iload_n 2, 1) := by decide +kernel
theorem dX1_vacate_34 : decode cX1_vacate 34 = .ok (.aload_n 0, 1) := by decide +kernel
theorem dX1_vacate_35 : decode cX1_vacate 35 = .ok (.getfield 24, 3) := by decide +kernel
theorem dX1_vacate_38 : decode cX1_vacate 38 = .ok (.iload_n 3, 1) := by decide +kernel
theorem dX1_vacate_39 : decode cX1_vacate 39 = .ok (.iaload, 1) := by decide +kernel
theorem dX1_vacate_40 : decode cX1_vacate 40 = .ok (.iastore, 1) := by decide +kernel
theorem dX1_vacate_41 : decode cX1_vacate 41 = .ok (.iinc 2 1, 3) := by decide +kernel
theorem dX1_vacate_44 : decode cX1_vacate 44 = .ok (.iinc 3 1, 3) := by decide +kernel
theorem dX1_vacate_47 : decode cX1_vacate 47 = .ok (.goto (-36), 3) := by decide +kernel
theorem dX1_vacate_50 : decode cX1_vacate 50 = .ok (.aload_n 0, 1) := by decide +kernel
theorem dX1_vacate_51 : decode cX1_vacate 51 = .ok (.iload_n 2, 1) := by decide +kernel
theorem dX1_vacate_52 : decode cX1_vacate 52 = .ok (.putfield 27, 3) := by decide +kernel
theorem dX1_vacate_55 : decode cX1_vacate 55 = .ok (.return_, 1) := by decide +kernel
set_option maxRecDepth 20000 in
theorem ggX1_vacateAll_J7_fill_53178 : GoodIn wsX1_vacateAll wsJ7_fill_53178 := goodIn_r _ [6] (by decide +kernel) (by decide +kernel)
set_option maxRecDepth 20000 in
theorem gX1_vacateAll_J7_fill_53178 : GoodIn wsX1_vacateAll (va_wsS RX1 31 yJ7_fill_53178 wsJ7_fill_53178) := goodIn_app (goodIn_of _ (by decide +kernel)) ggX1_vacateAll_J7_fill_53178
theorem dX1_vacateAll_0 : decode cX1_vacateAll 0 = .ok (.aload_n 0, 1) := by decide +kernel
theorem dX1_vacateAll_1 : decode cX1_vacateAll 1 = .ok (.getfield 9, 3) := by decide +kernel
theorem dX1_vacateAll_4 : decode cX1_vacateAll 4 = .ok (.iconst (-1), 1) := by decide +kernel
theorem dX1_vacateAll_5 : decode cX1_vacateAll 5 = .ok (.invokestatic 31, 3) := by decide +kernel
theorem dX1_vacateAll_8 : decode cX1_vacateAll 8 = .ok (.aload_n 0, 1) := by decide +kernel
theorem dX1_vacateAll_9 : decode cX1_vacateAll 9 = .ok (.iconst 0, 1) := by decide +kernel
theorem dX1_vacateAll_10 : decode cX1_vacateAll 10 = .ok (.putfield 27, 3) := by decide +kernel
theorem dX1_vacateAll_13 : decode cX1_vacateAll 13 = .ok (.return_, 1) := by decide +kernel
theorem dX2_init_0 : decode cX2_init 0 = .ok (.aload_n 0, 1) := by decide +kernel
theorem dX2_init_1 : decode cX2_init 1 = .ok (.invokespecial 3, 3) := by decide +kernel
theorem dX2_init_4 : decode cX2_init 4 = .ok (.aload_n 0, 1) := by decide +kernel
theorem dX2_init_5 : decode cX2_init 5 = .ok (.sipush 900, 3) := by decide +kernel
theorem dX2_init_8 : decode cX2_init 8 = .ok (.newarray .int, 2) := by decide +kernel
theorem dX2_init_10 : decode cX2_init 10 = .ok (.putfield 9, 3) := by decide +kernel
theorem dX2_init_13 : decode cX2_init 13 = .ok (.aload_n 0, 1) := by decide +kernel
theorem dX2_init_14 : decode cX2_init 14 = .ok (.iconst 0, 1) := by decide +kernel
theorem dX2_init_15 : decode cX2_init 15 = .ok (.putfield 15, 3) := by decide +kernel
theorem dX2_init_18 : decode cX2_init 18 = .ok (.aload_n 0, 1) := by decide +kernel
theorem dX2_init_19 : decode cX2_init 19 = .ok (.iconst 0, 1) := by decide +kernel
theorem dX2_init_20 : decode cX2_init 20 = .ok (.putfield 19, 3) := by decide +kernel
theorem dX2_init_23 : decode cX2_init 23 = .ok (.aload_n 0, 1) := by decide +kernel
theorem dX2_init_24 : decode cX2_init 24 = .ok (.iconst 0, 1) := by decide +kernel
theorem dX2_init_25 : decode cX2_init 25 = .ok (.putfield 22, 3) := by decide +kernel
theorem dX2_init_28 : decode cX2_init 28 = .ok (.return_, 1) := by decide +kernel
set_option maxRecDepth 20000 in
theorem ggX2_begin_X2_indexOf : GoodIn wsX2_begin wsX2_indexOf := goodIn_r _ [8, 2, 9, 10, 11, 12] (by decide +kernel) (by decide +kernel)
set_option maxRecDepth 20000 in
theorem gX2_begin_X2_indexOf : GoodIn wsX2_begin (wsV RX2 25 RX2 yX2_indexOf wsX2_indexOf) := goodIn_app (goodIn_of _ (by decide +kernel)) ggX2_begin_X2_indexOf
theorem dX2_begin_0 : decode cX2_begin 0 = .ok (.aload_n 0, 1) := by decide +kernel
theorem dX2_begin_1 : decode cX2_begin 1 = .ok (.getfield 19, 3) := by decide +kernel
theorem dX2_begin_4 : decode cX2_begin 4 = .ok (.sipush 150, 3) := by decide +kernel
theorem dX2_begin_7 : decode cX2_begin 7 = .ok (.if_icmp .ne 20, 3) := by decide +kernel
theorem dX2_begin_10 : decode cX2_begin 10 = .ok (.aload_n 0, 1) := by decide +kernel
theorem dX2_begin_11 : decode cX2_begin 11 = .ok (.aload_n 0, 1) := by decide +kernel
theorem dX2_begin_12 : decode cX2_begin 12 = .ok (.getfield 15, 3) := by decide +kernel
theorem dX2_begin_15 : decode cX2_begin 15 = .ok (.iconst 1, 1) := by decide +kernel
theorem dX2_begin_16 : decode cX2_begin 16 = .ok (.iadd, 1) := by decide +kernel
theorem dX2_begin_17 : decode cX2_begin 17 = .ok (.sipush 150, 3) := by decide +kernel
theorem dX2_begin_20 : decode cX2_begin 20 = .ok (.irem, 1) := by decide +kernel
theorem dX2_begin_21 : decode cX2_begin 21 = .ok (.putfield 15, 3) := by decide +kernel
theorem dX2_begin_24 : decode cX2_begin 24 = .ok (.goto 13, 3) := by decide +kernel
theorem dX2_begin_27 : decode cX2_begin 27 = .ok (.aload_n 0, 1) := by decide +kernel
theorem dX2_begin_28 : decode cX2_begin 28 = .ok (.dup, 1) := by decide +kernel
theorem dX2_begin_29 : decode cX2_begin 29 = .ok (.getfield 19, 3) := by decide +kernel
theorem dX2_begin_32 : decode cX2_begin 32 = .ok (.iconst 1, 1) := by decide +kernel
theorem dX2_begin_33 : decode cX2_begin 33 = .ok (.iadd, 1) := by decide +kernel
theorem dX2_begin_34 : decode cX2_begin 34 = .ok (.putfield 19, 3) := by decide +kernel
theorem dX2_begin_37 : decode cX2_begin 37 = .ok (.aload_n 0, 1) := by decide +kernel
theorem dX2_begin_38 : decode cX2_begin 38 = .ok (.dup, 1) := by decide +kernel
theorem dX2_begin_39 : decode cX2_begin 39 = .ok (.getfield 22, 3) := by decide +kernel
theorem dX2_begin_42 : decode cX2_begin 42 = .ok (.iconst 1, 1) := by decide +kernel
theorem dX2_begin_43 : decode cX2_begin 43 = .ok (.iadd, 1) := by decide +kernel
theorem dX2_begin_44 : decode cX2_begin 44 = .ok (.putfield 22, 3) := by decide +kernel
theorem dX2_begin_47 : decode cX2_begin 47 = .ok (.aload_n 0, 1) := by decide +kernel
theorem dX2_begin_48 : decode cX2_begin 48 = .ok (.aload_n 0, 1) := by decide +kernel
theorem dX2_begin_49 : decode cX2_begin 49 = .ok (.getfield 19, 3) := by decide +kernel
theorem dX2_begin_52 : decode cX2_begin 52 = .ok (.iconst 1, 1) := by decide +kernel
theorem dX2_begin_53 : decode cX2_begin 53 = .ok (.isub, 1) := by decide +kernel
theorem dX2_begin_54 : decode cX2_begin 54 = .ok (.invokevirtual 25, 3) := by decide +kernel
theorem dX2_begin_57 : decode cX2_begin 57 = .ok (.ireturn, 1) := by decide +kernel
set_option maxRecDepth 20000 in
theorem ggX2_cell_X2_indexOf : GoodIn wsX2_cell wsX2_indexOf := goodIn_r _ [6, 7, 8, 9, 10, 11] (by decide +kernel) (by decide +kernel)
set_option maxRecDepth 20000 in
theorem gX2_cell_X2_indexOf : GoodIn wsX2_cell (wsV RX2 25 RX2 yX2_indexOf wsX2_indexOf) := goodIn_app (goodIn_of _ (by decide +kernel)) ggX2_cell_X2_indexOf
theorem dX2_cell_0 : decode cX2_cell 0 = .ok (.aload_n 0, 1) := by decide +kernel
theorem dX2_cell_1 : decode cX2_cell 1 = .ok (.getfield 9, 3) := by decide +kernel
theorem dX2_cell_4 : decode cX2_cell 4 = .ok (.aload_n 0, 1) := by decide +kernel
theorem dX2_cell_5 : decode cX2_cell 5 = .ok (.iload_n 1, 1) := by decide +kernel
theorem dX2_cell_6 : decode cX2_cell 6 = .ok (.invokevirtual 25, 3) := by decide +kernel
theorem dX2_cell_9 : decode cX2_cell 9 = .ok (.iload_n 2, 1) := by decide +kernel
theorem dX2_cell_10 : decode cX2_cell 10 = .ok (.iadd, 1) := by decide +kernel
theorem dX2_cell_11 : decode cX2_cell 11 = .ok (.iaload, 1) := by decide +kernel
theorem dX2_cell_12 : decode cX2_cell 12 = .ok (.ireturn, 1) := by decide +kernel
theorem dX2_indexOf_0 : decode cX2_indexOf 0 = .ok (.aload_n 0, 1) := by decide +kernel
theorem dX2_indexOf_1 : decode cX2_indexOf 1 = .ok (.getfield 15, 3) := by decide +kernel
theorem dX2_indexOf_4 : decode cX2_indexOf 4 = .ok (.iload_n 1, 1) := by decide +kernel
theorem dX2_indexOf_5 : decode cX2_indexOf 5 = .ok (.iadd, 1) := by decide +kernel
theorem dX2_indexOf_6 : decode cX2_indexOf 6 = .ok (.sipush 150, 3) := by decide +kernel
theorem dX2_indexOf_9 : decode cX2_indexOf 9 = .ok (.irem, 1) := by decide +kernel
theorem dX2_indexOf_10 : decode cX2_indexOf 10 = .ok (.bipush 6, 2) := by decide +kernel
theorem dX2_indexOf_12 : decode cX2_indexOf 12 = .ok (.imul, 1) := by decide +kernel
theorem dX2_indexOf_13 : decode cX2_indexOf 13 = .ok (.ireturn, 1) := by decide +kernel
theorem dX3_init_0 : decode cX3_init 0 = .ok (.aload_n 0, 1) := by decide +kernel
theorem dX3_init_1 : decode cX3_init 1 = .ok (.invokespecial 3, 3) := by decide +kernel
theorem dX3_init_4 : decode cX3_init 4 = .ok (.aload_n 0, 1) := by decide +kernel
theorem dX3_init_5 : decode cX3_init 5 = .ok (.bipush 6, 2) := by decide +kernel
theorem dX3_init_7 : decode cX3_init 7 = .ok (.newarray .int, 2) := by decide +kernel
theorem dX3_init_9 : decode cX3_init 9 = .ok (.putfield 9, 3) := by decide +kernel
theorem dX3_init_12 : decode cX3_init 12 = .ok (.aload_n 0, 1) := by decide +kernel
theorem dX3_init_13 : decode cX3_init 13 = .ok (.bipush 6, 2) := by decide +kernel
theorem dX3_init_15 : decode cX3_init 15 = .ok (.newarray .int, 2) := by decide +kernel
theorem dX3_init_17 : decode cX3_init 17 = .ok (.putfield 15, 3) := by decide +kernel
theorem dX3_init_20 : decode cX3_init 20 = .ok (.aload_n 0, 1) := by decide +kernel
theorem dX3_init_21 : decode cX3_init 21 = .ok (.bipush 6, 2) := by decide +kernel
theorem dX3_init_23 : decode cX3_init 23 = .ok (.newarray .int, 2) := by decide +kernel
theorem dX3_init_25 : decode cX3_init 25 = .ok (.putfield 18, 3) := by decide +kernel
theorem dX3_init_28 : decode cX3_init 28 = .ok (.aload_n 0, 1) := by decide +kernel
theorem dX3_init_29 : decode cX3_init 29 = .ok (.bipush 6, 2) := by decide +kernel
theorem dX3_init_31 : decode cX3_init 31 = .ok (.newarray .int, 2) := by decide +kernel
theorem dX3_init_33 : decode cX3_init 33 = .ok (.putfield 21, 3) := by decide +kernel
theorem dX3_init_36 : decode cX3_init 36 = .ok (.aload_n 0, 1) := by decide +kernel
theorem dX3_init_37 : decode cX3_init 37 = .ok (.iconst 2, 1) := by decide +kernel
theorem dX3_init_38 : decode cX3_init 38 = .ok (.newarray .int, 2) := by decide +kernel
theorem dX3_init_40 : decode cX3_init 40 = .ok (.putfield 24, 3) := by decide +kernel
theorem dX3_init_43 : decode cX3_init 43 = .ok (.aload_n 0, 1) := by decide +kernel
theorem dX3_init_44 : decode cX3_init 44 = .ok (.iconst 0, 1) := by decide +kernel
theorem dX3_init_45 : decode cX3_init 45 = .ok (.putfield 27, 3) := by decide +kernel
theorem dX3_init_48 : decode cX3_init 48 = .ok (.return_, 1) := by decide +kernel
theorem dX3_make_0 : decode cX3_make 0 = .ok (.aload_n 0, 1) := by decide +kernel
theorem dX3_make_1 : decode cX3_make 1 = .ok (.getfield 27, 3) := by decide +kernel
theorem dX3_make_4 : decode cX3_make 4 = .ok (.istore 5, 2) := by decide +kernel
theorem dX3_make_6 : decode cX3_make 6 = .ok (.aload_n 0, 1) := by decide +kernel
theorem dX3_make_7 : decode cX3_make 7 = .ok (.getfield 9, 3) := by decide +kernel
theorem dX3_make_10 : decode cX3_make 10 = .ok (.iload 5, 2) := by decide +kernel
theorem dX3_make_12 : decode cX3_make 12 = .ok (.iload_n 1, 1) := by decide +kernel
theorem dX3_make_13 : decode cX3_make 13 = .ok (.iastore, 1) := by decide +kernel
theorem dX3_make_14 : decode cX3_make 14 = .ok (.aload_n 0, 1) := by decide +kernel
theorem dX3_make_15 : decode cX3_make 15 = .ok (.getfield 15, 3) := by decide +kernel
theorem dX3_make_18 : decode cX3_make 18 = .ok (.iload 5, 2) := by decide +kernel
theorem dX3_make_20 : decode cX3_make 20 = .ok (.iload_n 2, 1) := by decide +kernel
theorem dX3_make_21 : decode cX3_make 21 = .ok (.iastore, 1) := by decide +kernel
theorem dX3_make_22 : decode cX3_make 22 = .ok (.aload_n 0, 1) := by decide +kernel
theorem dX3_make_23 : decode cX3_make 23 = .ok (.getfield 18, 3) := by decide +kernel
theorem dX3_make_26 : decode cX3_make 26 = .ok (.iload 5, 2) := by decide +kernel
theorem dX3_make_28 : decode cX3_make 28 = .ok (.iload_n 3, 1) := by decide +kernel
theorem dX3_make_29 : decode cX3_make 29 = .ok (.iastore, 1) := by decide +kernel
theorem dX3_make_30 : decode cX3_make 30 = .ok (.aload_n 0, 1) := by decide +kernel
theorem dX3_make_31 : decode cX3_make 31 = .ok (.getfield 21, 3) := by decide +kernel
theorem dX3_make_34 : decode cX3_make 34 = .ok (.iload 5, 2) := by decide +kernel
theorem dX3_make_36 : decode cX3_make 36 = .ok (.iload 4, 2) := by decide +kernel
theorem dX3_make_38 : decode cX3_make 38 = .ok (.iastore, 1) := by decide +kernel
theorem dX3_make_39 : decode cX3_make 39 = .ok (.aload_n 0, 1) := by decide +kernel
theorem dX3_make_40 : decode cX3_make 40 = .ok (.dup, 1) := by decide +kernel
theorem dX3_make_41 : decode cX3_make 41 = .ok (.getfield 27, 3) := by decide +kernel
theorem dX3_make_44 : decode cX3_make 44 = .ok (.iconst 1, 1) := by decide +kernel
theorem dX3_make_45 : decode cX3_make 45 = .ok (.iadd, 1) := by decide +kernel
theorem dX3_make_46 : decode cX3_make 46 = .ok (.putfield 27, 3) := by decide +kernel
theorem dX3_make_49 : decode cX3_make 49 = .ok (.iload 5, 2) := by decide +kernel
theorem dX3_make_51 : decode cX3_make 51 = .ok (.ireturn, 1) := by decide +kernel
theorem dX3_has_0 : decode cX3_has 0 = .ok (.iload_n 1, 1) := by decide +kernel
theorem dX3_has_1 : decode cX3_has 1 = .ok (.ifCond .lt 15, 3) := by decide +kernel
theorem dX3_has_4 : decode cX3_has 4 = .ok (.iload_n 1, 1) := by decide +kernel
theorem dX3_has_5 : decode cX3_has 5 = .ok (.aload_n 0, 1) := by decide +kernel
theorem dX3_has_6 : decode cX3_has 6 = .ok (.getfield 27, 3) := by decide +kernel
theorem dX3_has_9 : decode cX3_has 9 = .ok (.if_icmp .ge 7, 3) := by decide +kernel
theorem dX3_has_12 : decode cX3_has 12 = .ok (.iconst 1, 1) := by decide +kernel
theorem dX3_has_13 : decode cX3_has 13 = .ok (.goto 4, 3) := by decide +kernel
theorem dX3_has_16 : decode cX3_has 16 = .ok (.iconst 0, 1) := by decide +kernel
theorem dX3_has_17 : decode cX3_has 17 = .ok (.ireturn, 1) := by decide +kernel
theorem dX3_isList_0 : decode cX3_isList 0 = .ok (.aload_n 0, 1) := by decide +kernel
theorem dX3_isList_1 : decode cX3_isList 1 = .ok (.getfield 9, 3) := by decide +kernel
theorem dX3_isList_4 : decode cX3_isList 4 = .ok (.iload_n 1, 1) := by decide +kernel
theorem dX3_isList_5 : decode cX3_isList 5 = .ok (.iaload, 1) := by decide +kernel
theorem dX3_isList_6 : decode cX3_isList 6 = .ok (.iconst 1, 1) := by decide +kernel
theorem dX3_isList_7 : decode cX3_isList 7 = .ok (.if_icmp .ne 7, 3) := by decide +kernel
theorem dX3_isList_10 : decode cX3_isList 10 = .ok (.iconst 1, 1) := by decide +kernel
theorem dX3_isList_11 : decode cX3_isList 11 = .ok (.goto 4, 3) := by decide +kernel
theorem dX3_isList_14 : decode cX3_isList 14 = .ok (.iconst 0, 1) := by decide +kernel
theorem dX3_isList_15 : decode cX3_isList 15 = .ok (.ireturn, 1) := by decide +kernel
theorem dX3_isStampedByReads_0 : decode cX3_isStampedByReads 0 = .ok (.aload_n 0, 1) := by decide +kernel
theorem dX3_isStampedByReads_1 : decode cX3_isStampedByReads 1 = .ok (.getfield 21, 3) := by decide +kernel
theorem dX3_isStampedByReads_4 : decode cX3_isStampedByReads 4 = .ok (.iload_n 1, 1) := by decide +kernel
theorem dX3_isStampedByReads_5 : decode cX3_isStampedByReads 5 = .ok (.iaload, 1) := by decide +kernel
theorem dX3_isStampedByReads_6 : decode cX3_isStampedByReads 6 = .ok (.iconst 1, 1) := by decide +kernel
theorem dX3_isStampedByReads_7 : decode cX3_isStampedByReads 7 = .ok (.if_icmp .ne 7, 3) := by decide +kernel
theorem dX3_isStampedByReads_10 : decode cX3_isStampedByReads 10 = .ok (.iconst 1, 1) := by decide +kernel
theorem dX3_isStampedByReads_11 : decode cX3_isStampedByReads 11 = .ok (.goto 4, 3) := by decide +kernel
theorem dX3_isStampedByReads_14 : decode cX3_isStampedByReads 14 = .ok (.iconst 0, 1) := by decide +kernel
theorem dX3_isStampedByReads_15 : decode cX3_isStampedByReads 15 = .ok (.ireturn, 1) := by decide +kernel
theorem dX3_timeOf_0 : decode cX3_timeOf 0 = .ok (.aload_n 0, 1) := by decide +kernel
theorem dX3_timeOf_1 : decode cX3_timeOf 1 = .ok (.getfield 24, 3) := by decide +kernel
theorem dX3_timeOf_4 : decode cX3_timeOf 4 = .ok (.aload_n 0, 1) := by decide +kernel
theorem dX3_timeOf_5 : decode cX3_timeOf 5 = .ok (.getfield 15, 3) := by decide +kernel
theorem dX3_timeOf_8 : decode cX3_timeOf 8 = .ok (.iload_n 1, 1) := by decide +kernel
theorem dX3_timeOf_9 : decode cX3_timeOf 9 = .ok (.iaload, 1) := by decide +kernel
theorem dX3_timeOf_10 : decode cX3_timeOf 10 = .ok (.iaload, 1) := by decide +kernel
theorem dX3_timeOf_11 : decode cX3_timeOf 11 = .ok (.ireturn, 1) := by decide +kernel
set_option maxRecDepth 20000 in
theorem ggX4_init_X3_init : GoodIn wsX4_init wsX3_init := goodIn_r _ [22, 23, 2, 3, 24, 25, 26, 27, 28, 29, 30, 61, 62, 63, 64, 65, 66] (by decide +kernel) (by decide +kernel)
set_option maxRecDepth 20000 in
theorem gX4_init_X3_init_n11 : GoodIn wsX4_init (wsX3_init) := ggX4_init_X3_init
set_option maxRecDepth 20000 in
theorem ggX4_init_X1_init : GoodIn wsX4_init wsX1_init := goodIn_r _ [33, 34, 2, 3, 24, 35, 36, 37, 38, 39, 40, 41, 42, 43, 44, 72, 73, 74, 75, 76, 77] (by decide +kernel) (by decide +kernel)
set_option maxRecDepth 20000 in
theorem gX4_init_X1_init : GoodIn wsX4_init (wsX1_init) := ggX4_init_X1_init
set_option maxRecDepth 20000 in
theorem ggX4_init_X2_init : GoodIn wsX4_init wsX2_init := goodIn_r _ [46, 47, 2, 3, 24, 48, 49, 50, 51, 78, 79, 80, 81] (by decide +kernel) (by decide +kernel)
set_option maxRecDepth 20000 in
theorem gX4_init_X2_init_n25 : GoodIn wsX4_init (wsX2_init) := ggX4_init_X2_init
set_option maxRecDepth 20000 in
theorem ggX4_init_X0_init : GoodIn wsX4_init wsX0_init := goodIn_r _ [54, 55, 2, 3, 24, 56, 57, 58, 59, 60, 42, 43, 44, 82, 83, 84, 85] (by decide +kernel) (by decide +kernel)
set_option maxRecDepth 20000 in
theorem gX4_init_X0_init : GoodIn wsX4_init (wsX0_init) := ggX4_init_X0_init
theorem dX4_init_0 : decode cX4_init 0 = .ok (.aload_n 0, 1) := by decide +kernel
theorem dX4_init_1 : decode cX4_init 1 = .ok (.invokespecial 3, 3) := by decide +kernel
theorem dX4_init_4 : decode cX4_init 4 = .ok (.aload_n 0, 1) := by decide +kernel
theorem dX4_init_5 : decode cX4_init 5 = .ok (.new 9, 3) := by decide +kernel
theorem dX4_init_8 : decode cX4_init 8 = .ok (.dup, 1) := by decide +kernel
theorem dX4_init_9 : decode cX4_init 9 = .ok (.invokespecial 11, 3) := by decide +kernel
theorem dX4_init_12 : decode cX4_init 12 = .ok (.putfield 12, 3) := by decide +kernel
theorem dX4_init_15 : decode cX4_init 15 = .ok (.aload_n 0, 1) := by decide +kernel
theorem dX4_init_16 : decode cX4_init 16 = .ok (.new 16, 3) := by decide +kernel
theorem dX4_init_19 : decode cX4_init 19 = .ok (.dup, 1) := by decide +kernel
theorem dX4_init_20 : decode cX4_init 20 = .ok (.invokespecial 18, 3) := by decide +kernel
theorem dX4_init_23 : decode cX4_init 23 = .ok (.putfield 19, 3) := by decide +kernel
theorem dX4_init_26 : decode cX4_init 26 = .ok (.aload_n 0, 1) := by decide +kernel
theorem dX4_init_27 : decode cX4_init 27 = .ok (.new 23, 3) := by decide +kernel
theorem dX4_init_30 : decode cX4_init 30 = .ok (.dup, 1) := by decide +kernel
theorem dX4_init_31 : decode cX4_init 31 = .ok (.invokespecial 25, 3) := by decide +kernel
theorem dX4_init_34 : decode cX4_init 34 = .ok (.putfield 26, 3) := by decide +kernel
theorem dX4_init_37 : decode cX4_init 37 = .ok (.aload_n 0, 1) := by decide +kernel
theorem dX4_init_38 : decode cX4_init 38 = .ok (.new 30, 3) := by decide +kernel
theorem dX4_init_41 : decode cX4_init 41 = .ok (.dup, 1) := by decide +kernel
theorem dX4_init_42 : decode cX4_init 42 = .ok (.invokespecial 32, 3) := by decide +kernel
theorem dX4_init_45 : decode cX4_init 45 = .ok (.putfield 33, 3) := by decide +kernel
theorem dX4_init_48 : decode cX4_init 48 = .ok (.aload_n 0, 1) := by decide +kernel
theorem dX4_init_49 : decode cX4_init 49 = .ok (.iconst 0, 1) := by decide +kernel
theorem dX4_init_50 : decode cX4_init 50 = .ok (.putfield 37, 3) := by decide +kernel
theorem dX4_init_53 : decode cX4_init 53 = .ok (.return_, 1) := by decide +kernel
set_option maxRecDepth 20000 in
theorem ggX4_state_X4_isZeroOrOne : GoodIn wsX4_state wsX4_isZeroOrOne := goodIn_r _ [6] (by decide +kernel) (by decide +kernel)
set_option maxRecDepth 20000 in
theorem gX4_state_X4_isZeroOrOne : GoodIn wsX4_state (va_wsS RX4 41 yX4_isZeroOrOne wsX4_isZeroOrOne) := goodIn_app (goodIn_of _ (by decide +kernel)) ggX4_state_X4_isZeroOrOne
set_option maxRecDepth 20000 in
theorem ggX4_state_X4_isSpan : GoodIn wsX4_state wsX4_isSpan := goodIn_r _ [9, 10] (by decide +kernel) (by decide +kernel)
set_option maxRecDepth 20000 in
theorem gX4_state_X4_isSpan : GoodIn wsX4_state (va_wsS RX4 45 yX4_isSpan wsX4_isSpan) := goodIn_app (goodIn_of _ (by decide +kernel)) ggX4_state_X4_isSpan
set_option maxRecDepth 20000 in
theorem ggX4_state_X3_make : GoodIn wsX4_state wsX3_make := goodIn_r _ [15, 16, 17, 18, 19, 20, 26, 27, 28, 29, 30, 31] (by decide +kernel) (by decide +kernel)
set_option maxRecDepth 20000 in
theorem gX4_state_X3_make : GoodIn wsX4_state (wsV RX4 51 RX3 yX3_make wsX3_make) := goodIn_app (goodIn_of _ (by decide +kernel)) ggX4_state_X3_make
theorem dX4_state_0 : decode cX4_state 0 = .ok (.iload_n 1, 1) := by decide +kernel
theorem dX4_state_1 : decode cX4_state 1 = .ok (.invokestatic 41, 3) := by decide +kernel
theorem dX4_state_4 : decode cX4_state 4 = .ok (.ifCond .eq 25, 3) := by decide +kernel
theorem dX4_state_7 : decode cX4_state 7 = .ok (.iload_n 2, 1) := by decide +kernel
theorem dX4_state_8 : decode cX4_state 8 = .ok (.invokestatic 41, 3) := by decide +kernel
theorem dX4_state_11 : decode cX4_state 11 = .ok (.ifCond .eq 18, 3) := by decide +kernel
theorem dX4_state_14 : decode cX4_state 14 = .ok (.iload 4, 2) := by decide +kernel
theorem dX4_state_16 : decode cX4_state 16 = .ok (.invokestatic 41, 3) := by decide +kernel
theorem dX4_state_19 : decode cX4_state 19 = .ok (.ifCond .eq 10, 3) := by decide +kernel
theorem dX4_state_22 : decode cX4_state 22 = .ok (.iload_n 3, 1) := by decide +kernel
theorem dX4_state_23 : decode cX4_state 23 = .ok (.invokestatic 45, 3) := by decide +kernel
theorem dX4_state_26 : decode cX4_state 26 = .ok (.ifCond .ne 5, 3) := by decide +kernel
theorem dX4_state_29 : decode cX4_state 29 = .ok (.iconst (-1), 1) := by decide +kernel
theorem dX4_state_30 : decode cX4_state 30 = .ok (.ireturn, 1) := by decide +kernel
theorem dX4_state_31 : decode cX4_state 31 = .ok (.aload_n 0, 1) := by decide +kernel
theorem dX4_state_32 : decode cX4_state 32 = .ok (.getfield 12, 3) := by decide +kernel
theorem dX4_state_35 : decode cX4_state 35 = .ok (.getfield 48, 3) := by decide +kernel
theorem dX4_state_38 : decode cX4_state 38 = .ok (.bipush 6, 2) := by decide +kernel
theorem dX4_state_40 : decode cX4_state 40 = .ok (.if_icmp .lt 6, 3) := by decide +kernel
theorem dX4_state_43 : decode cX4_state 43 = .ok (.bipush (-3), 2) := by decide +kernel
theorem dX4_state_45 : decode cX4_state 45 = .ok (.ireturn, 1) := by decide +kernel
theorem dX4_state_46 : decode cX4_state 46 = .ok (.aload_n 0, 1) := by decide +kernel
theorem dX4_state_47 : decode cX4_state 47 = .ok (.getfield 12, 3) := by decide +kernel
theorem dX4_state_50 : decode cX4_state 50 = .ok (.iload_n 1, 1) := by decide +kernel
theorem dX4_state_51 : decode cX4_state 51 = .ok (.iload_n 2, 1) := by decide +kernel
theorem dX4_state_52 : decode cX4_state 52 = .ok (.iload_n 3, 1) := by decide +kernel
theorem dX4_state_53 : decode cX4_state 53 = .ok (.iload 4, 2) := by decide +kernel
theorem dX4_state_55 : decode cX4_state 55 = .ok (.invokevirtual 51, 3) := by decide +kernel
theorem dX4_state_58 : decode cX4_state 58 = .ok (.ireturn, 1) := by decide +kernel
set_option maxRecDepth 20000 in
theorem ggX4_put_X4_isNumberFor : GoodIn wsX4_put wsX4_isNumberFor := goodIn_r _ [5, 6, 7, 8, 9, 4, 10, 11, 12, 13, 14, 15, 16, 17, 18, 19, 20, 21, 22, 23, 24, 113, 114, 115, 116, 117, 118, 119, 120, 121, 122, 123] (by decide +kernel) (by decide +kernel)
set_option maxRecDepth 20000 in
theorem gX4_put_X4_isNumberFor : GoodIn wsX4_put (wsV RX4 55 RX4 yX4_isNumberFor wsX4_isNumberFor) := goodIn_app (goodIn_of _ (by decide +kernel)) ggX4_put_X4_isNumberFor
end
section
set_option maxRecDepth 20000 in
theorem ggX4_put_X4_slotOf : GoodIn wsX4_put wsX4_slotOf := goodIn_r _ [27] (by decide +kernel) (by decide +kernel)
set_option maxRecDepth 20000 in
theorem gX4_put_X4_slotOf : GoodIn wsX4_put (va_wsS RX4 59 yX4_slotOf wsX4_slotOf) := goodIn_app (goodIn_of _ (by decide +kernel)) ggX4_put_X4_slotOf
set_option maxRecDepth 20000 in
theorem ggX4_put_X4_placeOf : GoodIn wsX4_put wsX4_placeOf := goodIn_r _ [31, 32, 33, 34, 35, 36, 37, 38, 4, 39, 40, 41, 42, 43, 44, 6, 45, 46, 47, 48, 49, 50, 51, 52, 53, 14, 54, 55, 56, 113, 114, 115, 116, 117, 124, 125, 126, 127, 128, 129, 118, 119, 120, 121, 122, 123] (by decide +kernel) (by decide +kernel)
set_option maxRecDepth 20000 in
theorem gX4_put_X4_placeOf : GoodIn wsX4_put (wsV RX4 63 RX4 yX4_placeOf wsX4_placeOf) := goodIn_app (goodIn_of _ (by decide +kernel)) ggX4_put_X4_placeOf
set_option maxRecDepth 20000 in
theorem ggX4_put_X4_bring : GoodIn wsX4_put wsX4_bring := goodIn_r _ [60, 32, 61, 62, 63, 48, 64, 65, 66, 67, 68, 50, 69, 70, 71, 72, 73, 74, 75, 76, 77, 4, 78, 79, 6, 80, 45, 46, 47, 49, 81, 82, 83, 84, 85, 44, 51, 52, 53, 14, 54, 55, 56, 113, 114, 115, 116, 117, 124, 125, 126, 127, 128, 129, 118, 119, 120, 121, 122, 123] (by decide +kernel) (by decide +kernel)
set_option maxRecDepth 20000 in
theorem gX4_put_X4_bring : GoodIn wsX4_put (wsV RX4 67 RX4 yX4_bring wsX4_bring) := goodIn_app (goodIn_of _ (by decide +kernel)) ggX4_put_X4_bring
set_option maxRecDepth 20000 in
theorem ggX4_put_X4_isShown : GoodIn wsX4_put wsX4_isShown := goodIn_r _ [39, 40, 41, 42, 4, 43, 32, 44, 6, 45, 46, 47, 48, 49, 50, 51, 52, 53, 14, 54, 55, 56, 113, 114, 115, 116, 117, 124, 125, 126, 127, 128, 129, 118, 119, 120, 121, 122, 123] (by decide +kernel) (by decide +kernel)
set_option maxRecDepth 20000 in
theorem gX4_put_X4_isShown : GoodIn wsX4_put (wsV RX4 71 RX4 yX4_isShown wsX4_isShown) := goodIn_app (goodIn_of _ (by decide +kernel)) ggX4_put_X4_isShown
set_option maxRecDepth 20000 in
theorem ggX4_put_X4_tell : GoodIn wsX4_put wsX4_tell := goodIn_r _ [89, 90, 91, 32, 79, 44, 6, 92, 93, 94, 95, 96, 97, 98, 99, 100, 101, 102, 103, 104, 45, 46, 47, 48, 49, 50, 105, 106, 107, 108, 109, 110, 111, 112, 113, 114, 115, 116, 117, 130, 131, 132, 133, 124, 125, 126, 127, 128, 129, 118, 119, 120, 121, 122, 123] (by decide +kernel) (by decide +kernel)
set_option maxRecDepth 20000 in
theorem gX4_put_X4_tell : GoodIn wsX4_put (wsV RX4 74 RX4 yX4_tell wsX4_tell) := goodIn_app (goodIn_of _ (by decide +kernel)) ggX4_put_X4_tell
set_option maxRecDepth 20000 in
theorem ggX4_put_X4_write : GoodIn wsX4_put wsX4_write := goodIn_r _ [78, 32, 79, 6, 80, 45, 46, 47, 48, 49, 50, 81, 82, 83, 4, 84, 85, 44, 51, 52, 53, 14, 54, 55, 56, 113, 114, 115, 116, 117, 124, 125, 126, 127, 128, 129, 118, 119, 120, 121, 122, 123] (by decide +kernel) (by decide +kernel)
set_option maxRecDepth 20000 in
theorem gX4_put_X4_write : GoodIn wsX4_put (wsV RX4 78 RX4 yX4_write wsX4_write) := goodIn_app (goodIn_of _ (by decide +kernel)) ggX4_put_X4_write
theorem dX4_put_0 : decode cX4_put 0 = .ok (.aload_n 0, 1) := by decide +kernel
theorem dX4_put_1 : decode cX4_put 1 = .ok (.iload_n 1, 1) := by decide +kernel
theorem dX4_put_2 : decode cX4_put 2 = .ok (.iload_n 2, 1) := by decide +kernel
theorem dX4_put_3 : decode cX4_put 3 = .ok (.iload_n 3, 1) := by decide +kernel
theorem dX4_put_4 : decode cX4_put 4 = .ok (.invokevirtual 55, 3) := by decide +kernel
theorem dX4_put_7 : decode cX4_put 7 = .ok (.ifCond .ne 5, 3) := by decide +kernel
theorem dX4_put_10 : decode cX4_put 10 = .ok (.iconst (-1), 1) := by decide +kernel
theorem dX4_put_11 : decode cX4_put 11 = .ok (.ireturn, 1) := by decide +kernel
theorem dX4_put_12 : decode cX4_put 12 = .ok (.iload_n 1, 1) := by decide +kernel
theorem dX4_put_13 : decode cX4_put 13 = .ok (.iload_n 2, 1) := by decide +kernel
theorem dX4_put_14 : decode cX4_put 14 = .ok (.iload_n 3, 1) := by decide +kernel
theorem dX4_put_15 : decode cX4_put 15 = .ok (.invokestatic 59, 3) := by decide +kernel
theorem dX4_put_18 : decode cX4_put 18 = .ok (.istore 5, 2) := by decide +kernel
theorem dX4_put_20 : decode cX4_put 20 = .ok (.aload_n 0, 1) := by decide +kernel
theorem dX4_put_21 : decode cX4_put 21 = .ok (.iload 5, 2) := by decide +kernel
theorem dX4_put_23 : decode cX4_put 23 = .ok (.iconst 0, 1) := by decide +kernel
theorem dX4_put_24 : decode cX4_put 24 = .ok (.iconst 1, 1) := by decide +kernel
theorem dX4_put_25 : decode cX4_put 25 = .ok (.invokevirtual 63, 3) := by decide +kernel
theorem dX4_put_28 : decode cX4_put 28 = .ok (.istore 6, 2) := by decide +kernel
theorem dX4_put_30 : decode cX4_put 30 = .ok (.iload 6, 2) := by decide +kernel
theorem dX4_put_32 : decode cX4_put 32 = .ok (.iconst (-1), 1) := by decide +kernel
theorem dX4_put_33 : decode cX4_put 33 = .ok (.if_icmp .ne 21, 3) := by decide +kernel
theorem dX4_put_36 : decode cX4_put 36 = .ok (.aload_n 0, 1) := by decide +kernel
theorem dX4_put_37 : decode cX4_put 37 = .ok (.iload 5, 2) := by decide +kernel
theorem dX4_put_39 : decode cX4_put 39 = .ok (.iload 4, 2) := by decide +kernel
theorem dX4_put_41 : decode cX4_put 41 = .ok (.invokevirtual 67, 3) := by decide +kernel
theorem dX4_put_44 : decode cX4_put 44 = .ok (.ifCond .eq 7, 3) := by decide +kernel
theorem dX4_put_47 : decode cX4_put 47 = .ok (.iconst 0, 1) := by decide +kernel
theorem dX4_put_48 : decode cX4_put 48 = .ok (.goto 5, 3) := by decide +kernel
theorem dX4_put_51 : decode cX4_put 51 = .ok (.bipush (-3), 2) := by decide +kernel
theorem dX4_put_53 : decode cX4_put 53 = .ok (.ireturn, 1) := by decide +kernel
theorem dX4_put_54 : decode cX4_put 54 = .ok (.aload_n 0, 1) := by decide +kernel
theorem dX4_put_55 : decode cX4_put 55 = .ok (.iload 6, 2) := by decide +kernel
theorem dX4_put_57 : decode cX4_put 57 = .ok (.invokevirtual 71, 3) := by decide +kernel
theorem dX4_put_60 : decode cX4_put 60 = .ok (.istore 7, 2) := by decide +kernel
theorem dX4_put_62 : decode cX4_put 62 = .ok (.iload 7, 2) := by decide +kernel
theorem dX4_put_64 : decode cX4_put 64 = .ok (.ifCond .ne 9, 3) := by decide +kernel
theorem dX4_put_67 : decode cX4_put 67 = .ok (.aload_n 0, 1) := by decide +kernel
theorem dX4_put_68 : decode cX4_put 68 = .ok (.iload 6, 2) := by decide +kernel
theorem dX4_put_70 : decode cX4_put 70 = .ok (.invokevirtual 74, 3) := by decide +kernel
theorem dX4_put_73 : decode cX4_put 73 = .ok (.aload_n 0, 1) := by decide +kernel
theorem dX4_put_74 : decode cX4_put 74 = .ok (.iload 6, 2) := by decide +kernel
theorem dX4_put_76 : decode cX4_put 76 = .ok (.iload 4, 2) := by decide +kernel
theorem dX4_put_78 : decode cX4_put 78 = .ok (.invokevirtual 78, 3) := by decide +kernel
theorem dX4_put_81 : decode cX4_put 81 = .ok (.iload 7, 2) := by decide +kernel
theorem dX4_put_83 : decode cX4_put 83 = .ok (.ifCond .eq 7, 3) := by decide +kernel
theorem dX4_put_86 : decode cX4_put 86 = .ok (.iconst 1, 1) := by decide +kernel
theorem dX4_put_87 : decode cX4_put 87 = .ok (.goto 4, 3) := by decide +kernel
theorem dX4_put_90 : decode cX4_put 90 = .ok (.iconst 0, 1) := by decide +kernel
theorem dX4_put_91 : decode cX4_put 91 = .ok (.ireturn, 1) := by decide +kernel
set_option maxRecDepth 20000 in
theorem ggX4_get_X4_isNumberFor : GoodIn wsX4_get wsX4_isNumberFor := goodIn_r _ [5, 6, 7, 8, 9, 4, 10, 11, 12, 13, 14, 15, 16, 17, 18, 19, 20, 21, 22, 23, 24, 74, 75, 76, 77, 78, 79, 80, 81, 82, 83, 84] (by decide +kernel) (by decide +kernel)
set_option maxRecDepth 20000 in
theorem gX4_get_X4_isNumberFor : GoodIn wsX4_get (wsV RX4 55 RX4 yX4_isNumberFor wsX4_isNumberFor) := goodIn_app (goodIn_of _ (by decide +kernel)) ggX4_get_X4_isNumberFor
set_option maxRecDepth 20000 in
theorem ggX4_get_X4_slotOf : GoodIn wsX4_get wsX4_slotOf := goodIn_r _ [27] (by decide +kernel) (by decide +kernel)
set_option maxRecDepth 20000 in
theorem gX4_get_X4_slotOf : GoodIn wsX4_get (va_wsS RX4 59 yX4_slotOf wsX4_slotOf) := goodIn_app (goodIn_of _ (by decide +kernel)) ggX4_get_X4_slotOf
set_option maxRecDepth 20000 in
theorem ggX4_get_X4_placeOf : GoodIn wsX4_get wsX4_placeOf := goodIn_r _ [31, 32, 33, 34, 35, 36, 37, 38, 4, 39, 40, 41, 42, 43, 44, 6, 45, 46, 47, 48, 49, 50, 51, 52, 53, 14, 54, 55, 56, 74, 75, 76, 77, 78, 85, 86, 87, 88, 89, 90, 79, 80, 81, 82, 83, 84] (by decide +kernel) (by decide +kernel)
set_option maxRecDepth 20000 in
theorem gX4_get_X4_placeOf : GoodIn wsX4_get (wsV RX4 63 RX4 yX4_placeOf wsX4_placeOf) := goodIn_app (goodIn_of _ (by decide +kernel)) ggX4_get_X4_placeOf
set_option maxRecDepth 20000 in
theorem ggX4_get_X4_read : GoodIn wsX4_get wsX4_read := goodIn_r _ [60, 61, 32, 6, 62, 63, 45, 46, 47, 48, 49, 50, 64, 65, 66, 14, 67, 68, 69, 70, 71, 4, 72, 73, 44, 51, 52, 53, 54, 55, 56, 74, 75, 76, 77, 78, 79, 80, 81, 82, 83, 84, 85, 86, 87, 88, 89, 90] (by decide +kernel) (by decide +kernel)
set_option maxRecDepth 20000 in
theorem gX4_get_X4_read : GoodIn wsX4_get (wsV RX4 82 RX4 yX4_read wsX4_read) := goodIn_app (goodIn_of _ (by decide +kernel)) ggX4_get_X4_read
theorem dX4_get_0 : decode cX4_get 0 = .ok (.aload_n 0, 1) := by decide +kernel
theorem dX4_get_1 : decode cX4_get 1 = .ok (.iload_n 1, 1) := by decide +kernel
theorem dX4_get_2 : decode cX4_get 2 = .ok (.iload_n 2, 1) := by decide +kernel
theorem dX4_get_3 : decode cX4_get 3 = .ok (.iload_n 3, 1) := by decide +kernel
theorem dX4_get_4 : decode cX4_get 4 = .ok (.invokevirtual 55, 3) := by decide +kernel
theorem dX4_get_7 : decode cX4_get 7 = .ok (.ifCond .ne 5, 3) := by decide +kernel
theorem dX4_get_10 : decode cX4_get 10 = .ok (.iconst (-1), 1) := by decide +kernel
theorem dX4_get_11 : decode cX4_get 11 = .ok (.ireturn, 1) := by decide +kernel
theorem dX4_get_12 : decode cX4_get 12 = .ok (.aload_n 0, 1) := by decide +kernel
theorem dX4_get_13 : decode cX4_get 13 = .ok (.aload_n 0, 1) := by decide +kernel
theorem dX4_get_14 : decode cX4_get 14 = .ok (.iload_n 1, 1) := by decide +kernel
theorem dX4_get_15 : decode cX4_get 15 = .ok (.iload_n 2, 1) := by decide +kernel
theorem dX4_get_16 : decode cX4_get 16 = .ok (.iload_n 3, 1) := by decide +kernel
theorem dX4_get_17 : decode cX4_get 17 = .ok (.invokestatic 59, 3) := by decide +kernel
theorem dX4_get_20 : decode cX4_get 20 = .ok (.iconst 0, 1) := by decide +kernel
theorem dX4_get_21 : decode cX4_get 21 = .ok (.iconst 0, 1) := by decide +kernel
theorem dX4_get_22 : decode cX4_get 22 = .ok (.invokevirtual 63, 3) := by decide +kernel
theorem dX4_get_25 : decode cX4_get 25 = .ok (.invokevirtual 82, 3) := by decide +kernel
theorem dX4_get_28 : decode cX4_get 28 = .ok (.ireturn, 1) := by decide +kernel
set_option maxRecDepth 20000 in
theorem ggX4_remove_X4_isNumberFor : GoodIn wsX4_remove wsX4_isNumberFor := goodIn_r _ [6, 7, 8, 9, 10, 5, 11, 12, 13, 14, 15, 16, 17, 18, 19, 20, 21, 22, 23, 24, 25, 63, 64, 65, 66, 67, 68, 69, 70, 71, 72, 73] (by decide +kernel) (by decide +kernel)
set_option maxRecDepth 20000 in
theorem gX4_remove_X4_isNumberFor : GoodIn wsX4_remove (wsV RX4 55 RX4 yX4_isNumberFor wsX4_isNumberFor) := goodIn_app (goodIn_of _ (by decide +kernel)) ggX4_remove_X4_isNumberFor
set_option maxRecDepth 20000 in
theorem ggX4_remove_X4_slotOf : GoodIn wsX4_remove wsX4_slotOf := goodIn_r _ [28] (by decide +kernel) (by decide +kernel)
set_option maxRecDepth 20000 in
theorem gX4_remove_X4_slotOf : GoodIn wsX4_remove (va_wsS RX4 59 yX4_slotOf wsX4_slotOf) := goodIn_app (goodIn_of _ (by decide +kernel)) ggX4_remove_X4_slotOf
set_option maxRecDepth 20000 in
theorem ggX4_remove_X4_placeOf : GoodIn wsX4_remove wsX4_placeOf := goodIn_r _ [32, 1, 33, 34, 35, 36, 37, 38, 5, 39, 40, 41, 42, 43, 44, 7, 45, 46, 47, 48, 49, 50, 51, 52, 53, 15, 54, 55, 56, 63, 64, 65, 66, 67, 74, 75, 76, 77, 78, 79, 68, 69, 70, 71, 72, 73] (by decide +kernel) (by decide +kernel)
set_option maxRecDepth 20000 in
theorem gX4_remove_X4_placeOf : GoodIn wsX4_remove (wsV RX4 63 RX4 yX4_placeOf wsX4_placeOf) := goodIn_app (goodIn_of _ (by decide +kernel)) ggX4_remove_X4_placeOf
set_option maxRecDepth 20000 in
theorem ggX4_remove_X4_isShown : GoodIn wsX4_remove wsX4_isShown := goodIn_r _ [39, 40, 41, 42, 5, 43, 1, 44, 7, 45, 46, 47, 48, 49, 50, 51, 52, 53, 15, 54, 55, 56, 63, 64, 65, 66, 67, 74, 75, 76, 77, 78, 79, 68, 69, 70, 71, 72, 73] (by decide +kernel) (by decide +kernel)
set_option maxRecDepth 20000 in
theorem gX4_remove_X4_isShown : GoodIn wsX4_remove (wsV RX4 71 RX4 yX4_isShown wsX4_isShown) := goodIn_app (goodIn_of _ (by decide +kernel)) ggX4_remove_X4_isShown
set_option maxRecDepth 20000 in
theorem ggX4_remove_X1_vacate : GoodIn wsX4_remove wsX1_vacate := goodIn_r _ [60, 50, 61, 62, 74, 75, 76, 77, 78, 79] (by decide +kernel) (by decide +kernel)
set_option maxRecDepth 20000 in
theorem gX4_remove_X1_vacate : GoodIn wsX4_remove (wsV RX4 86 RX1 yX1_vacate wsX1_vacate) := goodIn_app (goodIn_of _ (by decide +kernel)) ggX4_remove_X1_vacate
theorem dX4_remove_0 : decode cX4_remove 0 = .ok (.aload_n 0, 1) := by decide +kernel
theorem dX4_remove_1 : decode cX4_remove 1 = .ok (.iload_n 1, 1) := by decide +kernel
theorem dX4_remove_2 : decode cX4_remove 2 = .ok (.iload_n 2, 1) := by decide +kernel
theorem dX4_remove_3 : decode cX4_remove 3 = .ok (.iload_n 3, 1) := by decide +kernel
theorem dX4_remove_4 : decode cX4_remove 4 = .ok (.invokevirtual 55, 3) := by decide +kernel
theorem dX4_remove_7 : decode cX4_remove 7 = .ok (.ifCond .ne 5, 3) := by decide +kernel
theorem dX4_remove_10 : decode cX4_remove 10 = .ok (.iconst (-1), 1) := by decide +kernel
theorem dX4_remove_11 : decode cX4_remove 11 = .ok (.ireturn, 1) := by decide +kernel
theorem dX4_remove_12 : decode cX4_remove 12 = .ok (.aload_n 0, 1) := by decide +kernel
theorem dX4_remove_13 : decode cX4_remove 13 = .ok (.iload_n 1, 1) := by decide +kernel
theorem dX4_remove_14 : decode cX4_remove 14 = .ok (.iload_n 2, 1) := by decide +kernel
theorem dX4_remove_15 : decode cX4_remove 15 = .ok (.iload_n 3, 1) := by decide +kernel
theorem dX4_remove_16 : decode cX4_remove 16 = .ok (.invokestatic 59, 3) := by decide +kernel
theorem dX4_remove_19 : decode cX4_remove 19 = .ok (.iconst 0, 1) := by decide +kernel
theorem dX4_remove_20 : decode cX4_remove 20 = .ok (.iconst 1, 1) := by decide +kernel
theorem dX4_remove_21 : decode cX4_remove 21 = .ok (.invokevirtual 63, 3) := by decide +kernel
theorem dX4_remove_24 : decode cX4_remove 24 = .ok (.istore 4, 2) := by decide +kernel
theorem dX4_remove_26 : decode cX4_remove 26 = .ok (.iload 4, 2) := by decide +kernel
theorem dX4_remove_28 : decode cX4_remove 28 = .ok (.iconst (-1), 1) := by decide +kernel
theorem dX4_remove_29 : decode cX4_remove 29 = .ok (.if_icmp .ne 6, 3) := by decide +kernel
theorem dX4_remove_32 : decode cX4_remove 32 = .ok (.bipush (-2), 2) := by decide +kernel
theorem dX4_remove_34 : decode cX4_remove 34 = .ok (.ireturn, 1) := by decide +kernel
theorem dX4_remove_35 : decode cX4_remove 35 = .ok (.aload_n 0, 1) := by decide +kernel
theorem dX4_remove_36 : decode cX4_remove 36 = .ok (.iload 4, 2) := by decide +kernel
theorem dX4_remove_38 : decode cX4_remove 38 = .ok (.invokevirtual 71, 3) := by decide +kernel
theorem dX4_remove_41 : decode cX4_remove 41 = .ok (.istore 5, 2) := by decide +kernel
theorem dX4_remove_43 : decode cX4_remove 43 = .ok (.aload_n 0, 1) := by decide +kernel
theorem dX4_remove_44 : decode cX4_remove 44 = .ok (.getfield 19, 3) := by decide +kernel
theorem dX4_remove_47 : decode cX4_remove 47 = .ok (.iload 4, 2) := by decide +kernel
theorem dX4_remove_49 : decode cX4_remove 49 = .ok (.invokevirtual 86, 3) := by decide +kernel
theorem dX4_remove_52 : decode cX4_remove 52 = .ok (.iload 5, 2) := by decide +kernel
theorem dX4_remove_54 : decode cX4_remove 54 = .ok (.ifCond .eq 7, 3) := by decide +kernel
theorem dX4_remove_57 : decode cX4_remove 57 = .ok (.iconst 1, 1) := by decide +kernel
theorem dX4_remove_58 : decode cX4_remove 58 = .ok (.goto 4, 3) := by decide +kernel
theorem dX4_remove_61 : decode cX4_remove 61 = .ok (.iconst 0, 1) := by decide +kernel
theorem dX4_remove_62 : decode cX4_remove 62 = .ok (.ireturn, 1) := by decide +kernel
set_option maxRecDepth 20000 in
theorem ggX4_add_X4_isListFor : GoodIn wsX4_add wsX4_isListFor := goodIn_r _ [5, 6, 7, 8, 9, 4, 10, 11, 12, 13, 14, 15, 16, 17, 18, 19, 20, 21, 90, 91, 92, 93, 94, 95, 96, 97, 98, 99, 100] (by decide +kernel) (by decide +kernel)
set_option maxRecDepth 20000 in
theorem gX4_add_X4_isListFor : GoodIn wsX4_add (wsV RX4 89 RX4 yX4_isListFor wsX4_isListFor) := goodIn_app (goodIn_of _ (by decide +kernel)) ggX4_add_X4_isListFor
set_option maxRecDepth 20000 in
theorem ggX4_add_X4_slotOf : GoodIn wsX4_add wsX4_slotOf := goodIn_r _ [24] (by decide +kernel) (by decide +kernel)
set_option maxRecDepth 20000 in
theorem gX4_add_X4_slotOf : GoodIn wsX4_add (va_wsS RX4 59 yX4_slotOf wsX4_slotOf) := goodIn_app (goodIn_of _ (by decide +kernel)) ggX4_add_X4_slotOf
set_option maxRecDepth 20000 in
theorem ggX4_add_X4_bring : GoodIn wsX4_add wsX4_bring := goodIn_r _ [28, 29, 30, 31, 32, 33, 34, 35, 36, 37, 38, 39, 40, 41, 42, 43, 44, 45, 46, 47, 48, 4, 49, 50, 6, 51, 52, 53, 54, 55, 56, 57, 58, 59, 60, 61, 62, 63, 64, 14, 65, 66, 67, 90, 91, 92, 93, 94, 101, 102, 103, 104, 105, 106, 95, 96, 97, 98, 99, 100] (by decide +kernel) (by decide +kernel)
set_option maxRecDepth 20000 in
theorem gX4_add_X4_bring : GoodIn wsX4_add (wsV RX4 67 RX4 yX4_bring wsX4_bring) := goodIn_app (goodIn_of _ (by decide +kernel)) ggX4_add_X4_bring
set_option maxRecDepth 20000 in
theorem ggX4_add_X4_howMany : GoodIn wsX4_add wsX4_howMany := goodIn_r _ [71, 29, 72, 73, 74, 75, 76, 4, 77, 52, 53, 54, 33, 55, 39, 78, 79, 80, 81, 82, 83, 84, 85, 86, 87, 88, 89, 61, 6, 62, 63, 64, 14, 65, 66, 67, 90, 91, 92, 93, 94, 101, 102, 103, 104, 105, 106, 95, 96, 97, 98, 99, 100] (by decide +kernel) (by decide +kernel)
set_option maxRecDepth 20000 in
theorem gX4_add_X4_howMany : GoodIn wsX4_add (wsV RX4 92 RX4 yX4_howMany wsX4_howMany) := goodIn_app (goodIn_of _ (by decide +kernel)) ggX4_add_X4_howMany
theorem dX4_add_0 : decode cX4_add 0 = .ok (.aload_n 0, 1) := by decide +kernel
theorem dX4_add_1 : decode cX4_add 1 = .ok (.iload_n 1, 1) := by decide +kernel
theorem dX4_add_2 : decode cX4_add 2 = .ok (.iload_n 2, 1) := by decide +kernel
theorem dX4_add_3 : decode cX4_add 3 = .ok (.invokevirtual 89, 3) := by decide +kernel
theorem dX4_add_6 : decode cX4_add 6 = .ok (.ifCond .ne 5, 3) := by decide +kernel
theorem dX4_add_9 : decode cX4_add 9 = .ok (.iconst (-1), 1) := by decide +kernel
theorem dX4_add_10 : decode cX4_add 10 = .ok (.ireturn, 1) := by decide +kernel
theorem dX4_add_11 : decode cX4_add 11 = .ok (.aload_n 0, 1) := by decide +kernel
theorem dX4_add_12 : decode cX4_add 12 = .ok (.iload_n 1, 1) := by decide +kernel
theorem dX4_add_13 : decode cX4_add 13 = .ok (.iload_n 2, 1) := by decide +kernel
theorem dX4_add_14 : decode cX4_add 14 = .ok (.iconst 0, 1) := by decide +kernel
theorem dX4_add_15 : decode cX4_add 15 = .ok (.invokestatic 59, 3) := by decide +kernel
theorem dX4_add_18 : decode cX4_add 18 = .ok (.iload_n 3, 1) := by decide +kernel
theorem dX4_add_19 : decode cX4_add 19 = .ok (.invokevirtual 67, 3) := by decide +kernel
theorem dX4_add_22 : decode cX4_add 22 = .ok (.ifCond .ne 6, 3) := by decide +kernel
theorem dX4_add_25 : decode cX4_add 25 = .ok (.bipush (-3), 2) := by decide +kernel
theorem dX4_add_27 : decode cX4_add 27 = .ok (.ireturn, 1) := by decide +kernel
theorem dX4_add_28 : decode cX4_add 28 = .ok (.aload_n 0, 1) := by decide +kernel
theorem dX4_add_29 : decode cX4_add 29 = .ok (.iload_n 1, 1) := by decide +kernel
theorem dX4_add_30 : decode cX4_add 30 = .ok (.iload_n 2, 1) := by decide +kernel
theorem dX4_add_31 : decode cX4_add 31 = .ok (.iconst 1, 1) := by decide +kernel
theorem dX4_add_32 : decode cX4_add 32 = .ok (.invokevirtual 92, 3) := by decide +kernel
theorem dX4_add_35 : decode cX4_add 35 = .ok (.ireturn, 1) := by decide +kernel
set_option maxRecDepth 20000 in
theorem ggX4_at_X4_isListFor : GoodIn wsX4_at wsX4_isListFor := goodIn_r _ [5, 6, 7, 8, 9, 4, 10, 11, 12, 13, 14, 15, 16, 17, 18, 19, 20, 21, 71, 72, 73, 74, 75, 76, 77, 78, 79, 80, 81] (by decide +kernel) (by decide +kernel)
set_option maxRecDepth 20000 in
theorem gX4_at_X4_isListFor : GoodIn wsX4_at (wsV RX4 89 RX4 yX4_isListFor wsX4_isListFor) := goodIn_app (goodIn_of _ (by decide +kernel)) ggX4_at_X4_isListFor
set_option maxRecDepth 20000 in
theorem ggX4_at_X4_slotOf : GoodIn wsX4_at wsX4_slotOf := goodIn_r _ [24] (by decide +kernel) (by decide +kernel)
set_option maxRecDepth 20000 in
theorem gX4_at_X4_slotOf : GoodIn wsX4_at (va_wsS RX4 59 yX4_slotOf wsX4_slotOf) := goodIn_app (goodIn_of _ (by decide +kernel)) ggX4_at_X4_slotOf
set_option maxRecDepth 20000 in
theorem ggX4_at_X4_placeOf : GoodIn wsX4_at wsX4_placeOf := goodIn_r _ [28, 29, 30, 31, 32, 33, 34, 35, 4, 36, 37, 38, 39, 40, 41, 6, 42, 43, 44, 45, 46, 47, 48, 49, 50, 14, 51, 52, 53, 71, 72, 73, 74, 75, 82, 83, 84, 85, 86, 87, 76, 77, 78, 79, 80, 81] (by decide +kernel) (by decide +kernel)
set_option maxRecDepth 20000 in
theorem gX4_at_X4_placeOf : GoodIn wsX4_at (wsV RX4 63 RX4 yX4_placeOf wsX4_placeOf) := goodIn_app (goodIn_of _ (by decide +kernel)) ggX4_at_X4_placeOf
set_option maxRecDepth 20000 in
theorem ggX4_at_X4_read : GoodIn wsX4_at wsX4_read := goodIn_r _ [57, 58, 29, 6, 59, 60, 42, 43, 44, 45, 46, 47, 61, 62, 63, 14, 64, 65, 66, 67, 68, 4, 69, 70, 41, 48, 49, 50, 51, 52, 53, 71, 72, 73, 74, 75, 76, 77, 78, 79, 80, 81, 82, 83, 84, 85, 86, 87] (by decide +kernel) (by decide +kernel)
set_option maxRecDepth 20000 in
theorem gX4_at_X4_read : GoodIn wsX4_at (wsV RX4 82 RX4 yX4_read wsX4_read) := goodIn_app (goodIn_of _ (by decide +kernel)) ggX4_at_X4_read
theorem dX4_at_0 : decode cX4_at 0 = .ok (.aload_n 0, 1) := by decide +kernel
theorem dX4_at_1 : decode cX4_at 1 = .ok (.iload_n 1, 1) := by decide +kernel
theorem dX4_at_2 : decode cX4_at 2 = .ok (.iload_n 2, 1) := by decide +kernel
theorem dX4_at_3 : decode cX4_at 3 = .ok (.invokevirtual 89, 3) := by decide +kernel
theorem dX4_at_6 : decode cX4_at 6 = .ok (.ifCond .ne 5, 3) := by decide +kernel
theorem dX4_at_9 : decode cX4_at 9 = .ok (.iconst (-1), 1) := by decide +kernel
theorem dX4_at_10 : decode cX4_at 10 = .ok (.ireturn, 1) := by decide +kernel
theorem dX4_at_11 : decode cX4_at 11 = .ok (.aload_n 0, 1) := by decide +kernel
theorem dX4_at_12 : decode cX4_at 12 = .ok (.aload_n 0, 1) := by decide +kernel
theorem dX4_at_13 : decode cX4_at 13 = .ok (.iload_n 1, 1) := by decide +kernel
theorem dX4_at_14 : decode cX4_at 14 = .ok (.iload_n 2, 1) := by decide +kernel
theorem dX4_at_15 : decode cX4_at 15 = .ok (.iconst 0, 1) := by decide +kernel
theorem dX4_at_16 : decode cX4_at 16 = .ok (.invokestatic 59, 3) := by decide +kernel
theorem dX4_at_19 : decode cX4_at 19 = .ok (.iload_n 3, 1) := by decide +kernel
theorem dX4_at_20 : decode cX4_at 20 = .ok (.iconst 0, 1) := by decide +kernel
theorem dX4_at_21 : decode cX4_at 21 = .ok (.invokevirtual 63, 3) := by decide +kernel
theorem dX4_at_24 : decode cX4_at 24 = .ok (.invokevirtual 82, 3) := by decide +kernel
theorem dX4_at_27 : decode cX4_at 27 = .ok (.ireturn, 1) := by decide +kernel
set_option maxRecDepth 20000 in
theorem ggX4_clear_X4_isStateAndKey : GoodIn wsX4_clear wsX4_isStateAndKey := goodIn_r _ [6, 7, 8, 9, 10, 11, 12, 13, 59, 60, 61, 62, 63, 64, 65, 66, 67, 68, 69] (by decide +kernel) (by decide +kernel)
set_option maxRecDepth 20000 in
theorem gX4_clear_X4_isStateAndKey : GoodIn wsX4_clear (wsV RX4 95 RX4 yX4_isStateAndKey wsX4_isStateAndKey) := goodIn_app (goodIn_of _ (by decide +kernel)) ggX4_clear_X4_isStateAndKey
set_option maxRecDepth 20000 in
theorem ggX4_clear_X4_howMany : GoodIn wsX4_clear wsX4_howMany := goodIn_r _ [17, 1, 18, 19, 20, 21, 22, 5, 23, 24, 25, 26, 27, 28, 29, 30, 31, 32, 33, 34, 35, 36, 37, 38, 39, 40, 41, 42, 7, 43, 44, 45, 11, 46, 47, 48, 59, 60, 61, 62, 63, 70, 71, 72, 73, 74, 75, 64, 65, 66, 67, 68, 69] (by decide +kernel) (by decide +kernel)
set_option maxRecDepth 20000 in
theorem gX4_clear_X4_howMany : GoodIn wsX4_clear (wsV RX4 92 RX4 yX4_howMany wsX4_howMany) := goodIn_app (goodIn_of _ (by decide +kernel)) ggX4_clear_X4_howMany
set_option maxRecDepth 20000 in
theorem ggX4_clear_X1_isTaken : GoodIn wsX4_clear wsX1_isTaken := goodIn_r _ [52, 29, 70, 71, 72, 73, 74, 75] (by decide +kernel) (by decide +kernel)
set_option maxRecDepth 20000 in
theorem gX4_clear_X1_isTaken : GoodIn wsX4_clear (wsV RX4 98 RX1 yX1_isTaken wsX1_isTaken) := goodIn_app (goodIn_of _ (by decide +kernel)) ggX4_clear_X1_isTaken
set_option maxRecDepth 20000 in
theorem ggX4_clear_X4_isOfKey : GoodIn wsX4_clear wsX4_isOfKey := goodIn_r _ [23, 1, 24, 25, 26, 27, 28, 29, 30, 31, 32, 33, 59, 60, 61, 62, 63, 70, 71, 72, 73, 74, 75] (by decide +kernel) (by decide +kernel)
set_option maxRecDepth 20000 in
theorem gX4_clear_X4_isOfKey : GoodIn wsX4_clear (wsV RX4 101 RX4 yX4_isOfKey wsX4_isOfKey) := goodIn_app (goodIn_of _ (by decide +kernel)) ggX4_clear_X4_isOfKey
set_option maxRecDepth 20000 in
theorem ggX4_clear_X1_vacate : GoodIn wsX4_clear wsX1_vacate := goodIn_r _ [56, 29, 57, 58, 70, 71, 72, 73, 74, 75] (by decide +kernel) (by decide +kernel)
set_option maxRecDepth 20000 in
theorem gX4_clear_X1_vacate : GoodIn wsX4_clear (wsV RX4 86 RX1 yX1_vacate wsX1_vacate) := goodIn_app (goodIn_of _ (by decide +kernel)) ggX4_clear_X1_vacate
theorem dX4_clear_0 : decode cX4_clear 0 = .ok (.aload_n 0, 1) := by decide +kernel
theorem dX4_clear_1 : decode cX4_clear 1 = .ok (.iload_n 1, 1) := by decide +kernel
theorem dX4_clear_2 : decode cX4_clear 2 = .ok (.iload_n 2, 1) := by decide +kernel
theorem dX4_clear_3 : decode cX4_clear 3 = .ok (.invokevirtual 95, 3) := by decide +kernel
theorem dX4_clear_6 : decode cX4_clear 6 = .ok (.ifCond .ne 5, 3) := by decide +kernel
theorem dX4_clear_9 : decode cX4_clear 9 = .ok (.iconst (-1), 1) := by decide +kernel
theorem dX4_clear_10 : decode cX4_clear 10 = .ok (.ireturn, 1) := by decide +kernel
theorem dX4_clear_11 : decode cX4_clear 11 = .ok (.aload_n 0, 1) := by decide +kernel
theorem dX4_clear_12 : decode cX4_clear 12 = .ok (.iload_n 1, 1) := by decide +kernel
theorem dX4_clear_13 : decode cX4_clear 13 = .ok (.iload_n 2, 1) := by decide +kernel
theorem dX4_clear_14 : decode cX4_clear 14 = .ok (.iconst 1, 1) := by decide +kernel
theorem dX4_clear_15 : decode cX4_clear 15 = .ok (.invokevirtual 92, 3) := by decide +kernel
theorem dX4_clear_18 : decode cX4_clear 18 = .ok (.istore_n 3, 1) := by decide +kernel
theorem dX4_clear_19 : decode cX4_clear 19 = .ok (.iconst 0, 1) := by decide +kernel
theorem dX4_clear_20 : decode cX4_clear 20 = .ok (.istore 4, 2) := by decide +kernel
theorem dX4_clear_22 : decode cX4_clear 22 = .ok (.iload 4, 2) := by decide +kernel
theorem dX4_clear_24 : decode cX4_clear 24 = .ok (.sipush 200, 3) := by decide +kernel
theorem dX4_clear_27 : decode cX4_clear 27 = .ok (.if_icmp .ge 41, 3) := by decide +kernel
theorem dX4_clear_30 : decode cX4_clear 30 = .ok (.aload_n 0, 1) := by decide +kernel
theorem dX4_clear_31 : decode cX4_clear 31 = .ok (.getfield 19, 3) := by decide +kernel
theorem dX4_clear_34 : decode cX4_clear 34 = .ok (.iload 4, 2) := by decide +kernel
theorem dX4_clear_36 : decode cX4_clear 36 = .ok (.invokevirtual 98, 3) := by decide +kernel
theorem dX4_clear_39 : decode cX4_clear 39 = .ok (.ifCond .eq 23, 3) := by decide +kernel
theorem dX4_clear_42 : decode cX4_clear 42 = .ok (.aload_n 0, 1) := by decide +kernel
theorem dX4_clear_43 : decode cX4_clear 43 = .ok (.iload 4, 2) := by decide +kernel
theorem dX4_clear_45 : decode cX4_clear 45 = .ok (.iload_n 1, 1) := by decide +kernel
theorem dX4_clear_46 : decode cX4_clear 46 = .ok (.iload_n 2, 1) := by decide +kernel
theorem dX4_clear_47 : decode cX4_clear 47 = .ok (.invokevirtual 101, 3) := by decide +kernel
theorem dX4_clear_50 : decode cX4_clear 50 = .ok (.ifCond .eq 12, 3) := by decide +kernel
theorem dX4_clear_53 : decode cX4_clear 53 = .ok (.aload_n 0, 1) := by decide +kernel
theorem dX4_clear_54 : decode cX4_clear 54 = .ok (.getfield 19, 3) := by decide +kernel
theorem dX4_clear_57 : decode cX4_clear 57 = .ok (.iload 4, 2) := by decide +kernel
theorem dX4_clear_59 : decode cX4_clear 59 = .ok (.invokevirtual 86, 3) := by decide +kernel
theorem dX4_clear_62 : decode cX4_clear 62 = .ok (.iinc 4 1, 3) := by decide +kernel
theorem dX4_clear_65 : decode cX4_clear 65 = .ok (.goto (-43), 3) := by decide +kernel
theorem dX4_clear_68 : decode cX4_clear 68 = .ok (.iload_n 3, 1) := by decide +kernel
theorem dX4_clear_69 : decode cX4_clear 69 = .ok (.ireturn, 1) := by decide +kernel
set_option maxRecDepth 20000 in
theorem ggX4_held_X4_isStateAndKey : GoodIn wsX4_held wsX4_isStateAndKey := goodIn_r _ [5, 6, 7, 8, 9, 10, 11, 12, 49, 50, 51, 52, 53, 54, 55, 56, 57, 58, 59] (by decide +kernel) (by decide +kernel)
set_option maxRecDepth 20000 in
theorem gX4_held_X4_isStateAndKey : GoodIn wsX4_held (wsV RX4 95 RX4 yX4_isStateAndKey wsX4_isStateAndKey) := goodIn_app (goodIn_of _ (by decide +kernel)) ggX4_held_X4_isStateAndKey
set_option maxRecDepth 20000 in
theorem ggX4_held_X4_howMany : GoodIn wsX4_held wsX4_howMany := goodIn_r _ [16, 17, 18, 19, 20, 21, 22, 4, 23, 24, 25, 26, 27, 28, 29, 30, 31, 32, 33, 34, 35, 36, 37, 38, 39, 40, 41, 42, 6, 43, 44, 45, 10, 46, 47, 48, 49, 50, 51, 52, 53, 60, 61, 62, 63, 64, 65, 54, 55, 56, 57, 58, 59] (by decide +kernel) (by decide +kernel)
set_option maxRecDepth 20000 in
theorem gX4_held_X4_howMany : GoodIn wsX4_held (wsV RX4 92 RX4 yX4_howMany wsX4_howMany) := goodIn_app (goodIn_of _ (by decide +kernel)) ggX4_held_X4_howMany
theorem dX4_held_0 : decode cX4_held 0 = .ok (.aload_n 0, 1) := by decide +kernel
theorem dX4_held_1 : decode cX4_held 1 = .ok (.iload_n 1, 1) := by decide +kernel
theorem dX4_held_2 : decode cX4_held 2 = .ok (.iload_n 2, 1) := by decide +kernel
theorem dX4_held_3 : decode cX4_held 3 = .ok (.invokevirtual 95, 3) := by decide +kernel
theorem dX4_held_6 : decode cX4_held 6 = .ok (.ifCond .ne 5, 3) := by decide +kernel
theorem dX4_held_9 : decode cX4_held 9 = .ok (.iconst (-1), 1) := by decide +kernel
theorem dX4_held_10 : decode cX4_held 10 = .ok (.ireturn, 1) := by decide +kernel
theorem dX4_held_11 : decode cX4_held 11 = .ok (.aload_n 0, 1) := by decide +kernel
theorem dX4_held_12 : decode cX4_held 12 = .ok (.iload_n 1, 1) := by decide +kernel
theorem dX4_held_13 : decode cX4_held 13 = .ok (.iload_n 2, 1) := by decide +kernel
theorem dX4_held_14 : decode cX4_held 14 = .ok (.iload_n 3, 1) := by decide +kernel
theorem dX4_held_15 : decode cX4_held 15 = .ok (.ifCond .ne 7, 3) := by decide +kernel
theorem dX4_held_18 : decode cX4_held 18 = .ok (.iconst 1, 1) := by decide +kernel
theorem dX4_held_19 : decode cX4_held 19 = .ok (.goto 4, 3) := by decide +kernel
theorem dX4_held_22 : decode cX4_held 22 = .ok (.iconst 0, 1) := by decide +kernel
theorem dX4_held_23 : decode cX4_held 23 = .ok (.invokevirtual 92, 3) := by decide +kernel
theorem dX4_held_26 : decode cX4_held 26 = .ok (.ireturn, 1) := by decide +kernel
set_option maxRecDepth 20000 in
theorem ggX4_left_X4_isMemberOrIndexFor : GoodIn wsX4_left wsX4_isMemberOrIndexFor := goodIn_r _ [6, 7, 8, 9, 10, 5, 11, 12, 13, 14, 15, 16, 17, 18, 19, 20, 21, 22, 23, 24, 25, 66, 67, 68, 69, 70, 71, 72, 73, 74, 75, 76] (by decide +kernel) (by decide +kernel)
set_option maxRecDepth 20000 in
theorem gX4_left_X4_isMemberOrIndexFor : GoodIn wsX4_left (wsV RX4 104 RX4 yX4_isMemberOrIndexFor wsX4_isMemberOrIndexFor) := goodIn_app (goodIn_of _ (by decide +kernel)) ggX4_left_X4_isMemberOrIndexFor
set_option maxRecDepth 20000 in
theorem ggX4_left_X4_slotFor : GoodIn wsX4_left wsX4_slotFor := goodIn_r _ [29, 7, 18, 19, 20, 15, 21, 22, 30, 31, 5, 32, 66, 67, 68, 69, 70, 71, 72, 73, 74, 75, 76] (by decide +kernel) (by decide +kernel)
set_option maxRecDepth 20000 in
theorem gX4_left_X4_slotFor : GoodIn wsX4_left (wsV RX4 107 RX4 yX4_slotFor wsX4_slotFor) := goodIn_app (goodIn_of _ (by decide +kernel)) ggX4_left_X4_slotFor
set_option maxRecDepth 20000 in
theorem ggX4_left_X4_indexFor : GoodIn wsX4_left wsX4_indexFor := goodIn_r _ [36, 7, 18, 19, 20, 15, 21, 22, 66, 67, 68, 69, 70, 71, 72, 73, 74, 75, 76] (by decide +kernel) (by decide +kernel)
set_option maxRecDepth 20000 in
theorem gX4_left_X4_indexFor : GoodIn wsX4_left (wsV RX4 110 RX4 yX4_indexFor wsX4_indexFor) := goodIn_app (goodIn_of _ (by decide +kernel)) ggX4_left_X4_indexFor
set_option maxRecDepth 20000 in
theorem ggX4_left_X4_placeOf : GoodIn wsX4_left wsX4_placeOf := goodIn_r _ [40, 41, 42, 43, 44, 45, 46, 47, 5, 48, 49, 50, 51, 52, 53, 7, 54, 55, 56, 57, 58, 59, 60, 61, 62, 15, 63, 64, 65, 66, 67, 68, 69, 70, 77, 78, 79, 80, 81, 82, 71, 72, 73, 74, 75, 76] (by decide +kernel) (by decide +kernel)
set_option maxRecDepth 20000 in
theorem gX4_left_X4_placeOf : GoodIn wsX4_left (wsV RX4 63 RX4 yX4_placeOf wsX4_placeOf) := goodIn_app (goodIn_of _ (by decide +kernel)) ggX4_left_X4_placeOf
set_option maxRecDepth 20000 in
theorem ggX4_left_X4_leftOf : GoodIn wsX4_left wsX4_leftOf := goodIn_r _ [52, 41, 53, 7, 54, 55, 56, 57, 58, 59, 60, 61, 62, 15, 63, 64, 65, 66, 67, 68, 69, 70, 77, 78, 79, 80, 81, 82, 71, 72, 73, 74, 75, 76] (by decide +kernel) (by decide +kernel)
set_option maxRecDepth 20000 in
theorem gX4_left_X4_leftOf : GoodIn wsX4_left (wsV RX4 115 RX4 yX4_leftOf wsX4_leftOf) := goodIn_app (goodIn_of _ (by decide +kernel)) ggX4_left_X4_leftOf
theorem dX4_left_0 : decode cX4_left 0 = .ok (.aload_n 0, 1) := by decide +kernel
theorem dX4_left_1 : decode cX4_left 1 = .ok (.iload_n 1, 1) := by decide +kernel
theorem dX4_left_2 : decode cX4_left 2 = .ok (.iload_n 2, 1) := by decide +kernel
theorem dX4_left_3 : decode cX4_left 3 = .ok (.iload_n 3, 1) := by decide +kernel
theorem dX4_left_4 : decode cX4_left 4 = .ok (.invokevirtual 104, 3) := by decide +kernel
theorem dX4_left_7 : decode cX4_left 7 = .ok (.ifCond .ne 5, 3) := by decide +kernel
theorem dX4_left_10 : decode cX4_left 10 = .ok (.iconst (-1), 1) := by decide +kernel
theorem dX4_left_11 : decode cX4_left 11 = .ok (.ireturn, 1) := by decide +kernel
theorem dX4_left_12 : decode cX4_left 12 = .ok (.aload_n 0, 1) := by decide +kernel
theorem dX4_left_13 : decode cX4_left 13 = .ok (.aload_n 0, 1) := by decide +kernel
theorem dX4_left_14 : decode cX4_left 14 = .ok (.iload_n 1, 1) := by decide +kernel
theorem dX4_left_15 : decode cX4_left 15 = .ok (.iload_n 2, 1) := by decide +kernel
theorem dX4_left_16 : decode cX4_left 16 = .ok (.iload_n 3, 1) := by decide +kernel
theorem dX4_left_17 : decode cX4_left 17 = .ok (.invokevirtual 107, 3) := by decide +kernel
theorem dX4_left_20 : decode cX4_left 20 = .ok (.aload_n 0, 1) := by decide +kernel
theorem dX4_left_21 : decode cX4_left 21 = .ok (.iload_n 1, 1) := by decide +kernel
theorem dX4_left_22 : decode cX4_left 22 = .ok (.iload_n 3, 1) := by decide +kernel
theorem dX4_left_23 : decode cX4_left 23 = .ok (.invokevirtual 110, 3) := by decide +kernel
theorem dX4_left_26 : decode cX4_left 26 = .ok (.iconst 0, 1) := by decide +kernel
theorem dX4_left_27 : decode cX4_left 27 = .ok (.invokevirtual 63, 3) := by decide +kernel
theorem dX4_left_30 : decode cX4_left 30 = .ok (.istore 4, 2) := by decide +kernel
theorem dX4_left_32 : decode cX4_left 32 = .ok (.iload 4, 2) := by decide +kernel
theorem dX4_left_34 : decode cX4_left 34 = .ok (.iconst (-1), 1) := by decide +kernel
theorem dX4_left_35 : decode cX4_left 35 = .ok (.if_icmp .ne 8, 3) := by decide +kernel
theorem dX4_left_38 : decode cX4_left 38 = .ok (.ldc 114, 2) := by decide +kernel
theorem dX4_left_40 : decode cX4_left 40 = .ok (.goto 9, 3) := by decide +kernel
theorem dX4_left_43 : decode cX4_left 43 = .ok (.aload_n 0, 1) := by decide +kernel
theorem dX4_left_44 : decode cX4_left 44 = .ok (.iload 4, 2) := by decide +kernel
theorem dX4_left_46 : decode cX4_left 46 = .ok (.invokevirtual 115, 3) := by decide +kernel
theorem dX4_left_49 : decode cX4_left 49 = .ok (.ireturn, 1) := by decide +kernel
set_option maxRecDepth 20000 in
theorem ggX4_tick_X4_moveClock : GoodIn wsX4_tick wsX4_moveClock := goodIn_r _ [9, 2, 3, 10, 11, 12, 8, 13, 14, 15, 16, 17, 18, 19, 20, 21, 22, 23, 24, 25, 26, 27, 28, 29, 30, 31, 32, 33, 34, 35, 36, 37, 38, 39, 40, 41, 42, 43, 44, 45, 46, 47, 48, 49, 50, 51, 52, 53, 54, 55] (by decide +kernel) (by decide +kernel)
set_option maxRecDepth 20000 in
theorem gX4_tick_X4_moveClock : GoodIn wsX4_tick (wsV RX4 124 RX4 yX4_moveClock wsX4_moveClock) := goodIn_app (goodIn_of _ (by decide +kernel)) ggX4_tick_X4_moveClock
theorem dX4_tick_0 : decode cX4_tick 0 = .ok (.iload_n 1, 1) := by decide +kernel
theorem dX4_tick_1 : decode cX4_tick 1 = .ok (.iconst 1, 1) := by decide +kernel
theorem dX4_tick_2 : decode cX4_tick 2 = .ok (.if_icmp .lt 9, 3) := by decide +kernel
theorem dX4_tick_5 : decode cX4_tick 5 = .ok (.iload_n 1, 1) := by decide +kernel
theorem dX4_tick_6 : decode cX4_tick 6 = .ok (.ldc 118, 2) := by decide +kernel
theorem dX4_tick_8 : decode cX4_tick 8 = .ok (.if_icmp .le 5, 3) := by decide +kernel
theorem dX4_tick_11 : decode cX4_tick 11 = .ok (.iconst (-1), 1) := by decide +kernel
theorem dX4_tick_12 : decode cX4_tick 12 = .ok (.ireturn, 1) := by decide +kernel
theorem dX4_tick_13 : decode cX4_tick 13 = .ok (.aload_n 0, 1) := by decide +kernel
theorem dX4_tick_14 : decode cX4_tick 14 = .ok (.getfield 12, 3) := by decide +kernel
theorem dX4_tick_17 : decode cX4_tick 17 = .ok (.getfield 119, 3) := by decide +kernel
theorem dX4_tick_20 : decode cX4_tick 20 = .ok (.iconst 0, 1) := by decide +kernel
theorem dX4_tick_21 : decode cX4_tick 21 = .ok (.iaload, 1) := by decide +kernel
theorem dX4_tick_22 : decode cX4_tick 22 = .ok (.iload_n 1, 1) := by decide +kernel
theorem dX4_tick_23 : decode cX4_tick 23 = .ok (.iadd, 1) := by decide +kernel
theorem dX4_tick_24 : decode cX4_tick 24 = .ok (.istore_n 2, 1) := by decide +kernel
theorem dX4_tick_25 : decode cX4_tick 25 = .ok (.iload_n 2, 1) := by decide +kernel
theorem dX4_tick_26 : decode cX4_tick 26 = .ok (.ldc 123, 2) := by decide +kernel
theorem dX4_tick_28 : decode cX4_tick 28 = .ok (.if_icmp .le 6, 3) := by decide +kernel
theorem dX4_tick_31 : decode cX4_tick 31 = .ok (.bipush (-2), 2) := by decide +kernel
theorem dX4_tick_33 : decode cX4_tick 33 = .ok (.ireturn, 1) := by decide +kernel
theorem dX4_tick_34 : decode cX4_tick 34 = .ok (.aload_n 0, 1) := by decide +kernel
theorem dX4_tick_35 : decode cX4_tick 35 = .ok (.iconst 0, 1) := by decide +kernel
theorem dX4_tick_36 : decode cX4_tick 36 = .ok (.iload_n 2, 1) := by decide +kernel
theorem dX4_tick_37 : decode cX4_tick 37 = .ok (.invokevirtual 124, 3) := by decide +kernel
theorem dX4_tick_40 : decode cX4_tick 40 = .ok (.ireturn, 1) := by decide +kernel
set_option maxRecDepth 20000 in
theorem ggX4_watermark_X4_moveClock : GoodIn wsX4_watermark wsX4_moveClock := goodIn_r _ [8, 2, 3, 9, 10, 11, 7, 12, 13, 14, 15, 16, 17, 18, 19, 20, 21, 22, 23, 24, 25, 26, 27, 28, 29, 30, 31, 32, 33, 34, 35, 36, 37, 38, 39, 40, 41, 42, 43, 44, 45, 46, 47, 48, 49, 50, 51, 52, 53, 54] (by decide +kernel) (by decide +kernel)
set_option maxRecDepth 20000 in
theorem gX4_watermark_X4_moveClock : GoodIn wsX4_watermark (wsV RX4 124 RX4 yX4_moveClock wsX4_moveClock) := goodIn_app (goodIn_of _ (by decide +kernel)) ggX4_watermark_X4_moveClock
theorem dX4_watermark_0 : decode cX4_watermark 0 = .ok (.iload_n 1, 1) := by decide +kernel
theorem dX4_watermark_1 : decode cX4_watermark 1 = .ok (.ifCond .lt 9, 3) := by decide +kernel
theorem dX4_watermark_4 : decode cX4_watermark 4 = .ok (.iload_n 1, 1) := by decide +kernel
theorem dX4_watermark_5 : decode cX4_watermark 5 = .ok (.ldc 123, 2) := by decide +kernel
theorem dX4_watermark_7 : decode cX4_watermark 7 = .ok (.if_icmp .le 5, 3) := by decide +kernel
theorem dX4_watermark_10 : decode cX4_watermark 10 = .ok (.iconst (-1), 1) := by decide +kernel
theorem dX4_watermark_11 : decode cX4_watermark 11 = .ok (.ireturn, 1) := by decide +kernel
theorem dX4_watermark_12 : decode cX4_watermark 12 = .ok (.aload_n 0, 1) := by decide +kernel
theorem dX4_watermark_13 : decode cX4_watermark 13 = .ok (.getfield 12, 3) := by decide +kernel
theorem dX4_watermark_16 : decode cX4_watermark 16 = .ok (.getfield 119, 3) := by decide +kernel
theorem dX4_watermark_19 : decode cX4_watermark 19 = .ok (.iconst 1, 1) := by decide +kernel
theorem dX4_watermark_20 : decode cX4_watermark 20 = .ok (.iaload, 1) := by decide +kernel
theorem dX4_watermark_21 : decode cX4_watermark 21 = .ok (.iload_n 1, 1) := by decide +kernel
theorem dX4_watermark_22 : decode cX4_watermark 22 = .ok (.if_icmp .le 6, 3) := by decide +kernel
theorem dX4_watermark_25 : decode cX4_watermark 25 = .ok (.bipush (-2), 2) := by decide +kernel
theorem dX4_watermark_27 : decode cX4_watermark 27 = .ok (.ireturn, 1) := by decide +kernel
theorem dX4_watermark_28 : decode cX4_watermark 28 = .ok (.aload_n 0, 1) := by decide +kernel
theorem dX4_watermark_29 : decode cX4_watermark 29 = .ok (.iconst 1, 1) := by decide +kernel
theorem dX4_watermark_30 : decode cX4_watermark 30 = .ok (.iload_n 1, 1) := by decide +kernel
theorem dX4_watermark_31 : decode cX4_watermark 31 = .ok (.invokevirtual 124, 3) := by decide +kernel
theorem dX4_watermark_34 : decode cX4_watermark 34 = .ok (.ireturn, 1) := by decide +kernel
set_option maxRecDepth 20000 in
theorem ggX4_sweep_X1_isTaken : GoodIn wsX4_sweep wsX1_isTaken := goodIn_r _ [7, 8, 70, 71, 72, 73, 74, 75] (by decide +kernel) (by decide +kernel)
set_option maxRecDepth 20000 in
theorem gX4_sweep_X1_isTaken : GoodIn wsX4_sweep (wsV RX4 98 RX1 yX1_isTaken wsX1_isTaken) := goodIn_app (goodIn_of _ (by decide +kernel)) ggX4_sweep_X1_isTaken
set_option maxRecDepth 20000 in
theorem ggX4_sweep_X4_isShown : GoodIn wsX4_sweep wsX4_isShown := goodIn_r _ [13, 14, 15, 16, 12, 17, 1, 18, 19, 20, 21, 22, 6, 23, 8, 24, 25, 26, 27, 28, 29, 30, 65, 66, 67, 68, 69, 70, 71, 72, 73, 74, 75, 76, 77, 78, 79, 80, 81] (by decide +kernel) (by decide +kernel)
set_option maxRecDepth 20000 in
theorem gX4_sweep_X4_isShown : GoodIn wsX4_sweep (wsV RX4 71 RX4 yX4_isShown wsX4_isShown) := goodIn_app (goodIn_of _ (by decide +kernel)) ggX4_sweep_X4_isShown
set_option maxRecDepth 20000 in
theorem ggX4_sweep_X4_tell : GoodIn wsX4_sweep wsX4_tell := goodIn_r _ [34, 35, 36, 1, 37, 18, 19, 38, 39, 40, 41, 42, 43, 44, 45, 46, 47, 48, 49, 50, 20, 21, 22, 6, 23, 8, 51, 52, 53, 54, 55, 56, 57, 58, 65, 66, 67, 68, 69, 82, 83, 84, 85, 70, 71, 72, 73, 74, 75, 76, 77, 78, 79, 80, 81] (by decide +kernel) (by decide +kernel)
set_option maxRecDepth 20000 in
theorem gX4_sweep_X4_tell : GoodIn wsX4_sweep (wsV RX4 74 RX4 yX4_tell wsX4_tell) := goodIn_app (goodIn_of _ (by decide +kernel)) ggX4_sweep_X4_tell
set_option maxRecDepth 20000 in
theorem ggX4_sweep_X1_vacate : GoodIn wsX4_sweep wsX1_vacate := goodIn_r _ [62, 8, 63, 64, 70, 71, 72, 73, 74, 75] (by decide +kernel) (by decide +kernel)
set_option maxRecDepth 20000 in
theorem gX4_sweep_X1_vacate : GoodIn wsX4_sweep (wsV RX4 86 RX1 yX1_vacate wsX1_vacate) := goodIn_app (goodIn_of _ (by decide +kernel)) ggX4_sweep_X1_vacate
theorem dX4_sweep_0 : decode cX4_sweep 0 = .ok (.iload_n 1, 1) := by decide +kernel
theorem dX4_sweep_1 : decode cX4_sweep 1 = .ok (.iconst 1, 1) := by decide +kernel
theorem dX4_sweep_2 : decode cX4_sweep 2 = .ok (.if_icmp .lt 10, 3) := by decide +kernel
theorem dX4_sweep_5 : decode cX4_sweep 5 = .ok (.iload_n 1, 1) := by decide +kernel
theorem dX4_sweep_6 : decode cX4_sweep 6 = .ok (.sipush 200, 3) := by decide +kernel
theorem dX4_sweep_9 : decode cX4_sweep 9 = .ok (.if_icmp .le 5, 3) := by decide +kernel
theorem dX4_sweep_12 : decode cX4_sweep 12 = .ok (.iconst (-1), 1) := by decide +kernel
theorem dX4_sweep_13 : decode cX4_sweep 13 = .ok (.ireturn, 1) := by decide +kernel
theorem dX4_sweep_14 : decode cX4_sweep 14 = .ok (.iconst 0, 1) := by decide +kernel
theorem dX4_sweep_15 : decode cX4_sweep 15 = .ok (.istore_n 2, 1) := by decide +kernel
theorem dX4_sweep_16 : decode cX4_sweep 16 = .ok (.iconst 0, 1) := by decide +kernel
theorem dX4_sweep_17 : decode cX4_sweep 17 = .ok (.istore_n 3, 1) := by decide +kernel
theorem dX4_sweep_18 : decode cX4_sweep 18 = .ok (.iload_n 3, 1) := by decide +kernel
theorem dX4_sweep_19 : decode cX4_sweep 19 = .ok (.iload_n 1, 1) := by decide +kernel
theorem dX4_sweep_20 : decode cX4_sweep 20 = .ok (.if_icmp .ge 70, 3) := by decide +kernel
theorem dX4_sweep_23 : decode cX4_sweep 23 = .ok (.aload_n 0, 1) := by decide +kernel
theorem dX4_sweep_24 : decode cX4_sweep 24 = .ok (.getfield 19, 3) := by decide +kernel
theorem dX4_sweep_27 : decode cX4_sweep 27 = .ok (.aload_n 0, 1) := by decide +kernel
theorem dX4_sweep_28 : decode cX4_sweep 28 = .ok (.getfield 37, 3) := by decide +kernel
theorem dX4_sweep_31 : decode cX4_sweep 31 = .ok (.invokevirtual 98, 3) := by decide +kernel
theorem dX4_sweep_34 : decode cX4_sweep 34 = .ok (.ifCond .eq 36, 3) := by decide +kernel
theorem dX4_sweep_37 : decode cX4_sweep 37 = .ok (.aload_n 0, 1) := by decide +kernel
theorem dX4_sweep_38 : decode cX4_sweep 38 = .ok (.aload_n 0, 1) := by decide +kernel
theorem dX4_sweep_39 : decode cX4_sweep 39 = .ok (.getfield 37, 3) := by decide +kernel
theorem dX4_sweep_42 : decode cX4_sweep 42 = .ok (.invokevirtual 71, 3) := by decide +kernel
theorem dX4_sweep_45 : decode cX4_sweep 45 = .ok (.ifCond .ne 25, 3) := by decide +kernel
theorem dX4_sweep_48 : decode cX4_sweep 48 = .ok (.aload_n 0, 1) := by decide +kernel
theorem dX4_sweep_49 : decode cX4_sweep 49 = .ok (.aload_n 0, 1) := by decide +kernel
theorem dX4_sweep_50 : decode cX4_sweep 50 = .ok (.getfield 37, 3) := by decide +kernel
theorem dX4_sweep_53 : decode cX4_sweep 53 = .ok (.invokevirtual 74, 3) := by decide +kernel
theorem dX4_sweep_56 : decode cX4_sweep 56 = .ok (.aload_n 0, 1) := by decide +kernel
theorem dX4_sweep_57 : decode cX4_sweep 57 = .ok (.getfield 19, 3) := by decide +kernel
theorem dX4_sweep_60 : decode cX4_sweep 60 = .ok (.aload_n 0, 1) := by decide +kernel
theorem dX4_sweep_61 : decode cX4_sweep 61 = .ok (.getfield 37, 3) := by decide +kernel
theorem dX4_sweep_64 : decode cX4_sweep 64 = .ok (.invokevirtual 86, 3) := by decide +kernel
theorem dX4_sweep_67 : decode cX4_sweep 67 = .ok (.iinc 2 1, 3) := by decide +kernel
theorem dX4_sweep_70 : decode cX4_sweep 70 = .ok (.aload_n 0, 1) := by decide +kernel
theorem dX4_sweep_71 : decode cX4_sweep 71 = .ok (.aload_n 0, 1) := by decide +kernel
theorem dX4_sweep_72 : decode cX4_sweep 72 = .ok (.getfield 37, 3) := by decide +kernel
theorem dX4_sweep_75 : decode cX4_sweep 75 = .ok (.iconst 1, 1) := by decide +kernel
theorem dX4_sweep_76 : decode cX4_sweep 76 = .ok (.iadd, 1) := by decide +kernel
theorem dX4_sweep_77 : decode cX4_sweep 77 = .ok (.sipush 200, 3) := by decide +kernel
theorem dX4_sweep_80 : decode cX4_sweep 80 = .ok (.irem, 1) := by decide +kernel
theorem dX4_sweep_81 : decode cX4_sweep 81 = .ok (.putfield 37, 3) := by decide +kernel
theorem dX4_sweep_84 : decode cX4_sweep 84 = .ok (.iinc 3 1, 3) := by decide +kernel
theorem dX4_sweep_87 : decode cX4_sweep 87 = .ok (.goto (-69), 3) := by decide +kernel
theorem dX4_sweep_90 : decode cX4_sweep 90 = .ok (.iload_n 2, 1) := by decide +kernel
theorem dX4_sweep_91 : decode cX4_sweep 91 = .ok (.ireturn, 1) := by decide +kernel
set_option maxRecDepth 20000 in
theorem ggX4_setting_X3_has : GoodIn wsX4_setting wsX3_has := goodIn_r _ [7, 8, 48, 49, 50, 51, 52, 53] (by decide +kernel) (by decide +kernel)
set_option maxRecDepth 20000 in
theorem gX4_setting_X3_has : GoodIn wsX4_setting (wsV RX4 127 RX3 yX3_has wsX3_has) := goodIn_app (goodIn_of _ (by decide +kernel)) ggX4_setting_X3_has
set_option maxRecDepth 20000 in
theorem ggX4_setting_X4_isSpan : GoodIn wsX4_setting wsX4_isSpan := goodIn_r _ [12, 13] (by decide +kernel) (by decide +kernel)
set_option maxRecDepth 20000 in
theorem gX4_setting_X4_isSpan : GoodIn wsX4_setting (va_wsS RX4 45 yX4_isSpan wsX4_isSpan) := goodIn_app (goodIn_of _ (by decide +kernel)) ggX4_setting_X4_isSpan
set_option maxRecDepth 20000 in
theorem ggX4_setting_X4_spanShownAnew : GoodIn wsX4_setting wsX4_spanShownAnew := goodIn_r _ [17, 18, 19, 20, 21, 22, 1, 2, 23, 24, 25, 26, 27, 28, 29, 30, 31, 11, 32, 33, 34, 35, 36, 37, 38, 39, 6, 40, 41, 42, 43, 44, 45, 46, 47, 54, 55, 56, 57, 58, 59, 48, 49, 50, 51, 52, 53] (by decide +kernel) (by decide +kernel)
set_option maxRecDepth 20000 in
theorem gX4_setting_X4_spanShownAnew : GoodIn wsX4_setting (wsV RX4 133 RX4 yX4_spanShownAnew wsX4_spanShownAnew) := goodIn_app (goodIn_of _ (by decide +kernel)) ggX4_setting_X4_spanShownAnew
theorem dX4_setting_0 : decode cX4_setting 0 = .ok (.aload_n 0, 1) := by decide +kernel
theorem dX4_setting_1 : decode cX4_setting 1 = .ok (.getfield 12, 3) := by decide +kernel
theorem dX4_setting_4 : decode cX4_setting 4 = .ok (.iload_n 1, 1) := by decide +kernel
theorem dX4_setting_5 : decode cX4_setting 5 = .ok (.invokevirtual 127, 3) := by decide +kernel
theorem dX4_setting_8 : decode cX4_setting 8 = .ok (.ifCond .eq 10, 3) := by decide +kernel
theorem dX4_setting_11 : decode cX4_setting 11 = .ok (.iload_n 2, 1) := by decide +kernel
theorem dX4_setting_12 : decode cX4_setting 12 = .ok (.invokestatic 45, 3) := by decide +kernel
theorem dX4_setting_15 : decode cX4_setting 15 = .ok (.ifCond .ne 5, 3) := by decide +kernel
theorem dX4_setting_18 : decode cX4_setting 18 = .ok (.iconst (-1), 1) := by decide +kernel
theorem dX4_setting_19 : decode cX4_setting 19 = .ok (.ireturn, 1) := by decide +kernel
theorem dX4_setting_20 : decode cX4_setting 20 = .ok (.aload_n 0, 1) := by decide +kernel
theorem dX4_setting_21 : decode cX4_setting 21 = .ok (.getfield 12, 3) := by decide +kernel
theorem dX4_setting_24 : decode cX4_setting 24 = .ok (.getfield 130, 3) := by decide +kernel
theorem dX4_setting_27 : decode cX4_setting 27 = .ok (.iload_n 1, 1) := by decide +kernel
theorem dX4_setting_28 : decode cX4_setting 28 = .ok (.iaload, 1) := by decide +kernel
theorem dX4_setting_29 : decode cX4_setting 29 = .ok (.istore 4, 2) := by decide +kernel
theorem dX4_setting_31 : decode cX4_setting 31 = .ok (.aload_n 0, 1) := by decide +kernel
theorem dX4_setting_32 : decode cX4_setting 32 = .ok (.getfield 12, 3) := by decide +kernel
theorem dX4_setting_35 : decode cX4_setting 35 = .ok (.getfield 130, 3) := by decide +kernel
theorem dX4_setting_38 : decode cX4_setting 38 = .ok (.iload_n 1, 1) := by decide +kernel
theorem dX4_setting_39 : decode cX4_setting 39 = .ok (.iload_n 2, 1) := by decide +kernel
theorem dX4_setting_40 : decode cX4_setting 40 = .ok (.iastore, 1) := by decide +kernel
theorem dX4_setting_41 : decode cX4_setting 41 = .ok (.iload_n 3, 1) := by decide +kernel
theorem dX4_setting_42 : decode cX4_setting 42 = .ok (.ifCond .eq 8, 3) := by decide +kernel
theorem dX4_setting_45 : decode cX4_setting 45 = .ok (.aload_n 0, 1) := by decide +kernel
theorem dX4_setting_46 : decode cX4_setting 46 = .ok (.iload_n 1, 1) := by decide +kernel
theorem dX4_setting_47 : decode cX4_setting 47 = .ok (.invokevirtual 133, 3) := by decide +kernel
theorem dX4_setting_50 : decode cX4_setting 50 = .ok (.iload 4, 2) := by decide +kernel
theorem dX4_setting_52 : decode cX4_setting 52 = .ok (.ireturn, 1) := by decide +kernel
set_option maxRecDepth 20000 in
theorem ggX4_mark_X4_isMark : GoodIn wsX4_mark wsX4_isMark := goodIn_r _ [11] (by decide +kernel) (by decide +kernel)
set_option maxRecDepth 20000 in
theorem gX4_mark_X4_isMark : GoodIn wsX4_mark (va_wsS RX4 136 yX4_isMark wsX4_isMark) := goodIn_app (goodIn_of _ (by decide +kernel)) ggX4_mark_X4_isMark
set_option maxRecDepth 20000 in
theorem ggX4_mark_X0_begin : GoodIn wsX4_mark wsX0_begin := goodIn_r _ [16, 17, 63, 64, 65, 66] (by decide +kernel) (by decide +kernel)
set_option maxRecDepth 20000 in
theorem gX4_mark_X0_begin : GoodIn wsX4_mark (wsV RX4 139 RX0 yX0_begin wsX0_begin) := goodIn_app (goodIn_of _ (by decide +kernel)) ggX4_mark_X0_begin
set_option maxRecDepth 20000 in
theorem ggX4_mark_X4_isShown : GoodIn wsX4_mark wsX4_isShown := goodIn_r _ [21, 22, 23, 24, 10, 25, 2, 26, 27, 28, 29, 30, 31, 32, 33, 34, 35, 36, 37, 38, 39, 40, 52, 53, 54, 55, 56, 57, 58, 59, 60, 61, 62, 67, 68, 69, 70, 71, 72] (by decide +kernel) (by decide +kernel)
set_option maxRecDepth 20000 in
theorem gX4_mark_X4_isShown : GoodIn wsX4_mark (wsV RX4 71 RX4 yX4_isShown wsX4_isShown) := goodIn_app (goodIn_of _ (by decide +kernel)) ggX4_mark_X4_isShown
set_option maxRecDepth 20000 in
theorem ggX4_mark_X4_leftOf : GoodIn wsX4_mark wsX4_leftOf := goodIn_r _ [25, 2, 26, 27, 28, 29, 30, 31, 32, 33, 34, 35, 36, 37, 38, 39, 40, 52, 53, 54, 55, 56, 57, 58, 59, 60, 61, 62, 67, 68, 69, 70, 71, 72] (by decide +kernel) (by decide +kernel)
set_option maxRecDepth 20000 in
theorem gX4_mark_X4_leftOf : GoodIn wsX4_mark (wsV RX4 115 RX4 yX4_leftOf wsX4_leftOf) := goodIn_app (goodIn_of _ (by decide +kernel)) ggX4_mark_X4_leftOf
set_option maxRecDepth 20000 in
theorem ggX4_mark_X0_keep : GoodIn wsX4_mark wsX0_keep := goodIn_r _ [44, 17, 45, 46, 47, 48, 49, 50, 15, 51, 63, 64, 65, 66] (by decide +kernel) (by decide +kernel)
set_option maxRecDepth 20000 in
theorem gX4_mark_X0_keep : GoodIn wsX4_mark (wsV RX4 154 RX0 yX0_keep wsX0_keep) := goodIn_app (goodIn_of _ (by decide +kernel)) ggX4_mark_X0_keep
theorem dX4_mark_0 : decode cX4_mark 0 = .ok (.iload_n 1, 1) := by decide +kernel
theorem dX4_mark_1 : decode cX4_mark 1 = .ok (.invokestatic 136, 3) := by decide +kernel
theorem dX4_mark_4 : decode cX4_mark 4 = .ok (.ifCond .ne 5, 3) := by decide +kernel
theorem dX4_mark_7 : decode cX4_mark 7 = .ok (.iconst (-1), 1) := by decide +kernel
theorem dX4_mark_8 : decode cX4_mark 8 = .ok (.ireturn, 1) := by decide +kernel
theorem dX4_mark_9 : decode cX4_mark 9 = .ok (.aload_n 0, 1) := by decide +kernel
theorem dX4_mark_10 : decode cX4_mark 10 = .ok (.getfield 33, 3) := by decide +kernel
theorem dX4_mark_13 : decode cX4_mark 13 = .ok (.iload_n 1, 1) := by decide +kernel
theorem dX4_mark_14 : decode cX4_mark 14 = .ok (.invokevirtual 139, 3) := by decide +kernel
theorem dX4_mark_17 : decode cX4_mark 17 = .ok (.iconst 0, 1) := by decide +kernel
theorem dX4_mark_18 : decode cX4_mark 18 = .ok (.istore_n 2, 1) := by decide +kernel
theorem dX4_mark_19 : decode cX4_mark 19 = .ok (.iload_n 2, 1) := by decide +kernel
theorem dX4_mark_20 : decode cX4_mark 20 = .ok (.aload_n 0, 1) := by decide +kernel
theorem dX4_mark_21 : decode cX4_mark 21 = .ok (.getfield 19, 3) := by decide +kernel
theorem dX4_mark_24 : decode cX4_mark 24 = .ok (.getfield 142, 3) := by decide +kernel
theorem dX4_mark_27 : decode cX4_mark 27 = .ok (.if_icmp .ge 58, 3) := by decide +kernel
theorem dX4_mark_30 : decode cX4_mark 30 = .ok (.aload_n 0, 1) := by decide +kernel
theorem dX4_mark_31 : decode cX4_mark 31 = .ok (.getfield 19, 3) := by decide +kernel
theorem dX4_mark_34 : decode cX4_mark 34 = .ok (.getfield 145, 3) := by decide +kernel
theorem dX4_mark_37 : decode cX4_mark 37 = .ok (.iload_n 2, 1) := by decide +kernel
theorem dX4_mark_38 : decode cX4_mark 38 = .ok (.iaload, 1) := by decide +kernel
theorem dX4_mark_39 : decode cX4_mark 39 = .ok (.istore_n 3, 1) := by decide +kernel
theorem dX4_mark_40 : decode cX4_mark 40 = .ok (.aload_n 0, 1) := by decide +kernel
theorem dX4_mark_41 : decode cX4_mark 41 = .ok (.iload_n 3, 1) := by decide +kernel
theorem dX4_mark_42 : decode cX4_mark 42 = .ok (.invokevirtual 71, 3) := by decide +kernel
theorem dX4_mark_45 : decode cX4_mark 45 = .ok (.ifCond .eq 34, 3) := by decide +kernel
theorem dX4_mark_48 : decode cX4_mark 48 = .ok (.aload_n 0, 1) := by decide +kernel
theorem dX4_mark_49 : decode cX4_mark 49 = .ok (.getfield 33, 3) := by decide +kernel
theorem dX4_mark_52 : decode cX4_mark 52 = .ok (.iload_n 1, 1) := by decide +kernel
theorem dX4_mark_53 : decode cX4_mark 53 = .ok (.aload_n 0, 1) := by decide +kernel
theorem dX4_mark_54 : decode cX4_mark 54 = .ok (.getfield 19, 3) := by decide +kernel
theorem dX4_mark_57 : decode cX4_mark 57 = .ok (.getfield 148, 3) := by decide +kernel
theorem dX4_mark_60 : decode cX4_mark 60 = .ok (.iload_n 3, 1) := by decide +kernel
theorem dX4_mark_61 : decode cX4_mark 61 = .ok (.iaload, 1) := by decide +kernel
theorem dX4_mark_62 : decode cX4_mark 62 = .ok (.aload_n 0, 1) := by decide +kernel
theorem dX4_mark_63 : decode cX4_mark 63 = .ok (.getfield 19, 3) := by decide +kernel
theorem dX4_mark_66 : decode cX4_mark 66 = .ok (.getfield 151, 3) := by decide +kernel
theorem dX4_mark_69 : decode cX4_mark 69 = .ok (.iload_n 3, 1) := by decide +kernel
theorem dX4_mark_70 : decode cX4_mark 70 = .ok (.iaload, 1) := by decide +kernel
theorem dX4_mark_71 : decode cX4_mark 71 = .ok (.aload_n 0, 1) := by decide +kernel
theorem dX4_mark_72 : decode cX4_mark 72 = .ok (.iload_n 3, 1) := by decide +kernel
theorem dX4_mark_73 : decode cX4_mark 73 = .ok (.invokevirtual 115, 3) := by decide +kernel
theorem dX4_mark_76 : decode cX4_mark 76 = .ok (.invokevirtual 154, 3) := by decide +kernel
theorem dX4_mark_79 : decode cX4_mark 79 = .ok (.iinc 2 1, 3) := by decide +kernel
theorem dX4_mark_82 : decode cX4_mark 82 = .ok (.goto (-63), 3) := by decide +kernel
theorem dX4_mark_85 : decode cX4_mark 85 = .ok (.aload_n 0, 1) := by decide +kernel
theorem dX4_mark_86 : decode cX4_mark 86 = .ok (.getfield 33, 3) := by decide +kernel
theorem dX4_mark_89 : decode cX4_mark 89 = .ok (.getfield 158, 3) := by decide +kernel
theorem dX4_mark_92 : decode cX4_mark 92 = .ok (.iload_n 1, 1) := by decide +kernel
theorem dX4_mark_93 : decode cX4_mark 93 = .ok (.iaload, 1) := by decide +kernel
theorem dX4_mark_94 : decode cX4_mark 94 = .ok (.ireturn, 1) := by decide +kernel
set_option maxRecDepth 20000 in
theorem ggX4_restore_X4_isMark : GoodIn wsX4_restore wsX4_isMark := goodIn_r _ [13] (by decide +kernel) (by decide +kernel)
set_option maxRecDepth 20000 in
theorem gX4_restore_X4_isMark : GoodIn wsX4_restore (va_wsS RX4 136 yX4_isMark wsX4_isMark) := goodIn_app (goodIn_of _ (by decide +kernel)) ggX4_restore_X4_isMark
set_option maxRecDepth 20000 in
theorem ggX4_restore_X1_vacateAll : GoodIn wsX4_restore wsX1_vacateAll := goodIn_r _ [18, 19, 20, 21, 22, 23, 24, 62, 63, 64, 65, 66, 67] (by decide +kernel) (by decide +kernel)
set_option maxRecDepth 20000 in
theorem gX4_restore_X1_vacateAll : GoodIn wsX4_restore (wsV RX4 161 RX1 yX1_vacateAll wsX1_vacateAll) := goodIn_app (goodIn_of _ (by decide +kernel)) ggX4_restore_X1_vacateAll
set_option maxRecDepth 20000 in
theorem ggX4_restore_X0_indexOf : GoodIn wsX4_restore wsX0_indexOf := goodIn_r _ [29] (by decide +kernel) (by decide +kernel)
set_option maxRecDepth 20000 in
theorem gX4_restore_X0_indexOf : GoodIn wsX4_restore (wsV RX4 164 RX0 yX0_indexOf wsX0_indexOf) := goodIn_app (goodIn_of _ (by decide +kernel)) ggX4_restore_X0_indexOf
set_option maxRecDepth 20000 in
theorem ggX4_restore_X1_take : GoodIn wsX4_restore wsX1_take := goodIn_r _ [33, 19, 20, 34, 62, 63, 64, 65, 66, 67] (by decide +kernel) (by decide +kernel)
set_option maxRecDepth 20000 in
theorem gX4_restore_X1_take : GoodIn wsX4_restore (wsV RX4 168 RX1 yX1_take wsX1_take) := goodIn_app (goodIn_of _ (by decide +kernel)) ggX4_restore_X1_take
set_option maxRecDepth 20000 in
theorem ggX4_restore_X4_stamp : GoodIn wsX4_restore wsX4_stamp := goodIn_r _ [38, 39, 3, 40, 41, 42, 43, 44, 17, 45, 19, 46, 47, 48, 49, 50, 51, 52, 53, 54, 55, 56, 57, 62, 63, 64, 65, 66, 67, 68, 69, 70, 71, 72, 73] (by decide +kernel) (by decide +kernel)
set_option maxRecDepth 20000 in
theorem gX4_restore_X4_stamp : GoodIn wsX4_restore (wsV RX4 175 RX4 yX4_stamp wsX4_stamp) := goodIn_app (goodIn_of _ (by decide +kernel)) ggX4_restore_X4_stamp
theorem dX4_restore_0 : decode cX4_restore 0 = .ok (.iload_n 1, 1) := by decide +kernel
theorem dX4_restore_1 : decode cX4_restore 1 = .ok (.invokestatic 136, 3) := by decide +kernel
theorem dX4_restore_4 : decode cX4_restore 4 = .ok (.ifCond .ne 5, 3) := by decide +kernel
theorem dX4_restore_7 : decode cX4_restore 7 = .ok (.iconst (-1), 1) := by decide +kernel
theorem dX4_restore_8 : decode cX4_restore 8 = .ok (.ireturn, 1) := by decide +kernel
theorem dX4_restore_9 : decode cX4_restore 9 = .ok (.aload_n 0, 1) := by decide +kernel
theorem dX4_restore_10 : decode cX4_restore 10 = .ok (.getfield 33, 3) := by decide +kernel
theorem dX4_restore_13 : decode cX4_restore 13 = .ok (.getfield 158, 3) := by decide +kernel
theorem dX4_restore_16 : decode cX4_restore 16 = .ok (.iload_n 1, 1) := by decide +kernel
theorem dX4_restore_17 : decode cX4_restore 17 = .ok (.iaload, 1) := by decide +kernel
theorem dX4_restore_18 : decode cX4_restore 18 = .ok (.istore_n 2, 1) := by decide +kernel
theorem dX4_restore_19 : decode cX4_restore 19 = .ok (.iload_n 2, 1) := by decide +kernel
theorem dX4_restore_20 : decode cX4_restore 20 = .ok (.iconst (-1), 1) := by decide +kernel
theorem dX4_restore_21 : decode cX4_restore 21 = .ok (.if_icmp .ne 6, 3) := by decide +kernel
theorem dX4_restore_24 : decode cX4_restore 24 = .ok (.bipush (-2), 2) := by decide +kernel
theorem dX4_restore_26 : decode cX4_restore 26 = .ok (.ireturn, 1) := by decide +kernel
theorem dX4_restore_27 : decode cX4_restore 27 = .ok (.aload_n 0, 1) := by decide +kernel
theorem dX4_restore_28 : decode cX4_restore 28 = .ok (.getfield 19, 3) := by decide +kernel
theorem dX4_restore_31 : decode cX4_restore 31 = .ok (.invokevirtual 161, 3) := by decide +kernel
theorem dX4_restore_34 : decode cX4_restore 34 = .ok (.iconst 0, 1) := by decide +kernel
theorem dX4_restore_35 : decode cX4_restore 35 = .ok (.istore_n 3, 1) := by decide +kernel
theorem dX4_restore_36 : decode cX4_restore 36 = .ok (.iload_n 3, 1) := by decide +kernel
theorem dX4_restore_37 : decode cX4_restore 37 = .ok (.iload_n 2, 1) := by decide +kernel
theorem dX4_restore_38 : decode cX4_restore 38 = .ok (.if_icmp .ge 72, 3) := by decide +kernel
theorem dX4_restore_41 : decode cX4_restore 41 = .ok (.aload_n 0, 1) := by decide +kernel
theorem dX4_restore_42 : decode cX4_restore 42 = .ok (.getfield 33, 3) := by decide +kernel
theorem dX4_restore_45 : decode cX4_restore 45 = .ok (.iload_n 1, 1) := by decide +kernel
theorem dX4_restore_46 : decode cX4_restore 46 = .ok (.iload_n 3, 1) := by decide +kernel
theorem dX4_restore_47 : decode cX4_restore 47 = .ok (.invokevirtual 164, 3) := by decide +kernel
theorem dX4_restore_50 : decode cX4_restore 50 = .ok (.istore 4, 2) := by decide +kernel
theorem dX4_restore_52 : decode cX4_restore 52 = .ok (.aload_n 0, 1) := by decide +kernel
theorem dX4_restore_53 : decode cX4_restore 53 = .ok (.getfield 19, 3) := by decide +kernel
theorem dX4_restore_56 : decode cX4_restore 56 = .ok (.iload_n 3, 1) := by decide +kernel
theorem dX4_restore_57 : decode cX4_restore 57 = .ok (.aload_n 0, 1) := by decide +kernel
theorem dX4_restore_58 : decode cX4_restore 58 = .ok (.getfield 33, 3) := by decide +kernel
theorem dX4_restore_61 : decode cX4_restore 61 = .ok (.getfield 167, 3) := by decide +kernel
theorem dX4_restore_64 : decode cX4_restore 64 = .ok (.iload 4, 2) := by decide +kernel
theorem dX4_restore_66 : decode cX4_restore 66 = .ok (.iaload, 1) := by decide +kernel
theorem dX4_restore_67 : decode cX4_restore 67 = .ok (.invokevirtual 168, 3) := by decide +kernel
theorem dX4_restore_70 : decode cX4_restore 70 = .ok (.aload_n 0, 1) := by decide +kernel
theorem dX4_restore_71 : decode cX4_restore 71 = .ok (.getfield 19, 3) := by decide +kernel
theorem dX4_restore_74 : decode cX4_restore 74 = .ok (.getfield 151, 3) := by decide +kernel
theorem dX4_restore_77 : decode cX4_restore 77 = .ok (.iload_n 3, 1) := by decide +kernel
theorem dX4_restore_78 : decode cX4_restore 78 = .ok (.aload_n 0, 1) := by decide +kernel
theorem dX4_restore_79 : decode cX4_restore 79 = .ok (.getfield 33, 3) := by decide +kernel
theorem dX4_restore_82 : decode cX4_restore 82 = .ok (.getfield 171, 3) := by decide +kernel
theorem dX4_restore_85 : decode cX4_restore 85 = .ok (.iload 4, 2) := by decide +kernel
theorem dX4_restore_87 : decode cX4_restore 87 = .ok (.iaload, 1) := by decide +kernel
theorem dX4_restore_88 : decode cX4_restore 88 = .ok (.iastore, 1) := by decide +kernel
theorem dX4_restore_89 : decode cX4_restore 89 = .ok (.aload_n 0, 1) := by decide +kernel
theorem dX4_restore_90 : decode cX4_restore 90 = .ok (.iload_n 3, 1) := by decide +kernel
theorem dX4_restore_91 : decode cX4_restore 91 = .ok (.aload_n 0, 1) := by decide +kernel
theorem dX4_restore_92 : decode cX4_restore 92 = .ok (.getfield 33, 3) := by decide +kernel
theorem dX4_restore_95 : decode cX4_restore 95 = .ok (.getfield 172, 3) := by decide +kernel
theorem dX4_restore_98 : decode cX4_restore 98 = .ok (.iload 4, 2) := by decide +kernel
theorem dX4_restore_100 : decode cX4_restore 100 = .ok (.iaload, 1) := by decide +kernel
theorem dX4_restore_101 : decode cX4_restore 101 = .ok (.invokevirtual 175, 3) := by decide +kernel
theorem dX4_restore_104 : decode cX4_restore 104 = .ok (.iinc 3 1, 3) := by decide +kernel
theorem dX4_restore_107 : decode cX4_restore 107 = .ok (.goto (-71), 3) := by decide +kernel
theorem dX4_restore_110 : decode cX4_restore 110 = .ok (.aload_n 0, 1) := by decide +kernel
theorem dX4_restore_111 : decode cX4_restore 111 = .ok (.iconst 0, 1) := by decide +kernel
theorem dX4_restore_112 : decode cX4_restore 112 = .ok (.putfield 37, 3) := by decide +kernel
theorem dX4_restore_115 : decode cX4_restore 115 = .ok (.aload_n 0, 1) := by decide +kernel
theorem dX4_restore_116 : decode cX4_restore 116 = .ok (.getfield 19, 3) := by decide +kernel
theorem dX4_restore_119 : decode cX4_restore 119 = .ok (.getfield 142, 3) := by decide +kernel
theorem dX4_restore_122 : decode cX4_restore 122 = .ok (.ireturn, 1) := by decide +kernel
set_option maxRecDepth 20000 in
theorem ggX4_row_X2_cell : GoodIn wsX4_row wsX2_cell := goodIn_r _ [8, 9, 10, 11, 12, 7, 13, 14, 20, 21, 22, 23] (by decide +kernel) (by decide +kernel)
set_option maxRecDepth 20000 in
theorem gX4_row_X2_cell : GoodIn wsX4_row (wsV RX4 181 RX2 yX2_cell wsX2_cell) := goodIn_app (goodIn_of _ (by decide +kernel)) ggX4_row_X2_cell
theorem dX4_row_0 : decode cX4_row 0 = .ok (.iload_n 1, 1) := by decide +kernel
theorem dX4_row_1 : decode cX4_row 1 = .ok (.ifCond .lt 24, 3) := by decide +kernel
theorem dX4_row_4 : decode cX4_row 4 = .ok (.iload_n 1, 1) := by decide +kernel
theorem dX4_row_5 : decode cX4_row 5 = .ok (.aload_n 0, 1) := by decide +kernel
theorem dX4_row_6 : decode cX4_row 6 = .ok (.getfield 26, 3) := by decide +kernel
theorem dX4_row_9 : decode cX4_row 9 = .ok (.getfield 178, 3) := by decide +kernel
theorem dX4_row_12 : decode cX4_row 12 = .ok (.if_icmp .ge 13, 3) := by decide +kernel
theorem dX4_row_15 : decode cX4_row 15 = .ok (.iload_n 2, 1) := by decide +kernel
theorem dX4_row_16 : decode cX4_row 16 = .ok (.ifCond .lt 9, 3) := by decide +kernel
theorem dX4_row_19 : decode cX4_row 19 = .ok (.iload_n 2, 1) := by decide +kernel
theorem dX4_row_20 : decode cX4_row 20 = .ok (.bipush 6, 2) := by decide +kernel
theorem dX4_row_22 : decode cX4_row 22 = .ok (.if_icmp .lt 6, 3) := by decide +kernel
theorem dX4_row_25 : decode cX4_row 25 = .ok (.ldc 114, 2) := by decide +kernel
theorem dX4_row_27 : decode cX4_row 27 = .ok (.ireturn, 1) := by decide +kernel
theorem dX4_row_28 : decode cX4_row 28 = .ok (.aload_n 0, 1) := by decide +kernel
theorem dX4_row_29 : decode cX4_row 29 = .ok (.getfield 26, 3) := by decide +kernel
theorem dX4_row_32 : decode cX4_row 32 = .ok (.iload_n 1, 1) := by decide +kernel
theorem dX4_row_33 : decode cX4_row 33 = .ok (.iload_n 2, 1) := by decide +kernel
theorem dX4_row_34 : decode cX4_row 34 = .ok (.invokevirtual 181, 3) := by decide +kernel
theorem dX4_row_37 : decode cX4_row 37 = .ok (.ireturn, 1) := by decide +kernel
set_option maxRecDepth 20000 in
theorem ggX4_place_X4_isMemberOrIndexFor : GoodIn wsX4_place wsX4_isMemberOrIndexFor := goodIn_r _ [6, 7, 8, 9, 10, 5, 11, 12, 13, 14, 15, 16, 17, 18, 19, 20, 21, 22, 23, 24, 25, 66, 67, 68, 69, 70, 71, 72, 73, 74, 75, 76] (by decide +kernel) (by decide +kernel)
set_option maxRecDepth 20000 in
theorem gX4_place_X4_isMemberOrIndexFor : GoodIn wsX4_place (wsV RX4 104 RX4 yX4_isMemberOrIndexFor wsX4_isMemberOrIndexFor) := goodIn_app (goodIn_of _ (by decide +kernel)) ggX4_place_X4_isMemberOrIndexFor
set_option maxRecDepth 20000 in
theorem ggX4_place_X4_slotFor : GoodIn wsX4_place wsX4_slotFor := goodIn_r _ [29, 7, 18, 19, 20, 15, 21, 22, 30, 31, 5, 32, 66, 67, 68, 69, 70, 71, 72, 73, 74, 75, 76] (by decide +kernel) (by decide +kernel)
set_option maxRecDepth 20000 in
theorem gX4_place_X4_slotFor : GoodIn wsX4_place (wsV RX4 107 RX4 yX4_slotFor wsX4_slotFor) := goodIn_app (goodIn_of _ (by decide +kernel)) ggX4_place_X4_slotFor
set_option maxRecDepth 20000 in
theorem ggX4_place_X4_indexFor : GoodIn wsX4_place wsX4_indexFor := goodIn_r _ [36, 7, 18, 19, 20, 15, 21, 22, 66, 67, 68, 69, 70, 71, 72, 73, 74, 75, 76] (by decide +kernel) (by decide +kernel)
set_option maxRecDepth 20000 in
theorem gX4_place_X4_indexFor : GoodIn wsX4_place (wsV RX4 110 RX4 yX4_indexFor wsX4_indexFor) := goodIn_app (goodIn_of _ (by decide +kernel)) ggX4_place_X4_indexFor
set_option maxRecDepth 20000 in
theorem ggX4_place_X4_placeOf : GoodIn wsX4_place wsX4_placeOf := goodIn_r _ [40, 41, 42, 43, 44, 45, 46, 47, 5, 48, 49, 50, 51, 52, 53, 7, 54, 55, 56, 57, 58, 59, 60, 61, 62, 15, 63, 64, 65, 66, 67, 68, 69, 70, 77, 78, 79, 80, 81, 82, 71, 72, 73, 74, 75, 76] (by decide +kernel) (by decide +kernel)
set_option maxRecDepth 20000 in
theorem gX4_place_X4_placeOf : GoodIn wsX4_place (wsV RX4 63 RX4 yX4_placeOf wsX4_placeOf) := goodIn_app (goodIn_of _ (by decide +kernel)) ggX4_place_X4_placeOf
theorem dX4_place_0 : decode cX4_place 0 = .ok (.aload_n 0, 1) := by decide +kernel
theorem dX4_place_1 : decode cX4_place 1 = .ok (.iload_n 1, 1) := by decide +kernel
theorem dX4_place_2 : decode cX4_place 2 = .ok (.iload_n 2, 1) := by decide +kernel
theorem dX4_place_3 : decode cX4_place 3 = .ok (.iload_n 3, 1) := by decide +kernel
theorem dX4_place_4 : decode cX4_place 4 = .ok (.invokevirtual 104, 3) := by decide +kernel
theorem dX4_place_7 : decode cX4_place 7 = .ok (.ifCond .ne 5, 3) := by decide +kernel
theorem dX4_place_10 : decode cX4_place 10 = .ok (.iconst (-1), 1) := by decide +kernel
theorem dX4_place_11 : decode cX4_place 11 = .ok (.ireturn, 1) := by decide +kernel
theorem dX4_place_12 : decode cX4_place 12 = .ok (.aload_n 0, 1) := by decide +kernel
theorem dX4_place_13 : decode cX4_place 13 = .ok (.aload_n 0, 1) := by decide +kernel
theorem dX4_place_14 : decode cX4_place 14 = .ok (.iload_n 1, 1) := by decide +kernel
theorem dX4_place_15 : decode cX4_place 15 = .ok (.iload_n 2, 1) := by decide +kernel
theorem dX4_place_16 : decode cX4_place 16 = .ok (.iload_n 3, 1) := by decide +kernel
theorem dX4_place_17 : decode cX4_place 17 = .ok (.invokevirtual 107, 3) := by decide +kernel
theorem dX4_place_20 : decode cX4_place 20 = .ok (.aload_n 0, 1) := by decide +kernel
theorem dX4_place_21 : decode cX4_place 21 = .ok (.iload_n 1, 1) := by decide +kernel
theorem dX4_place_22 : decode cX4_place 22 = .ok (.iload_n 3, 1) := by decide +kernel
theorem dX4_place_23 : decode cX4_place 23 = .ok (.invokevirtual 110, 3) := by decide +kernel
theorem dX4_place_26 : decode cX4_place 26 = .ok (.iconst 1, 1) := by decide +kernel
theorem dX4_place_27 : decode cX4_place 27 = .ok (.invokevirtual 63, 3) := by decide +kernel
theorem dX4_place_30 : decode cX4_place 30 = .ok (.istore 4, 2) := by decide +kernel
theorem dX4_place_32 : decode cX4_place 32 = .ok (.iload 4, 2) := by decide +kernel
theorem dX4_place_34 : decode cX4_place 34 = .ok (.iconst (-1), 1) := by decide +kernel
theorem dX4_place_35 : decode cX4_place 35 = .ok (.if_icmp .ne 8, 3) := by decide +kernel
theorem dX4_place_38 : decode cX4_place 38 = .ok (.ldc 114, 2) := by decide +kernel
theorem dX4_place_40 : decode cX4_place 40 = .ok (.goto 5, 3) := by decide +kernel
theorem dX4_place_43 : decode cX4_place 43 = .ok (.iload 4, 2) := by decide +kernel
theorem dX4_place_45 : decode cX4_place 45 = .ok (.ireturn, 1) := by decide +kernel
set_option maxRecDepth 20000 in
theorem ggX4_next_X3_has : GoodIn wsX4_next wsX3_has := goodIn_r _ [11, 12, 45, 46, 47, 48, 49, 50] (by decide +kernel) (by decide +kernel)
set_option maxRecDepth 20000 in
theorem gX4_next_X3_has : GoodIn wsX4_next (wsV RX4 127 RX3 yX3_has wsX3_has) := goodIn_app (goodIn_of _ (by decide +kernel)) ggX4_next_X3_has
set_option maxRecDepth 20000 in
theorem ggX4_next_X1_stateAt : GoodIn wsX4_next wsX1_stateAt := goodIn_r _ [17, 18, 39, 40, 41, 42, 43, 44] (by decide +kernel) (by decide +kernel)
set_option maxRecDepth 20000 in
theorem gX4_next_X1_stateAt : GoodIn wsX4_next (wsV RX4 184 RX1 yX1_stateAt wsX1_stateAt) := goodIn_app (goodIn_of _ (by decide +kernel)) ggX4_next_X1_stateAt
set_option maxRecDepth 20000 in
theorem ggX4_next_X4_isShown : GoodIn wsX4_next wsX4_isShown := goodIn_r _ [23, 24, 25, 26, 22, 27, 3, 6, 1, 13, 14, 15, 16, 17, 18, 28, 29, 30, 10, 31, 32, 33, 34, 35, 36, 37, 38, 39, 40, 41, 42, 43, 44, 45, 46, 47, 48, 49, 50] (by decide +kernel) (by decide +kernel)
set_option maxRecDepth 20000 in
theorem gX4_next_X4_isShown : GoodIn wsX4_next (wsV RX4 71 RX4 yX4_isShown wsX4_isShown) := goodIn_app (goodIn_of _ (by decide +kernel)) ggX4_next_X4_isShown
theorem dX4_next_0 : decode cX4_next 0 = .ok (.aload_n 0, 1) := by decide +kernel
theorem dX4_next_1 : decode cX4_next 1 = .ok (.getfield 12, 3) := by decide +kernel
theorem dX4_next_4 : decode cX4_next 4 = .ok (.iload_n 1, 1) := by decide +kernel
theorem dX4_next_5 : decode cX4_next 5 = .ok (.invokevirtual 127, 3) := by decide +kernel
theorem dX4_next_8 : decode cX4_next 8 = .ok (.ifCond .ne 5, 3) := by decide +kernel
theorem dX4_next_11 : decode cX4_next 11 = .ok (.iconst (-1), 1) := by decide +kernel
theorem dX4_next_12 : decode cX4_next 12 = .ok (.ireturn, 1) := by decide +kernel
theorem dX4_next_13 : decode cX4_next 13 = .ok (.ldc 114, 2) := by decide +kernel
theorem dX4_next_15 : decode cX4_next 15 = .ok (.istore_n 2, 1) := by decide +kernel
theorem dX4_next_16 : decode cX4_next 16 = .ok (.iconst 0, 1) := by decide +kernel
theorem dX4_next_17 : decode cX4_next 17 = .ok (.istore_n 3, 1) := by decide +kernel
theorem dX4_next_18 : decode cX4_next 18 = .ok (.iload_n 3, 1) := by decide +kernel
theorem dX4_next_19 : decode cX4_next 19 = .ok (.aload_n 0, 1) := by decide +kernel
theorem dX4_next_20 : decode cX4_next 20 = .ok (.getfield 19, 3) := by decide +kernel
theorem dX4_next_23 : decode cX4_next 23 = .ok (.getfield 142, 3) := by decide +kernel
theorem dX4_next_26 : decode cX4_next 26 = .ok (.if_icmp .ge 73, 3) := by decide +kernel
theorem dX4_next_29 : decode cX4_next 29 = .ok (.aload_n 0, 1) := by decide +kernel
theorem dX4_next_30 : decode cX4_next 30 = .ok (.getfield 19, 3) := by decide +kernel
theorem dX4_next_33 : decode cX4_next 33 = .ok (.getfield 145, 3) := by decide +kernel
theorem dX4_next_36 : decode cX4_next 36 = .ok (.iload_n 3, 1) := by decide +kernel
theorem dX4_next_37 : decode cX4_next 37 = .ok (.iaload, 1) := by decide +kernel
theorem dX4_next_38 : decode cX4_next 38 = .ok (.istore 4, 2) := by decide +kernel
theorem dX4_next_40 : decode cX4_next 40 = .ok (.aload_n 0, 1) := by decide +kernel
theorem dX4_next_41 : decode cX4_next 41 = .ok (.getfield 19, 3) := by decide +kernel
theorem dX4_next_44 : decode cX4_next 44 = .ok (.iload 4, 2) := by decide +kernel
theorem dX4_next_46 : decode cX4_next 46 = .ok (.invokevirtual 184, 3) := by decide +kernel
theorem dX4_next_49 : decode cX4_next 49 = .ok (.iload_n 1, 1) := by decide +kernel
theorem dX4_next_50 : decode cX4_next 50 = .ok (.if_icmp .ne 43, 3) := by decide +kernel
theorem dX4_next_53 : decode cX4_next 53 = .ok (.aload_n 0, 1) := by decide +kernel
theorem dX4_next_54 : decode cX4_next 54 = .ok (.iload 4, 2) := by decide +kernel
theorem dX4_next_56 : decode cX4_next 56 = .ok (.invokevirtual 71, 3) := by decide +kernel
theorem dX4_next_59 : decode cX4_next 59 = .ok (.ifCond .eq 34, 3) := by decide +kernel
theorem dX4_next_62 : decode cX4_next 62 = .ok (.iload_n 2, 1) := by decide +kernel
theorem dX4_next_63 : decode cX4_next 63 = .ok (.ldc 114, 2) := by decide +kernel
theorem dX4_next_65 : decode cX4_next 65 = .ok (.if_icmp .eq 17, 3) := by decide +kernel
theorem dX4_next_68 : decode cX4_next 68 = .ok (.aload_n 0, 1) := by decide +kernel
theorem dX4_next_69 : decode cX4_next 69 = .ok (.getfield 19, 3) := by decide +kernel
theorem dX4_next_72 : decode cX4_next 72 = .ok (.getfield 187, 3) := by decide +kernel
theorem dX4_next_75 : decode cX4_next 75 = .ok (.iload 4, 2) := by decide +kernel
theorem dX4_next_77 : decode cX4_next 77 = .ok (.iaload, 1) := by decide +kernel
theorem dX4_next_78 : decode cX4_next 78 = .ok (.iload_n 2, 1) := by decide +kernel
theorem dX4_next_79 : decode cX4_next 79 = .ok (.if_icmp .ge 14, 3) := by decide +kernel
theorem dX4_next_82 : decode cX4_next 82 = .ok (.aload_n 0, 1) := by decide +kernel
theorem dX4_next_83 : decode cX4_next 83 = .ok (.getfield 19, 3) := by decide +kernel
theorem dX4_next_86 : decode cX4_next 86 = .ok (.getfield 187, 3) := by decide +kernel
theorem dX4_next_89 : decode cX4_next 89 = .ok (.iload 4, 2) := by decide +kernel
theorem dX4_next_91 : decode cX4_next 91 = .ok (.iaload, 1) := by decide +kernel
theorem dX4_next_92 : decode cX4_next 92 = .ok (.istore_n 2, 1) := by decide +kernel
theorem dX4_next_93 : decode cX4_next 93 = .ok (.iinc 3 1, 3) := by decide +kernel
theorem dX4_next_96 : decode cX4_next 96 = .ok (.goto (-78), 3) := by decide +kernel
theorem dX4_next_99 : decode cX4_next 99 = .ok (.iload_n 2, 1) := by decide +kernel
theorem dX4_next_100 : decode cX4_next 100 = .ok (.ireturn, 1) := by decide +kernel
set_option maxRecDepth 20000 in
theorem ggX4_count_X4_howManyShown : GoodIn wsX4_count wsX4_howManyShown := goodIn_r _ [14, 3, 4, 15, 16, 17, 18, 13, 19, 20, 21, 22, 23, 24, 1, 25, 26, 27, 28, 29, 30, 31, 32, 33, 34, 35, 36, 37, 38, 39, 40, 41, 42, 49, 50, 51, 52, 53, 54, 43, 44, 45, 46, 47, 48] (by decide +kernel) (by decide +kernel)
set_option maxRecDepth 20000 in
theorem gX4_count_X4_howManyShown : GoodIn wsX4_count (wsV RX4 190 RX4 yX4_howManyShown wsX4_howManyShown) := goodIn_app (goodIn_of _ (by decide +kernel)) ggX4_count_X4_howManyShown
theorem dX4_count_0 : decode cX4_count 0 = .ok (.iload_n 1, 1) := by decide +kernel
theorem dX4_count_1 : decode cX4_count 1 = .ok (.tableswitch 109 0 7 #[47, 55, 63, 68, 76, 84, 94, 104], 47) := by decide +kernel
theorem dX4_count_48 : decode cX4_count 48 = .ok (.aload_n 0, 1) := by decide +kernel
theorem dX4_count_49 : decode cX4_count 49 = .ok (.getfield 12, 3) := by decide +kernel
theorem dX4_count_52 : decode cX4_count 52 = .ok (.getfield 48, 3) := by decide +kernel
theorem dX4_count_55 : decode cX4_count 55 = .ok (.ireturn, 1) := by decide +kernel
theorem dX4_count_56 : decode cX4_count 56 = .ok (.aload_n 0, 1) := by decide +kernel
theorem dX4_count_57 : decode cX4_count 57 = .ok (.getfield 19, 3) := by decide +kernel
theorem dX4_count_60 : decode cX4_count 60 = .ok (.getfield 142, 3) := by decide +kernel
theorem dX4_count_63 : decode cX4_count 63 = .ok (.ireturn, 1) := by decide +kernel
theorem dX4_count_64 : decode cX4_count 64 = .ok (.aload_n 0, 1) := by decide +kernel
theorem dX4_count_65 : decode cX4_count 65 = .ok (.invokevirtual 190, 3) := by decide +kernel
theorem dX4_count_68 : decode cX4_count 68 = .ok (.ireturn, 1) := by decide +kernel
theorem dX4_count_69 : decode cX4_count 69 = .ok (.aload_n 0, 1) := by decide +kernel
theorem dX4_count_70 : decode cX4_count 70 = .ok (.getfield 26, 3) := by decide +kernel
theorem dX4_count_73 : decode cX4_count 73 = .ok (.getfield 178, 3) := by decide +kernel
theorem dX4_count_76 : decode cX4_count 76 = .ok (.ireturn, 1) := by decide +kernel
theorem dX4_count_77 : decode cX4_count 77 = .ok (.aload_n 0, 1) := by decide +kernel
theorem dX4_count_78 : decode cX4_count 78 = .ok (.getfield 26, 3) := by decide +kernel
theorem dX4_count_81 : decode cX4_count 81 = .ok (.getfield 194, 3) := by decide +kernel
theorem dX4_count_84 : decode cX4_count 84 = .ok (.ireturn, 1) := by decide +kernel
theorem dX4_count_85 : decode cX4_count 85 = .ok (.aload_n 0, 1) := by decide +kernel
theorem dX4_count_86 : decode cX4_count 86 = .ok (.getfield 12, 3) := by decide +kernel
theorem dX4_count_89 : decode cX4_count 89 = .ok (.getfield 119, 3) := by decide +kernel
theorem dX4_count_92 : decode cX4_count 92 = .ok (.iconst 0, 1) := by decide +kernel
theorem dX4_count_93 : decode cX4_count 93 = .ok (.iaload, 1) := by decide +kernel
theorem dX4_count_94 : decode cX4_count 94 = .ok (.ireturn, 1) := by decide +kernel
theorem dX4_count_95 : decode cX4_count 95 = .ok (.aload_n 0, 1) := by decide +kernel
theorem dX4_count_96 : decode cX4_count 96 = .ok (.getfield 12, 3) := by decide +kernel
theorem dX4_count_99 : decode cX4_count 99 = .ok (.getfield 119, 3) := by decide +kernel
theorem dX4_count_102 : decode cX4_count 102 = .ok (.iconst 1, 1) := by decide +kernel
theorem dX4_count_103 : decode cX4_count 103 = .ok (.iaload, 1) := by decide +kernel
theorem dX4_count_104 : decode cX4_count 104 = .ok (.ireturn, 1) := by decide +kernel
theorem dX4_count_105 : decode cX4_count 105 = .ok (.aload_n 0, 1) := by decide +kernel
theorem dX4_count_106 : decode cX4_count 106 = .ok (.getfield 37, 3) := by decide +kernel
theorem dX4_count_109 : decode cX4_count 109 = .ok (.ireturn, 1) := by decide +kernel
theorem dX4_count_110 : decode cX4_count 110 = .ok (.iconst (-1), 1) := by decide +kernel
theorem dX4_count_111 : decode cX4_count 111 = .ok (.ireturn, 1) := by decide +kernel
theorem dX4_isZeroOrOne_0 : decode cX4_isZeroOrOne 0 = .ok (.iload_n 0, 1) := by decide +kernel
theorem dX4_isZeroOrOne_1 : decode cX4_isZeroOrOne 1 = .ok (.ifCond .eq 8, 3) := by decide +kernel
theorem dX4_isZeroOrOne_4 : decode cX4_isZeroOrOne 4 = .ok (.iload_n 0, 1) := by decide +kernel
theorem dX4_isZeroOrOne_5 : decode cX4_isZeroOrOne 5 = .ok (.iconst 1, 1) := by decide +kernel
theorem dX4_isZeroOrOne_6 : decode cX4_isZeroOrOne 6 = .ok (.if_icmp .ne 7, 3) := by decide +kernel
theorem dX4_isZeroOrOne_9 : decode cX4_isZeroOrOne 9 = .ok (.iconst 1, 1) := by decide +kernel
theorem dX4_isZeroOrOne_10 : decode cX4_isZeroOrOne 10 = .ok (.goto 4, 3) := by decide +kernel
theorem dX4_isZeroOrOne_13 : decode cX4_isZeroOrOne 13 = .ok (.iconst 0, 1) := by decide +kernel
theorem dX4_isZeroOrOne_14 : decode cX4_isZeroOrOne 14 = .ok (.ireturn, 1) := by decide +kernel
theorem dX4_isSpan_0 : decode cX4_isSpan 0 = .ok (.iload_n 0, 1) := by decide +kernel
theorem dX4_isSpan_1 : decode cX4_isSpan 1 = .ok (.iconst 1, 1) := by decide +kernel
theorem dX4_isSpan_2 : decode cX4_isSpan 2 = .ok (.if_icmp .lt 13, 3) := by decide +kernel
theorem dX4_isSpan_5 : decode cX4_isSpan 5 = .ok (.iload_n 0, 1) := by decide +kernel
theorem dX4_isSpan_6 : decode cX4_isSpan 6 = .ok (.ldc 118, 2) := by decide +kernel
theorem dX4_isSpan_8 : decode cX4_isSpan 8 = .ok (.if_icmp .gt 7, 3) := by decide +kernel
theorem dX4_isSpan_11 : decode cX4_isSpan 11 = .ok (.iconst 1, 1) := by decide +kernel
theorem dX4_isSpan_12 : decode cX4_isSpan 12 = .ok (.goto 4, 3) := by decide +kernel
theorem dX4_isSpan_15 : decode cX4_isSpan 15 = .ok (.iconst 0, 1) := by decide +kernel
theorem dX4_isSpan_16 : decode cX4_isSpan 16 = .ok (.ireturn, 1) := by decide +kernel
theorem dX4_isMember_0 : decode cX4_isMember 0 = .ok (.iload_n 0, 1) := by decide +kernel
theorem dX4_isMember_1 : decode cX4_isMember 1 = .ok (.ifCond .lt 13, 3) := by decide +kernel
theorem dX4_isMember_4 : decode cX4_isMember 4 = .ok (.iload_n 0, 1) := by decide +kernel
theorem dX4_isMember_5 : decode cX4_isMember 5 = .ok (.bipush 10, 2) := by decide +kernel
theorem dX4_isMember_7 : decode cX4_isMember 7 = .ok (.if_icmp .ge 7, 3) := by decide +kernel
theorem dX4_isMember_10 : decode cX4_isMember 10 = .ok (.iconst 1, 1) := by decide +kernel
theorem dX4_isMember_11 : decode cX4_isMember 11 = .ok (.goto 4, 3) := by decide +kernel
theorem dX4_isMember_14 : decode cX4_isMember 14 = .ok (.iconst 0, 1) := by decide +kernel
theorem dX4_isMember_15 : decode cX4_isMember 15 = .ok (.ireturn, 1) := by decide +kernel
theorem dX4_isMark_0 : decode cX4_isMark 0 = .ok (.iload_n 0, 1) := by decide +kernel
theorem dX4_isMark_1 : decode cX4_isMark 1 = .ok (.ifCond .lt 12, 3) := by decide +kernel
theorem dX4_isMark_4 : decode cX4_isMark 4 = .ok (.iload_n 0, 1) := by decide +kernel
theorem dX4_isMark_5 : decode cX4_isMark 5 = .ok (.iconst 3, 1) := by decide +kernel
theorem dX4_isMark_6 : decode cX4_isMark 6 = .ok (.if_icmp .ge 7, 3) := by decide +kernel
theorem dX4_isMark_9 : decode cX4_isMark 9 = .ok (.iconst 1, 1) := by decide +kernel
theorem dX4_isMark_10 : decode cX4_isMark 10 = .ok (.goto 4, 3) := by decide +kernel
theorem dX4_isMark_13 : decode cX4_isMark 13 = .ok (.iconst 0, 1) := by decide +kernel
theorem dX4_isMark_14 : decode cX4_isMark 14 = .ok (.ireturn, 1) := by decide +kernel
set_option maxRecDepth 20000 in
theorem ggX4_isStateAndKey_X3_has : GoodIn wsX4_isStateAndKey wsX3_has := goodIn_r _ [6, 7, 13, 14, 15, 16, 17, 18] (by decide +kernel) (by decide +kernel)
set_option maxRecDepth 20000 in
theorem gX4_isStateAndKey_X3_has : GoodIn wsX4_isStateAndKey (wsV RX4 127 RX3 yX3_has wsX3_has) := goodIn_app (goodIn_of _ (by decide +kernel)) ggX4_isStateAndKey_X3_has
theorem dX4_isStateAndKey_0 : decode cX4_isStateAndKey 0 = .ok (.aload_n 0, 1) := by decide +kernel
theorem dX4_isStateAndKey_1 : decode cX4_isStateAndKey 1 = .ok (.getfield 12, 3) := by decide +kernel
theorem dX4_isStateAndKey_4 : decode cX4_isStateAndKey 4 = .ok (.iload_n 1, 1) := by decide +kernel
theorem dX4_isStateAndKey_5 : decode cX4_isStateAndKey 5 = .ok (.invokevirtual 127, 3) := by decide +kernel
theorem dX4_isStateAndKey_8 : decode cX4_isStateAndKey 8 = .ok (.ifCond .eq 17, 3) := by decide +kernel
theorem dX4_isStateAndKey_11 : decode cX4_isStateAndKey 11 = .ok (.iload_n 2, 1) := by decide +kernel
theorem dX4_isStateAndKey_12 : decode cX4_isStateAndKey 12 = .ok (.ifCond .lt 13, 3) := by decide +kernel
theorem dX4_isStateAndKey_15 : decode cX4_isStateAndKey 15 = .ok (.iload_n 2, 1) := by decide +kernel
theorem dX4_isStateAndKey_16 : decode cX4_isStateAndKey 16 = .ok (.bipush 100, 2) := by decide +kernel
theorem dX4_isStateAndKey_18 : decode cX4_isStateAndKey 18 = .ok (.if_icmp .ge 7, 3) := by decide +kernel
theorem dX4_isStateAndKey_21 : decode cX4_isStateAndKey 21 = .ok (.iconst 1, 1) := by decide +kernel
theorem dX4_isStateAndKey_22 : decode cX4_isStateAndKey 22 = .ok (.goto 4, 3) := by decide +kernel
theorem dX4_isStateAndKey_25 : decode cX4_isStateAndKey 25 = .ok (.iconst 0, 1) := by decide +kernel
theorem dX4_isStateAndKey_26 : decode cX4_isStateAndKey 26 = .ok (.ireturn, 1) := by decide +kernel
set_option maxRecDepth 20000 in
theorem ggX4_isNumberFor_X4_isStateAndKey : GoodIn wsX4_isNumberFor wsX4_isStateAndKey := goodIn_r _ [6, 1, 7, 8, 9, 10, 11, 12, 21, 22, 23, 24, 25, 26, 27, 28, 29, 30, 31] (by decide +kernel) (by decide +kernel)
set_option maxRecDepth 20000 in
theorem gX4_isNumberFor_X4_isStateAndKey : GoodIn wsX4_isNumberFor (wsV RX4 95 RX4 yX4_isStateAndKey wsX4_isStateAndKey) := goodIn_app (goodIn_of _ (by decide +kernel)) ggX4_isNumberFor_X4_isStateAndKey
set_option maxRecDepth 20000 in
theorem ggX4_isNumberFor_X3_isList : GoodIn wsX4_isNumberFor wsX3_isList := goodIn_r _ [16, 17, 26, 27, 28, 29, 30, 31] (by decide +kernel) (by decide +kernel)
set_option maxRecDepth 20000 in
theorem gX4_isNumberFor_X3_isList : GoodIn wsX4_isNumberFor (wsV RX4 197 RX3 yX3_isList wsX3_isList) := goodIn_app (goodIn_of _ (by decide +kernel)) ggX4_isNumberFor_X3_isList
set_option maxRecDepth 20000 in
theorem ggX4_isNumberFor_X4_isMember : GoodIn wsX4_isNumberFor wsX4_isMember := goodIn_r _ [20] (by decide +kernel) (by decide +kernel)
set_option maxRecDepth 20000 in
theorem gX4_isNumberFor_X4_isMember : GoodIn wsX4_isNumberFor (va_wsS RX4 200 yX4_isMember wsX4_isMember) := goodIn_app (goodIn_of _ (by decide +kernel)) ggX4_isNumberFor_X4_isMember
theorem dX4_isNumberFor_0 : decode cX4_isNumberFor 0 = .ok (.aload_n 0, 1) := by decide +kernel
theorem dX4_isNumberFor_1 : decode cX4_isNumberFor 1 = .ok (.iload_n 1, 1) := by decide +kernel
theorem dX4_isNumberFor_2 : decode cX4_isNumberFor 2 = .ok (.iload_n 2, 1) := by decide +kernel
theorem dX4_isNumberFor_3 : decode cX4_isNumberFor 3 = .ok (.invokevirtual 95, 3) := by decide +kernel
theorem dX4_isNumberFor_6 : decode cX4_isNumberFor 6 = .ok (.ifCond .eq 25, 3) := by decide +kernel
theorem dX4_isNumberFor_9 : decode cX4_isNumberFor 9 = .ok (.aload_n 0, 1) := by decide +kernel
theorem dX4_isNumberFor_10 : decode cX4_isNumberFor 10 = .ok (.getfield 12, 3) := by decide +kernel
theorem dX4_isNumberFor_13 : decode cX4_isNumberFor 13 = .ok (.iload_n 1, 1) := by decide +kernel
theorem dX4_isNumberFor_14 : decode cX4_isNumberFor 14 = .ok (.invokevirtual 197, 3) := by decide +kernel
theorem dX4_isNumberFor_17 : decode cX4_isNumberFor 17 = .ok (.ifCond .ne 14, 3) := by decide +kernel
theorem dX4_isNumberFor_20 : decode cX4_isNumberFor 20 = .ok (.iload_n 3, 1) := by decide +kernel
theorem dX4_isNumberFor_21 : decode cX4_isNumberFor 21 = .ok (.invokestatic 200, 3) := by decide +kernel
theorem dX4_isNumberFor_24 : decode cX4_isNumberFor 24 = .ok (.ifCond .eq 7, 3) := by decide +kernel
theorem dX4_isNumberFor_27 : decode cX4_isNumberFor 27 = .ok (.iconst 1, 1) := by decide +kernel
theorem dX4_isNumberFor_28 : decode cX4_isNumberFor 28 = .ok (.goto 4, 3) := by decide +kernel
theorem dX4_isNumberFor_31 : decode cX4_isNumberFor 31 = .ok (.iconst 0, 1) := by decide +kernel
theorem dX4_isNumberFor_32 : decode cX4_isNumberFor 32 = .ok (.ireturn, 1) := by decide +kernel
set_option maxRecDepth 20000 in
theorem ggX4_isListFor_X4_isStateAndKey : GoodIn wsX4_isListFor wsX4_isStateAndKey := goodIn_r _ [6, 1, 7, 8, 9, 10, 11, 12, 18, 19, 20, 21, 22, 23, 24, 25, 26, 27, 28] (by decide +kernel) (by decide +kernel)
set_option maxRecDepth 20000 in
theorem gX4_isListFor_X4_isStateAndKey : GoodIn wsX4_isListFor (wsV RX4 95 RX4 yX4_isStateAndKey wsX4_isStateAndKey) := goodIn_app (goodIn_of _ (by decide +kernel)) ggX4_isListFor_X4_isStateAndKey
set_option maxRecDepth 20000 in
theorem ggX4_isListFor_X3_isList : GoodIn wsX4_isListFor wsX3_isList := goodIn_r _ [16, 17, 23, 24, 25, 26, 27, 28] (by decide +kernel) (by decide +kernel)
set_option maxRecDepth 20000 in
theorem gX4_isListFor_X3_isList : GoodIn wsX4_isListFor (wsV RX4 197 RX3 yX3_isList wsX3_isList) := goodIn_app (goodIn_of _ (by decide +kernel)) ggX4_isListFor_X3_isList
theorem dX4_isListFor_0 : decode cX4_isListFor 0 = .ok (.aload_n 0, 1) := by decide +kernel
theorem dX4_isListFor_1 : decode cX4_isListFor 1 = .ok (.iload_n 1, 1) := by decide +kernel
theorem dX4_isListFor_2 : decode cX4_isListFor 2 = .ok (.iload_n 2, 1) := by decide +kernel
theorem dX4_isListFor_3 : decode cX4_isListFor 3 = .ok (.invokevirtual 95, 3) := by decide +kernel
theorem dX4_isListFor_6 : decode cX4_isListFor 6 = .ok (.ifCond .eq 18, 3) := by decide +kernel
theorem dX4_isListFor_9 : decode cX4_isListFor 9 = .ok (.aload_n 0, 1) := by decide +kernel
theorem dX4_isListFor_10 : decode cX4_isListFor 10 = .ok (.getfield 12, 3) := by decide +kernel
theorem dX4_isListFor_13 : decode cX4_isListFor 13 = .ok (.iload_n 1, 1) := by decide +kernel
theorem dX4_isListFor_14 : decode cX4_isListFor 14 = .ok (.invokevirtual 197, 3) := by decide +kernel
theorem dX4_isListFor_17 : decode cX4_isListFor 17 = .ok (.ifCond .eq 7, 3) := by decide +kernel
theorem dX4_isListFor_20 : decode cX4_isListFor 20 = .ok (.iconst 1, 1) := by decide +kernel
theorem dX4_isListFor_21 : decode cX4_isListFor 21 = .ok (.goto 4, 3) := by decide +kernel
theorem dX4_isListFor_24 : decode cX4_isListFor 24 = .ok (.iconst 0, 1) := by decide +kernel
theorem dX4_isListFor_25 : decode cX4_isListFor 25 = .ok (.ireturn, 1) := by decide +kernel
set_option maxRecDepth 20000 in
theorem ggX4_isMemberOrIndexFor_X4_isStateAndKey : GoodIn wsX4_isMemberOrIndexFor wsX4_isStateAndKey := goodIn_r _ [6, 1, 7, 8, 9, 10, 11, 12, 21, 22, 23, 24, 25, 26, 27, 28, 29, 30, 31] (by decide +kernel) (by decide +kernel)
set_option maxRecDepth 20000 in
theorem gX4_isMemberOrIndexFor_X4_isStateAndKey : GoodIn wsX4_isMemberOrIndexFor (wsV RX4 95 RX4 yX4_isStateAndKey wsX4_isStateAndKey) := goodIn_app (goodIn_of _ (by decide +kernel)) ggX4_isMemberOrIndexFor_X4_isStateAndKey
set_option maxRecDepth 20000 in
theorem ggX4_isMemberOrIndexFor_X3_isList : GoodIn wsX4_isMemberOrIndexFor wsX3_isList := goodIn_r _ [16, 17, 26, 27, 28, 29, 30, 31] (by decide +kernel) (by decide +kernel)
set_option maxRecDepth 20000 in
theorem gX4_isMemberOrIndexFor_X3_isList : GoodIn wsX4_isMemberOrIndexFor (wsV RX4 197 RX3 yX3_isList wsX3_isList) := goodIn_app (goodIn_of _ (by decide +kernel)) ggX4_isMemberOrIndexFor_X3_isList
set_option maxRecDepth 20000 in
theorem ggX4_isMemberOrIndexFor_X4_isMember : GoodIn wsX4_isMemberOrIndexFor wsX4_isMember := goodIn_r _ [20] (by decide +kernel) (by decide +kernel)
set_option maxRecDepth 20000 in
theorem gX4_isMemberOrIndexFor_X4_isMember : GoodIn wsX4_isMemberOrIndexFor (va_wsS RX4 200 yX4_isMember wsX4_isMember) := goodIn_app (goodIn_of _ (by decide +kernel)) ggX4_isMemberOrIndexFor_X4_isMember
theorem dX4_isMemberOrIndexFor_0 : decode cX4_isMemberOrIndexFor 0 = .ok (.aload_n 0, 1) := by decide +kernel
theorem dX4_isMemberOrIndexFor_1 : decode cX4_isMemberOrIndexFor 1 = .ok (.iload_n 1, 1) := by decide +kernel
theorem dX4_isMemberOrIndexFor_2 : decode cX4_isMemberOrIndexFor 2 = .ok (.iload_n 2, 1) := by decide +kernel
theorem dX4_isMemberOrIndexFor_3 : decode cX4_isMemberOrIndexFor 3 = .ok (.invokevirtual 95, 3) := by decide +kernel
theorem dX4_isMemberOrIndexFor_6 : decode cX4_isMemberOrIndexFor 6 = .ok (.ifCond .eq 29, 3) := by decide +kernel
theorem dX4_isMemberOrIndexFor_9 : decode cX4_isMemberOrIndexFor 9 = .ok (.iload_n 3, 1) := by decide +kernel
theorem dX4_isMemberOrIndexFor_10 : decode cX4_isMemberOrIndexFor 10 = .ok (.ifCond .lt 25, 3) := by decide +kernel
theorem dX4_isMemberOrIndexFor_13 : decode cX4_isMemberOrIndexFor 13 = .ok (.aload_n 0, 1) := by decide +kernel
theorem dX4_isMemberOrIndexFor_14 : decode cX4_isMemberOrIndexFor 14 = .ok (.getfield 12, 3) := by decide +kernel
theorem dX4_isMemberOrIndexFor_17 : decode cX4_isMemberOrIndexFor 17 = .ok (.iload_n 1, 1) := by decide +kernel
theorem dX4_isMemberOrIndexFor_18 : decode cX4_isMemberOrIndexFor 18 = .ok (.invokevirtual 197, 3) := by decide +kernel
theorem dX4_isMemberOrIndexFor_21 : decode cX4_isMemberOrIndexFor 21 = .ok (.ifCond .ne 10, 3) := by decide +kernel
theorem dX4_isMemberOrIndexFor_24 : decode cX4_isMemberOrIndexFor 24 = .ok (.iload_n 3, 1) := by decide +kernel
theorem dX4_isMemberOrIndexFor_25 : decode cX4_isMemberOrIndexFor 25 = .ok (.invokestatic 200, 3) := by decide +kernel
theorem dX4_isMemberOrIndexFor_28 : decode cX4_isMemberOrIndexFor 28 = .ok (.ifCond .eq 7, 3) := by decide +kernel
theorem dX4_isMemberOrIndexFor_31 : decode cX4_isMemberOrIndexFor 31 = .ok (.iconst 1, 1) := by decide +kernel
theorem dX4_isMemberOrIndexFor_32 : decode cX4_isMemberOrIndexFor 32 = .ok (.goto 4, 3) := by decide +kernel
theorem dX4_isMemberOrIndexFor_35 : decode cX4_isMemberOrIndexFor 35 = .ok (.iconst 0, 1) := by decide +kernel
theorem dX4_isMemberOrIndexFor_36 : decode cX4_isMemberOrIndexFor 36 = .ok (.ireturn, 1) := by decide +kernel
set_option maxRecDepth 20000 in
theorem ggX4_slotFor_X3_isList : GoodIn wsX4_slotFor wsX3_isList := goodIn_r _ [6, 7, 17, 18, 19, 20, 21, 22] (by decide +kernel) (by decide +kernel)
set_option maxRecDepth 20000 in
theorem gX4_slotFor_X3_isList : GoodIn wsX4_slotFor (wsV RX4 197 RX3 yX3_isList wsX3_isList) := goodIn_app (goodIn_of _ (by decide +kernel)) ggX4_slotFor_X3_isList
set_option maxRecDepth 20000 in
theorem ggX4_slotFor_X4_slotOf : GoodIn wsX4_slotFor wsX4_slotOf := goodIn_r _ [11] (by decide +kernel) (by decide +kernel)
set_option maxRecDepth 20000 in
theorem gX4_slotFor_X4_slotOf : GoodIn wsX4_slotFor (va_wsS RX4 59 yX4_slotOf wsX4_slotOf) := goodIn_app (goodIn_of _ (by decide +kernel)) ggX4_slotFor_X4_slotOf
theorem dX4_slotFor_0 : decode cX4_slotFor 0 = .ok (.iload_n 1, 1) := by decide +kernel
theorem dX4_slotFor_1 : decode cX4_slotFor 1 = .ok (.iload_n 2, 1) := by decide +kernel
theorem dX4_slotFor_2 : decode cX4_slotFor 2 = .ok (.aload_n 0, 1) := by decide +kernel
theorem dX4_slotFor_3 : decode cX4_slotFor 3 = .ok (.getfield 12, 3) := by decide +kernel
theorem dX4_slotFor_6 : decode cX4_slotFor 6 = .ok (.iload_n 1, 1) := by decide +kernel
theorem dX4_slotFor_7 : decode cX4_slotFor 7 = .ok (.invokevirtual 197, 3) := by decide +kernel
theorem dX4_slotFor_10 : decode cX4_slotFor 10 = .ok (.ifCond .eq 7, 3) := by decide +kernel
theorem dX4_slotFor_13 : decode cX4_slotFor 13 = .ok (.iconst 0, 1) := by decide +kernel
theorem dX4_slotFor_14 : decode cX4_slotFor 14 = .ok (.goto 4, 3) := by decide +kernel
theorem dX4_slotFor_17 : decode cX4_slotFor 17 = .ok (.iload_n 3, 1) := by decide +kernel
theorem dX4_slotFor_18 : decode cX4_slotFor 18 = .ok (.invokestatic 59, 3) := by decide +kernel
theorem dX4_slotFor_21 : decode cX4_slotFor 21 = .ok (.ireturn, 1) := by decide +kernel
set_option maxRecDepth 20000 in
theorem ggX4_indexFor_X3_isList : GoodIn wsX4_indexFor wsX3_isList := goodIn_r _ [6, 7, 13, 14, 15, 16, 17, 18] (by decide +kernel) (by decide +kernel)
set_option maxRecDepth 20000 in
theorem gX4_indexFor_X3_isList : GoodIn wsX4_indexFor (wsV RX4 197 RX3 yX3_isList wsX3_isList) := goodIn_app (goodIn_of _ (by decide +kernel)) ggX4_indexFor_X3_isList
theorem dX4_indexFor_0 : decode cX4_indexFor 0 = .ok (.aload_n 0, 1) := by decide +kernel
theorem dX4_indexFor_1 : decode cX4_indexFor 1 = .ok (.getfield 12, 3) := by decide +kernel
theorem dX4_indexFor_4 : decode cX4_indexFor 4 = .ok (.iload_n 1, 1) := by decide +kernel
theorem dX4_indexFor_5 : decode cX4_indexFor 5 = .ok (.invokevirtual 197, 3) := by decide +kernel
theorem dX4_indexFor_8 : decode cX4_indexFor 8 = .ok (.ifCond .eq 7, 3) := by decide +kernel
theorem dX4_indexFor_11 : decode cX4_indexFor 11 = .ok (.iload_n 2, 1) := by decide +kernel
theorem dX4_indexFor_12 : decode cX4_indexFor 12 = .ok (.goto 4, 3) := by decide +kernel
theorem dX4_indexFor_15 : decode cX4_indexFor 15 = .ok (.iconst 0, 1) := by decide +kernel
theorem dX4_indexFor_16 : decode cX4_indexFor 16 = .ok (.ireturn, 1) := by decide +kernel
theorem dX4_slotOf_0 : decode cX4_slotOf 0 = .ok (.iload_n 0, 1) := by decide +kernel
theorem dX4_slotOf_1 : decode cX4_slotOf 1 = .ok (.sipush 1000, 3) := by decide +kernel
theorem dX4_slotOf_4 : decode cX4_slotOf 4 = .ok (.imul, 1) := by decide +kernel
theorem dX4_slotOf_5 : decode cX4_slotOf 5 = .ok (.iload_n 1, 1) := by decide +kernel
theorem dX4_slotOf_6 : decode cX4_slotOf 6 = .ok (.bipush 10, 2) := by decide +kernel
theorem dX4_slotOf_8 : decode cX4_slotOf 8 = .ok (.imul, 1) := by decide +kernel
theorem dX4_slotOf_9 : decode cX4_slotOf 9 = .ok (.iadd, 1) := by decide +kernel
theorem dX4_slotOf_10 : decode cX4_slotOf 10 = .ok (.iload_n 2, 1) := by decide +kernel
theorem dX4_slotOf_11 : decode cX4_slotOf 11 = .ok (.iadd, 1) := by decide +kernel
theorem dX4_slotOf_12 : decode cX4_slotOf 12 = .ok (.ireturn, 1) := by decide +kernel
set_option maxRecDepth 20000 in
theorem ggX4_isOfKey_X1_stateAt : GoodIn wsX4_isOfKey wsX1_stateAt := goodIn_r _ [6, 7, 17, 18, 19, 20, 21, 22] (by decide +kernel) (by decide +kernel)
set_option maxRecDepth 20000 in
theorem gX4_isOfKey_X1_stateAt : GoodIn wsX4_isOfKey (wsV RX4 184 RX1 yX1_stateAt wsX1_stateAt) := goodIn_app (goodIn_of _ (by decide +kernel)) ggX4_isOfKey_X1_stateAt
set_option maxRecDepth 20000 in
theorem ggX4_isOfKey_X1_keyAt : GoodIn wsX4_isOfKey wsX1_keyAt := goodIn_r _ [11, 7, 17, 18, 19, 20, 21, 22] (by decide +kernel) (by decide +kernel)
set_option maxRecDepth 20000 in
theorem gX4_isOfKey_X1_keyAt : GoodIn wsX4_isOfKey (wsV RX4 203 RX1 yX1_keyAt wsX1_keyAt) := goodIn_app (goodIn_of _ (by decide +kernel)) ggX4_isOfKey_X1_keyAt
theorem dX4_isOfKey_0 : decode cX4_isOfKey 0 = .ok (.aload_n 0, 1) := by decide +kernel
theorem dX4_isOfKey_1 : decode cX4_isOfKey 1 = .ok (.getfield 19, 3) := by decide +kernel
theorem dX4_isOfKey_4 : decode cX4_isOfKey 4 = .ok (.iload_n 1, 1) := by decide +kernel
theorem dX4_isOfKey_5 : decode cX4_isOfKey 5 = .ok (.invokevirtual 184, 3) := by decide +kernel
theorem dX4_isOfKey_8 : decode cX4_isOfKey 8 = .ok (.iload_n 2, 1) := by decide +kernel
theorem dX4_isOfKey_9 : decode cX4_isOfKey 9 = .ok (.if_icmp .ne 19, 3) := by decide +kernel
theorem dX4_isOfKey_12 : decode cX4_isOfKey 12 = .ok (.aload_n 0, 1) := by decide +kernel
theorem dX4_isOfKey_13 : decode cX4_isOfKey 13 = .ok (.getfield 19, 3) := by decide +kernel
theorem dX4_isOfKey_16 : decode cX4_isOfKey 16 = .ok (.iload_n 1, 1) := by decide +kernel
theorem dX4_isOfKey_17 : decode cX4_isOfKey 17 = .ok (.invokevirtual 203, 3) := by decide +kernel
theorem dX4_isOfKey_20 : decode cX4_isOfKey 20 = .ok (.iload_n 3, 1) := by decide +kernel
theorem dX4_isOfKey_21 : decode cX4_isOfKey 21 = .ok (.if_icmp .ne 7, 3) := by decide +kernel
theorem dX4_isOfKey_24 : decode cX4_isOfKey 24 = .ok (.iconst 1, 1) := by decide +kernel
theorem dX4_isOfKey_25 : decode cX4_isOfKey 25 = .ok (.goto 4, 3) := by decide +kernel
theorem dX4_isOfKey_28 : decode cX4_isOfKey 28 = .ok (.iconst 0, 1) := by decide +kernel
theorem dX4_isOfKey_29 : decode cX4_isOfKey 29 = .ok (.ireturn, 1) := by decide +kernel
set_option maxRecDepth 20000 in
theorem ggX4_isShown_X4_leftOf : GoodIn wsX4_isShown wsX4_leftOf := goodIn_r _ [5, 6, 7, 8, 9, 10, 11, 12, 13, 14, 15, 16, 17, 18, 19, 20, 21, 22, 23, 24, 25, 26, 27, 28, 29, 30, 31, 32, 33, 34, 35, 36, 37, 38] (by decide +kernel) (by decide +kernel)
set_option maxRecDepth 20000 in
theorem gX4_isShown_X4_leftOf : GoodIn wsX4_isShown (wsV RX4 115 RX4 yX4_leftOf wsX4_leftOf) := goodIn_app (goodIn_of _ (by decide +kernel)) ggX4_isShown_X4_leftOf
theorem dX4_isShown_0 : decode cX4_isShown 0 = .ok (.aload_n 0, 1) := by decide +kernel
theorem dX4_isShown_1 : decode cX4_isShown 1 = .ok (.iload_n 1, 1) := by decide +kernel
theorem dX4_isShown_2 : decode cX4_isShown 2 = .ok (.invokevirtual 115, 3) := by decide +kernel
theorem dX4_isShown_5 : decode cX4_isShown 5 = .ok (.ifCond .le 7, 3) := by decide +kernel
theorem dX4_isShown_8 : decode cX4_isShown 8 = .ok (.iconst 1, 1) := by decide +kernel
theorem dX4_isShown_9 : decode cX4_isShown 9 = .ok (.goto 4, 3) := by decide +kernel
theorem dX4_isShown_12 : decode cX4_isShown 12 = .ok (.iconst 0, 1) := by decide +kernel
theorem dX4_isShown_13 : decode cX4_isShown 13 = .ok (.ireturn, 1) := by decide +kernel
set_option maxRecDepth 20000 in
theorem ggX4_leftOf_X1_stateAt : GoodIn wsX4_leftOf wsX1_stateAt := goodIn_r _ [8, 9, 22, 23, 24, 25, 26, 27] (by decide +kernel) (by decide +kernel)
set_option maxRecDepth 20000 in
theorem gX4_leftOf_X1_stateAt : GoodIn wsX4_leftOf (wsV RX4 184 RX1 yX1_stateAt wsX1_stateAt) := goodIn_app (goodIn_of _ (by decide +kernel)) ggX4_leftOf_X1_stateAt
set_option maxRecDepth 20000 in
theorem ggX4_leftOf_X3_timeOf : GoodIn wsX4_leftOf wsX3_timeOf := goodIn_r _ [14, 15, 16, 28, 29, 30, 31, 32, 33] (by decide +kernel) (by decide +kernel)
set_option maxRecDepth 20000 in
theorem gX4_leftOf_X3_timeOf : GoodIn wsX4_leftOf (wsV RX4 206 RX3 yX3_timeOf wsX3_timeOf) := goodIn_app (goodIn_of _ (by decide +kernel)) ggX4_leftOf_X3_timeOf
theorem dX4_leftOf_0 : decode cX4_leftOf 0 = .ok (.aload_n 0, 1) := by decide +kernel
theorem dX4_leftOf_1 : decode cX4_leftOf 1 = .ok (.getfield 19, 3) := by decide +kernel
theorem dX4_leftOf_4 : decode cX4_leftOf 4 = .ok (.getfield 187, 3) := by decide +kernel
theorem dX4_leftOf_7 : decode cX4_leftOf 7 = .ok (.iload_n 1, 1) := by decide +kernel
theorem dX4_leftOf_8 : decode cX4_leftOf 8 = .ok (.iaload, 1) := by decide +kernel
theorem dX4_leftOf_9 : decode cX4_leftOf 9 = .ok (.aload_n 0, 1) := by decide +kernel
theorem dX4_leftOf_10 : decode cX4_leftOf 10 = .ok (.getfield 12, 3) := by decide +kernel
theorem dX4_leftOf_13 : decode cX4_leftOf 13 = .ok (.aload_n 0, 1) := by decide +kernel
theorem dX4_leftOf_14 : decode cX4_leftOf 14 = .ok (.getfield 19, 3) := by decide +kernel
theorem dX4_leftOf_17 : decode cX4_leftOf 17 = .ok (.iload_n 1, 1) := by decide +kernel
theorem dX4_leftOf_18 : decode cX4_leftOf 18 = .ok (.invokevirtual 184, 3) := by decide +kernel
theorem dX4_leftOf_21 : decode cX4_leftOf 21 = .ok (.invokevirtual 206, 3) := by decide +kernel
theorem dX4_leftOf_24 : decode cX4_leftOf 24 = .ok (.isub, 1) := by decide +kernel
theorem dX4_leftOf_25 : decode cX4_leftOf 25 = .ok (.ireturn, 1) := by decide +kernel
set_option maxRecDepth 20000 in
theorem ggX4_placeOf_X4_isShown : GoodIn wsX4_placeOf wsX4_isShown := goodIn_r _ [9, 10, 11, 12, 8, 13, 1, 14, 15, 16, 17, 18, 19, 20, 21, 22, 23, 24, 25, 26, 27, 28, 29, 30, 31, 32, 33, 34, 35, 36, 37, 38, 39, 40, 41, 42, 43, 44, 45] (by decide +kernel) (by decide +kernel)
end
section
set_option maxRecDepth 20000 in
theorem gX4_placeOf_X4_isShown : GoodIn wsX4_placeOf (wsV RX4 71 RX4 yX4_isShown wsX4_isShown) := goodIn_app (goodIn_of _ (by decide +kernel)) ggX4_placeOf_X4_isShown
theorem dX4_placeOf_0 : decode cX4_placeOf 0 = .ok (.iconst 0, 1) := by decide +kernel
theorem dX4_placeOf_1 : decode cX4_placeOf 1 = .ok (.istore 4, 2) := by decide +kernel
theorem dX4_placeOf_3 : decode cX4_placeOf 3 = .ok (.iconst 0, 1) := by decide +kernel
theorem dX4_placeOf_4 : decode cX4_placeOf 4 = .ok (.istore 5, 2) := by decide +kernel
theorem dX4_placeOf_6 : decode cX4_placeOf 6 = .ok (.iload 5, 2) := by decide +kernel
theorem dX4_placeOf_8 : decode cX4_placeOf 8 = .ok (.aload_n 0, 1) := by decide +kernel
theorem dX4_placeOf_9 : decode cX4_placeOf 9 = .ok (.getfield 19, 3) := by decide +kernel
theorem dX4_placeOf_12 : decode cX4_placeOf 12 = .ok (.getfield 142, 3) := by decide +kernel
theorem dX4_placeOf_15 : decode cX4_placeOf 15 = .ok (.if_icmp .ge 60, 3) := by decide +kernel
theorem dX4_placeOf_18 : decode cX4_placeOf 18 = .ok (.aload_n 0, 1) := by decide +kernel
theorem dX4_placeOf_19 : decode cX4_placeOf 19 = .ok (.getfield 19, 3) := by decide +kernel
theorem dX4_placeOf_22 : decode cX4_placeOf 22 = .ok (.getfield 145, 3) := by decide +kernel
theorem dX4_placeOf_25 : decode cX4_placeOf 25 = .ok (.iload 5, 2) := by decide +kernel
theorem dX4_placeOf_27 : decode cX4_placeOf 27 = .ok (.iaload, 1) := by decide +kernel
theorem dX4_placeOf_28 : decode cX4_placeOf 28 = .ok (.istore 6, 2) := by decide +kernel
theorem dX4_placeOf_30 : decode cX4_placeOf 30 = .ok (.aload_n 0, 1) := by decide +kernel
theorem dX4_placeOf_31 : decode cX4_placeOf 31 = .ok (.getfield 19, 3) := by decide +kernel
theorem dX4_placeOf_34 : decode cX4_placeOf 34 = .ok (.getfield 148, 3) := by decide +kernel
theorem dX4_placeOf_37 : decode cX4_placeOf 37 = .ok (.iload 6, 2) := by decide +kernel
theorem dX4_placeOf_39 : decode cX4_placeOf 39 = .ok (.iaload, 1) := by decide +kernel
theorem dX4_placeOf_40 : decode cX4_placeOf 40 = .ok (.iload_n 1, 1) := by decide +kernel
theorem dX4_placeOf_41 : decode cX4_placeOf 41 = .ok (.if_icmp .ne 28, 3) := by decide +kernel
theorem dX4_placeOf_44 : decode cX4_placeOf 44 = .ok (.iload_n 3, 1) := by decide +kernel
theorem dX4_placeOf_45 : decode cX4_placeOf 45 = .ok (.ifCond .ne 12, 3) := by decide +kernel
theorem dX4_placeOf_48 : decode cX4_placeOf 48 = .ok (.aload_n 0, 1) := by decide +kernel
theorem dX4_placeOf_49 : decode cX4_placeOf 49 = .ok (.iload 6, 2) := by decide +kernel
theorem dX4_placeOf_51 : decode cX4_placeOf 51 = .ok (.invokevirtual 71, 3) := by decide +kernel
theorem dX4_placeOf_54 : decode cX4_placeOf 54 = .ok (.ifCond .eq 15, 3) := by decide +kernel
theorem dX4_placeOf_57 : decode cX4_placeOf 57 = .ok (.iload 4, 2) := by decide +kernel
theorem dX4_placeOf_59 : decode cX4_placeOf 59 = .ok (.iload_n 2, 1) := by decide +kernel
theorem dX4_placeOf_60 : decode cX4_placeOf 60 = .ok (.if_icmp .ne 6, 3) := by decide +kernel
theorem dX4_placeOf_63 : decode cX4_placeOf 63 = .ok (.iload 6, 2) := by decide +kernel
theorem dX4_placeOf_65 : decode cX4_placeOf 65 = .ok (.ireturn, 1) := by decide +kernel
theorem dX4_placeOf_66 : decode cX4_placeOf 66 = .ok (.iinc 4 1, 3) := by decide +kernel
theorem dX4_placeOf_69 : decode cX4_placeOf 69 = .ok (.iinc 5 1, 3) := by decide +kernel
theorem dX4_placeOf_72 : decode cX4_placeOf 72 = .ok (.goto (-66), 3) := by decide +kernel
theorem dX4_placeOf_75 : decode cX4_placeOf 75 = .ok (.iconst (-1), 1) := by decide +kernel
theorem dX4_placeOf_76 : decode cX4_placeOf 76 = .ok (.ireturn, 1) := by decide +kernel
set_option maxRecDepth 20000 in
theorem ggX4_howMany_X4_isOfKey : GoodIn wsX4_howMany wsX4_isOfKey := goodIn_r _ [8, 1, 9, 10, 11, 12, 13, 14, 15, 16, 17, 18, 36, 37, 38, 39, 40, 41, 42, 43, 44, 45, 46] (by decide +kernel) (by decide +kernel)
set_option maxRecDepth 20000 in
theorem gX4_howMany_X4_isOfKey : GoodIn wsX4_howMany (wsV RX4 101 RX4 yX4_isOfKey wsX4_isOfKey) := goodIn_app (goodIn_of _ (by decide +kernel)) ggX4_howMany_X4_isOfKey
set_option maxRecDepth 20000 in
theorem ggX4_howMany_X4_isShown : GoodIn wsX4_howMany wsX4_isShown := goodIn_r _ [22, 23, 24, 25, 7, 26, 1, 27, 28, 9, 10, 11, 12, 13, 14, 29, 30, 31, 32, 33, 34, 35, 36, 37, 38, 39, 40, 41, 42, 43, 44, 45, 46, 47, 48, 49, 50, 51, 52] (by decide +kernel) (by decide +kernel)
set_option maxRecDepth 20000 in
theorem gX4_howMany_X4_isShown : GoodIn wsX4_howMany (wsV RX4 71 RX4 yX4_isShown wsX4_isShown) := goodIn_app (goodIn_of _ (by decide +kernel)) ggX4_howMany_X4_isShown
theorem dX4_howMany_0 : decode cX4_howMany 0 = .ok (.iconst 0, 1) := by decide +kernel
theorem dX4_howMany_1 : decode cX4_howMany 1 = .ok (.istore 4, 2) := by decide +kernel
theorem dX4_howMany_3 : decode cX4_howMany 3 = .ok (.iconst 0, 1) := by decide +kernel
theorem dX4_howMany_4 : decode cX4_howMany 4 = .ok (.istore 5, 2) := by decide +kernel
theorem dX4_howMany_6 : decode cX4_howMany 6 = .ok (.iload 5, 2) := by decide +kernel
theorem dX4_howMany_8 : decode cX4_howMany 8 = .ok (.aload_n 0, 1) := by decide +kernel
theorem dX4_howMany_9 : decode cX4_howMany 9 = .ok (.getfield 19, 3) := by decide +kernel
theorem dX4_howMany_12 : decode cX4_howMany 12 = .ok (.getfield 142, 3) := by decide +kernel
theorem dX4_howMany_15 : decode cX4_howMany 15 = .ok (.if_icmp .ge 45, 3) := by decide +kernel
theorem dX4_howMany_18 : decode cX4_howMany 18 = .ok (.aload_n 0, 1) := by decide +kernel
theorem dX4_howMany_19 : decode cX4_howMany 19 = .ok (.getfield 19, 3) := by decide +kernel
theorem dX4_howMany_22 : decode cX4_howMany 22 = .ok (.getfield 145, 3) := by decide +kernel
theorem dX4_howMany_25 : decode cX4_howMany 25 = .ok (.iload 5, 2) := by decide +kernel
theorem dX4_howMany_27 : decode cX4_howMany 27 = .ok (.iaload, 1) := by decide +kernel
theorem dX4_howMany_28 : decode cX4_howMany 28 = .ok (.istore 6, 2) := by decide +kernel
theorem dX4_howMany_30 : decode cX4_howMany 30 = .ok (.aload_n 0, 1) := by decide +kernel
theorem dX4_howMany_31 : decode cX4_howMany 31 = .ok (.iload 6, 2) := by decide +kernel
theorem dX4_howMany_33 : decode cX4_howMany 33 = .ok (.iload_n 1, 1) := by decide +kernel
theorem dX4_howMany_34 : decode cX4_howMany 34 = .ok (.iload_n 2, 1) := by decide +kernel
theorem dX4_howMany_35 : decode cX4_howMany 35 = .ok (.invokevirtual 101, 3) := by decide +kernel
theorem dX4_howMany_38 : decode cX4_howMany 38 = .ok (.ifCond .eq 16, 3) := by decide +kernel
theorem dX4_howMany_41 : decode cX4_howMany 41 = .ok (.aload_n 0, 1) := by decide +kernel
theorem dX4_howMany_42 : decode cX4_howMany 42 = .ok (.iload 6, 2) := by decide +kernel
theorem dX4_howMany_44 : decode cX4_howMany 44 = .ok (.invokevirtual 71, 3) := by decide +kernel
theorem dX4_howMany_47 : decode cX4_howMany 47 = .ok (.iload_n 3, 1) := by decide +kernel
theorem dX4_howMany_48 : decode cX4_howMany 48 = .ok (.if_icmp .ne 6, 3) := by decide +kernel
theorem dX4_howMany_51 : decode cX4_howMany 51 = .ok (.iinc 4 1, 3) := by decide +kernel
theorem dX4_howMany_54 : decode cX4_howMany 54 = .ok (.iinc 5 1, 3) := by decide +kernel
theorem dX4_howMany_57 : decode cX4_howMany 57 = .ok (.goto (-51), 3) := by decide +kernel
theorem dX4_howMany_60 : decode cX4_howMany 60 = .ok (.iload 4, 2) := by decide +kernel
theorem dX4_howMany_62 : decode cX4_howMany 62 = .ok (.ireturn, 1) := by decide +kernel
set_option maxRecDepth 20000 in
theorem ggX4_howManyShown_X4_isShown : GoodIn wsX4_howManyShown wsX4_isShown := goodIn_r _ [8, 9, 10, 11, 7, 12, 1, 13, 14, 15, 16, 17, 18, 19, 20, 21, 22, 23, 24, 25, 26, 27, 28, 29, 30, 31, 32, 33, 34, 35, 36, 37, 38, 39, 40, 41, 42, 43, 44] (by decide +kernel) (by decide +kernel)
set_option maxRecDepth 20000 in
theorem gX4_howManyShown_X4_isShown : GoodIn wsX4_howManyShown (wsV RX4 71 RX4 yX4_isShown wsX4_isShown) := goodIn_app (goodIn_of _ (by decide +kernel)) ggX4_howManyShown_X4_isShown
theorem dX4_howManyShown_0 : decode cX4_howManyShown 0 = .ok (.iconst 0, 1) := by decide +kernel
theorem dX4_howManyShown_1 : decode cX4_howManyShown 1 = .ok (.istore_n 1, 1) := by decide +kernel
theorem dX4_howManyShown_2 : decode cX4_howManyShown 2 = .ok (.iconst 0, 1) := by decide +kernel
theorem dX4_howManyShown_3 : decode cX4_howManyShown 3 = .ok (.istore_n 2, 1) := by decide +kernel
theorem dX4_howManyShown_4 : decode cX4_howManyShown 4 = .ok (.iload_n 2, 1) := by decide +kernel
theorem dX4_howManyShown_5 : decode cX4_howManyShown 5 = .ok (.aload_n 0, 1) := by decide +kernel
theorem dX4_howManyShown_6 : decode cX4_howManyShown 6 = .ok (.getfield 19, 3) := by decide +kernel
theorem dX4_howManyShown_9 : decode cX4_howManyShown 9 = .ok (.getfield 142, 3) := by decide +kernel
theorem dX4_howManyShown_12 : decode cX4_howManyShown 12 = .ok (.if_icmp .ge 28, 3) := by decide +kernel
theorem dX4_howManyShown_15 : decode cX4_howManyShown 15 = .ok (.aload_n 0, 1) := by decide +kernel
theorem dX4_howManyShown_16 : decode cX4_howManyShown 16 = .ok (.aload_n 0, 1) := by decide +kernel
theorem dX4_howManyShown_17 : decode cX4_howManyShown 17 = .ok (.getfield 19, 3) := by decide +kernel
theorem dX4_howManyShown_20 : decode cX4_howManyShown 20 = .ok (.getfield 145, 3) := by decide +kernel
theorem dX4_howManyShown_23 : decode cX4_howManyShown 23 = .ok (.iload_n 2, 1) := by decide +kernel
theorem dX4_howManyShown_24 : decode cX4_howManyShown 24 = .ok (.iaload, 1) := by decide +kernel
theorem dX4_howManyShown_25 : decode cX4_howManyShown 25 = .ok (.invokevirtual 71, 3) := by decide +kernel
theorem dX4_howManyShown_28 : decode cX4_howManyShown 28 = .ok (.ifCond .eq 6, 3) := by decide +kernel
theorem dX4_howManyShown_31 : decode cX4_howManyShown 31 = .ok (.iinc 1 1, 3) := by decide +kernel
theorem dX4_howManyShown_34 : decode cX4_howManyShown 34 = .ok (.iinc 2 1, 3) := by decide +kernel
theorem dX4_howManyShown_37 : decode cX4_howManyShown 37 = .ok (.goto (-33), 3) := by decide +kernel
theorem dX4_howManyShown_40 : decode cX4_howManyShown 40 = .ok (.iload_n 1, 1) := by decide +kernel
theorem dX4_howManyShown_41 : decode cX4_howManyShown 41 = .ok (.ireturn, 1) := by decide +kernel
set_option maxRecDepth 20000 in
theorem ggX4_bring_X1_leastFree : GoodIn wsX4_bring wsX1_leastFree := goodIn_r _ [6, 7, 8, 9, 5, 10, 11, 48, 49, 50, 51, 52, 53] (by decide +kernel) (by decide +kernel)
set_option maxRecDepth 20000 in
theorem gX4_bring_X1_leastFree : GoodIn wsX4_bring (wsV RX4 209 RX1 yX1_leastFree wsX1_leastFree) := goodIn_app (goodIn_of _ (by decide +kernel)) ggX4_bring_X1_leastFree
set_option maxRecDepth 20000 in
theorem ggX4_bring_X1_take : GoodIn wsX4_bring wsX1_take := goodIn_r _ [15, 11, 16, 17, 48, 49, 50, 51, 52, 53] (by decide +kernel) (by decide +kernel)
set_option maxRecDepth 20000 in
theorem gX4_bring_X1_take : GoodIn wsX4_bring (wsV RX4 168 RX1 yX1_take wsX1_take) := goodIn_app (goodIn_of _ (by decide +kernel)) ggX4_bring_X1_take
set_option maxRecDepth 20000 in
theorem ggX4_bring_X4_write : GoodIn wsX4_bring wsX4_write := goodIn_r _ [22, 1, 23, 24, 25, 26, 27, 28, 5, 29, 11, 30, 31, 32, 21, 33, 34, 35, 36, 37, 38, 39, 40, 41, 42, 43, 44, 45, 46, 47, 48, 49, 50, 51, 52, 53, 54, 55, 56, 57, 58, 59] (by decide +kernel) (by decide +kernel)
set_option maxRecDepth 20000 in
theorem gX4_bring_X4_write : GoodIn wsX4_bring (wsV RX4 78 RX4 yX4_write wsX4_write) := goodIn_app (goodIn_of _ (by decide +kernel)) ggX4_bring_X4_write
theorem dX4_bring_0 : decode cX4_bring 0 = .ok (.aload_n 0, 1) := by decide +kernel
theorem dX4_bring_1 : decode cX4_bring 1 = .ok (.getfield 19, 3) := by decide +kernel
theorem dX4_bring_4 : decode cX4_bring 4 = .ok (.invokevirtual 209, 3) := by decide +kernel
theorem dX4_bring_7 : decode cX4_bring 7 = .ok (.istore_n 3, 1) := by decide +kernel
theorem dX4_bring_8 : decode cX4_bring 8 = .ok (.iload_n 3, 1) := by decide +kernel
theorem dX4_bring_9 : decode cX4_bring 9 = .ok (.iconst (-1), 1) := by decide +kernel
theorem dX4_bring_10 : decode cX4_bring 10 = .ok (.if_icmp .ne 5, 3) := by decide +kernel
theorem dX4_bring_13 : decode cX4_bring 13 = .ok (.iconst 0, 1) := by decide +kernel
theorem dX4_bring_14 : decode cX4_bring 14 = .ok (.ireturn, 1) := by decide +kernel
theorem dX4_bring_15 : decode cX4_bring 15 = .ok (.aload_n 0, 1) := by decide +kernel
theorem dX4_bring_16 : decode cX4_bring 16 = .ok (.getfield 19, 3) := by decide +kernel
theorem dX4_bring_19 : decode cX4_bring 19 = .ok (.iload_n 3, 1) := by decide +kernel
theorem dX4_bring_20 : decode cX4_bring 20 = .ok (.iload_n 1, 1) := by decide +kernel
theorem dX4_bring_21 : decode cX4_bring 21 = .ok (.invokevirtual 168, 3) := by decide +kernel
theorem dX4_bring_24 : decode cX4_bring 24 = .ok (.aload_n 0, 1) := by decide +kernel
theorem dX4_bring_25 : decode cX4_bring 25 = .ok (.iload_n 3, 1) := by decide +kernel
theorem dX4_bring_26 : decode cX4_bring 26 = .ok (.iload_n 2, 1) := by decide +kernel
theorem dX4_bring_27 : decode cX4_bring 27 = .ok (.invokevirtual 78, 3) := by decide +kernel
theorem dX4_bring_30 : decode cX4_bring 30 = .ok (.iconst 1, 1) := by decide +kernel
theorem dX4_bring_31 : decode cX4_bring 31 = .ok (.ireturn, 1) := by decide +kernel
set_option maxRecDepth 20000 in
theorem ggX4_write_X1_stateAt : GoodIn wsX4_write wsX1_stateAt := goodIn_r _ [9, 10, 30, 31, 32, 33, 34, 35] (by decide +kernel) (by decide +kernel)
set_option maxRecDepth 20000 in
theorem gX4_write_X1_stateAt : GoodIn wsX4_write (wsV RX4 184 RX1 yX1_stateAt wsX1_stateAt) := goodIn_app (goodIn_of _ (by decide +kernel)) ggX4_write_X1_stateAt
set_option maxRecDepth 20000 in
theorem ggX4_write_X4_stamp : GoodIn wsX4_write wsX4_stamp := goodIn_r _ [15, 3, 1, 16, 17, 5, 6, 7, 8, 9, 10, 18, 19, 20, 21, 22, 23, 24, 25, 26, 27, 28, 29, 30, 31, 32, 33, 34, 35, 36, 37, 38, 39, 40, 41] (by decide +kernel) (by decide +kernel)
set_option maxRecDepth 20000 in
theorem gX4_write_X4_stamp : GoodIn wsX4_write (wsV RX4 175 RX4 yX4_stamp wsX4_stamp) := goodIn_app (goodIn_of _ (by decide +kernel)) ggX4_write_X4_stamp
theorem dX4_write_0 : decode cX4_write 0 = .ok (.aload_n 0, 1) := by decide +kernel
theorem dX4_write_1 : decode cX4_write 1 = .ok (.getfield 19, 3) := by decide +kernel
theorem dX4_write_4 : decode cX4_write 4 = .ok (.getfield 151, 3) := by decide +kernel
theorem dX4_write_7 : decode cX4_write 7 = .ok (.iload_n 1, 1) := by decide +kernel
theorem dX4_write_8 : decode cX4_write 8 = .ok (.iload_n 2, 1) := by decide +kernel
theorem dX4_write_9 : decode cX4_write 9 = .ok (.iastore, 1) := by decide +kernel
theorem dX4_write_10 : decode cX4_write 10 = .ok (.aload_n 0, 1) := by decide +kernel
theorem dX4_write_11 : decode cX4_write 11 = .ok (.iload_n 1, 1) := by decide +kernel
theorem dX4_write_12 : decode cX4_write 12 = .ok (.aload_n 0, 1) := by decide +kernel
theorem dX4_write_13 : decode cX4_write 13 = .ok (.getfield 12, 3) := by decide +kernel
theorem dX4_write_16 : decode cX4_write 16 = .ok (.getfield 130, 3) := by decide +kernel
theorem dX4_write_19 : decode cX4_write 19 = .ok (.aload_n 0, 1) := by decide +kernel
theorem dX4_write_20 : decode cX4_write 20 = .ok (.getfield 19, 3) := by decide +kernel
theorem dX4_write_23 : decode cX4_write 23 = .ok (.iload_n 1, 1) := by decide +kernel
theorem dX4_write_24 : decode cX4_write 24 = .ok (.invokevirtual 184, 3) := by decide +kernel
theorem dX4_write_27 : decode cX4_write 27 = .ok (.iaload, 1) := by decide +kernel
theorem dX4_write_28 : decode cX4_write 28 = .ok (.invokevirtual 175, 3) := by decide +kernel
theorem dX4_write_31 : decode cX4_write 31 = .ok (.return_, 1) := by decide +kernel
set_option maxRecDepth 20000 in
theorem ggX4_stamp_X1_stateAt : GoodIn wsX4_stamp wsX1_stateAt := goodIn_r _ [9, 10, 23, 24, 25, 26, 27, 28] (by decide +kernel) (by decide +kernel)
set_option maxRecDepth 20000 in
theorem gX4_stamp_X1_stateAt : GoodIn wsX4_stamp (wsV RX4 184 RX1 yX1_stateAt wsX1_stateAt) := goodIn_app (goodIn_of _ (by decide +kernel)) ggX4_stamp_X1_stateAt
set_option maxRecDepth 20000 in
theorem ggX4_stamp_X3_timeOf : GoodIn wsX4_stamp wsX3_timeOf := goodIn_r _ [15, 16, 17, 29, 30, 31, 32, 33, 34] (by decide +kernel) (by decide +kernel)
set_option maxRecDepth 20000 in
theorem gX4_stamp_X3_timeOf : GoodIn wsX4_stamp (wsV RX4 206 RX3 yX3_timeOf wsX3_timeOf) := goodIn_app (goodIn_of _ (by decide +kernel)) ggX4_stamp_X3_timeOf
theorem dX4_stamp_0 : decode cX4_stamp 0 = .ok (.aload_n 0, 1) := by decide +kernel
theorem dX4_stamp_1 : decode cX4_stamp 1 = .ok (.getfield 12, 3) := by decide +kernel
theorem dX4_stamp_4 : decode cX4_stamp 4 = .ok (.aload_n 0, 1) := by decide +kernel
theorem dX4_stamp_5 : decode cX4_stamp 5 = .ok (.getfield 19, 3) := by decide +kernel
theorem dX4_stamp_8 : decode cX4_stamp 8 = .ok (.iload_n 1, 1) := by decide +kernel
theorem dX4_stamp_9 : decode cX4_stamp 9 = .ok (.invokevirtual 184, 3) := by decide +kernel
theorem dX4_stamp_12 : decode cX4_stamp 12 = .ok (.invokevirtual 206, 3) := by decide +kernel
theorem dX4_stamp_15 : decode cX4_stamp 15 = .ok (.istore_n 3, 1) := by decide +kernel
theorem dX4_stamp_16 : decode cX4_stamp 16 = .ok (.aload_n 0, 1) := by decide +kernel
theorem dX4_stamp_17 : decode cX4_stamp 17 = .ok (.getfield 19, 3) := by decide +kernel
theorem dX4_stamp_20 : decode cX4_stamp 20 = .ok (.getfield 212, 3) := by decide +kernel
theorem dX4_stamp_23 : decode cX4_stamp 23 = .ok (.iload_n 1, 1) := by decide +kernel
theorem dX4_stamp_24 : decode cX4_stamp 24 = .ok (.iload_n 3, 1) := by decide +kernel
theorem dX4_stamp_25 : decode cX4_stamp 25 = .ok (.iastore, 1) := by decide +kernel
theorem dX4_stamp_26 : decode cX4_stamp 26 = .ok (.aload_n 0, 1) := by decide +kernel
theorem dX4_stamp_27 : decode cX4_stamp 27 = .ok (.getfield 19, 3) := by decide +kernel
theorem dX4_stamp_30 : decode cX4_stamp 30 = .ok (.getfield 187, 3) := by decide +kernel
theorem dX4_stamp_33 : decode cX4_stamp 33 = .ok (.iload_n 1, 1) := by decide +kernel
theorem dX4_stamp_34 : decode cX4_stamp 34 = .ok (.iload_n 3, 1) := by decide +kernel
theorem dX4_stamp_35 : decode cX4_stamp 35 = .ok (.iload_n 2, 1) := by decide +kernel
theorem dX4_stamp_36 : decode cX4_stamp 36 = .ok (.iadd, 1) := by decide +kernel
theorem dX4_stamp_37 : decode cX4_stamp 37 = .ok (.iastore, 1) := by decide +kernel
theorem dX4_stamp_38 : decode cX4_stamp 38 = .ok (.return_, 1) := by decide +kernel
set_option maxRecDepth 20000 in
theorem ggX4_read_X1_stateAt : GoodIn wsX4_read wsX1_stateAt := goodIn_r _ [10, 11, 42, 43, 44, 45, 46, 47] (by decide +kernel) (by decide +kernel)
set_option maxRecDepth 20000 in
theorem gX4_read_X1_stateAt : GoodIn wsX4_read (wsV RX4 184 RX1 yX1_stateAt wsX1_stateAt) := goodIn_app (goodIn_of _ (by decide +kernel)) ggX4_read_X1_stateAt
set_option maxRecDepth 20000 in
theorem ggX4_read_X3_isStampedByReads : GoodIn wsX4_read wsX3_isStampedByReads := goodIn_r _ [16, 17, 36, 37, 38, 39, 40, 41] (by decide +kernel) (by decide +kernel)
set_option maxRecDepth 20000 in
theorem gX4_read_X3_isStampedByReads : GoodIn wsX4_read (wsV RX4 215 RX3 yX3_isStampedByReads wsX3_isStampedByReads) := goodIn_app (goodIn_of _ (by decide +kernel)) ggX4_read_X3_isStampedByReads
set_option maxRecDepth 20000 in
theorem ggX4_read_X4_stamp : GoodIn wsX4_read wsX4_stamp := goodIn_r _ [22, 3, 2, 23, 24, 6, 7, 8, 9, 10, 11, 25, 26, 27, 15, 28, 29, 30, 31, 32, 33, 34, 35, 42, 43, 44, 45, 46, 47, 36, 37, 38, 39, 40, 41] (by decide +kernel) (by decide +kernel)
set_option maxRecDepth 20000 in
theorem gX4_read_X4_stamp : GoodIn wsX4_read (wsV RX4 175 RX4 yX4_stamp wsX4_stamp) := goodIn_app (goodIn_of _ (by decide +kernel)) ggX4_read_X4_stamp
theorem dX4_read_0 : decode cX4_read 0 = .ok (.iload_n 1, 1) := by decide +kernel
theorem dX4_read_1 : decode cX4_read 1 = .ok (.iconst (-1), 1) := by decide +kernel
theorem dX4_read_2 : decode cX4_read 2 = .ok (.if_icmp .ne 6, 3) := by decide +kernel
theorem dX4_read_5 : decode cX4_read 5 = .ok (.ldc 114, 2) := by decide +kernel
theorem dX4_read_7 : decode cX4_read 7 = .ok (.ireturn, 1) := by decide +kernel
theorem dX4_read_8 : decode cX4_read 8 = .ok (.aload_n 0, 1) := by decide +kernel
theorem dX4_read_9 : decode cX4_read 9 = .ok (.getfield 19, 3) := by decide +kernel
theorem dX4_read_12 : decode cX4_read 12 = .ok (.iload_n 1, 1) := by decide +kernel
theorem dX4_read_13 : decode cX4_read 13 = .ok (.invokevirtual 184, 3) := by decide +kernel
theorem dX4_read_16 : decode cX4_read 16 = .ok (.istore_n 2, 1) := by decide +kernel
theorem dX4_read_17 : decode cX4_read 17 = .ok (.aload_n 0, 1) := by decide +kernel
theorem dX4_read_18 : decode cX4_read 18 = .ok (.getfield 12, 3) := by decide +kernel
theorem dX4_read_21 : decode cX4_read 21 = .ok (.iload_n 2, 1) := by decide +kernel
theorem dX4_read_22 : decode cX4_read 22 = .ok (.invokevirtual 215, 3) := by decide +kernel
theorem dX4_read_25 : decode cX4_read 25 = .ok (.ifCond .eq 17, 3) := by decide +kernel
theorem dX4_read_28 : decode cX4_read 28 = .ok (.aload_n 0, 1) := by decide +kernel
theorem dX4_read_29 : decode cX4_read 29 = .ok (.iload_n 1, 1) := by decide +kernel
theorem dX4_read_30 : decode cX4_read 30 = .ok (.aload_n 0, 1) := by decide +kernel
theorem dX4_read_31 : decode cX4_read 31 = .ok (.getfield 12, 3) := by decide +kernel
theorem dX4_read_34 : decode cX4_read 34 = .ok (.getfield 130, 3) := by decide +kernel
theorem dX4_read_37 : decode cX4_read 37 = .ok (.iload_n 2, 1) := by decide +kernel
theorem dX4_read_38 : decode cX4_read 38 = .ok (.iaload, 1) := by decide +kernel
theorem dX4_read_39 : decode cX4_read 39 = .ok (.invokevirtual 175, 3) := by decide +kernel
theorem dX4_read_42 : decode cX4_read 42 = .ok (.aload_n 0, 1) := by decide +kernel
theorem dX4_read_43 : decode cX4_read 43 = .ok (.getfield 19, 3) := by decide +kernel
theorem dX4_read_46 : decode cX4_read 46 = .ok (.getfield 151, 3) := by decide +kernel
theorem dX4_read_49 : decode cX4_read 49 = .ok (.iload_n 1, 1) := by decide +kernel
theorem dX4_read_50 : decode cX4_read 50 = .ok (.iaload, 1) := by decide +kernel
theorem dX4_read_51 : decode cX4_read 51 = .ok (.ireturn, 1) := by decide +kernel
set_option maxRecDepth 20000 in
theorem ggX4_tell_X2_begin : GoodIn wsX4_tell wsX2_begin := goodIn_r _ [12, 13, 14, 15, 16, 17, 18, 11, 19, 39, 40, 41, 42] (by decide +kernel) (by decide +kernel)
set_option maxRecDepth 20000 in
theorem gX4_tell_X2_begin : GoodIn wsX4_tell (wsV RX4 218 RX2 yX2_begin wsX2_begin) := goodIn_app (goodIn_of _ (by decide +kernel)) ggX4_tell_X2_begin
set_option maxRecDepth 20000 in
theorem ggX4_tell_X1_stateAt : GoodIn wsX4_tell wsX1_stateAt := goodIn_r _ [24, 25, 43, 44, 45, 46, 47, 48] (by decide +kernel) (by decide +kernel)
set_option maxRecDepth 20000 in
theorem gX4_tell_X1_stateAt : GoodIn wsX4_tell (wsV RX4 184 RX1 yX1_stateAt wsX1_stateAt) := goodIn_app (goodIn_of _ (by decide +kernel)) ggX4_tell_X1_stateAt
set_option maxRecDepth 20000 in
theorem ggX4_tell_X1_keyAt : GoodIn wsX4_tell wsX1_keyAt := goodIn_r _ [29, 25, 43, 44, 45, 46, 47, 48] (by decide +kernel) (by decide +kernel)
set_option maxRecDepth 20000 in
theorem gX4_tell_X1_keyAt : GoodIn wsX4_tell (wsV RX4 203 RX1 yX1_keyAt wsX1_keyAt) := goodIn_app (goodIn_of _ (by decide +kernel)) ggX4_tell_X1_keyAt
set_option maxRecDepth 20000 in
theorem ggX4_tell_X1_memberAt : GoodIn wsX4_tell wsX1_memberAt := goodIn_r _ [33, 25, 43, 44, 45, 46, 47, 48] (by decide +kernel) (by decide +kernel)
set_option maxRecDepth 20000 in
theorem gX4_tell_X1_memberAt : GoodIn wsX4_tell (wsV RX4 223 RX1 yX1_memberAt wsX1_memberAt) := goodIn_app (goodIn_of _ (by decide +kernel)) ggX4_tell_X1_memberAt
theorem dX4_tell_0 : decode cX4_tell 0 = .ok (.aload_n 0, 1) := by decide +kernel
theorem dX4_tell_1 : decode cX4_tell 1 = .ok (.getfield 26, 3) := by decide +kernel
theorem dX4_tell_4 : decode cX4_tell 4 = .ok (.invokevirtual 218, 3) := by decide +kernel
theorem dX4_tell_7 : decode cX4_tell 7 = .ok (.istore_n 2, 1) := by decide +kernel
theorem dX4_tell_8 : decode cX4_tell 8 = .ok (.aload_n 0, 1) := by decide +kernel
theorem dX4_tell_9 : decode cX4_tell 9 = .ok (.getfield 26, 3) := by decide +kernel
theorem dX4_tell_12 : decode cX4_tell 12 = .ok (.getfield 220, 3) := by decide +kernel
theorem dX4_tell_15 : decode cX4_tell 15 = .ok (.iload_n 2, 1) := by decide +kernel
theorem dX4_tell_16 : decode cX4_tell 16 = .ok (.aload_n 0, 1) := by decide +kernel
theorem dX4_tell_17 : decode cX4_tell 17 = .ok (.getfield 19, 3) := by decide +kernel
theorem dX4_tell_20 : decode cX4_tell 20 = .ok (.iload_n 1, 1) := by decide +kernel
theorem dX4_tell_21 : decode cX4_tell 21 = .ok (.invokevirtual 184, 3) := by decide +kernel
theorem dX4_tell_24 : decode cX4_tell 24 = .ok (.iastore, 1) := by decide +kernel
theorem dX4_tell_25 : decode cX4_tell 25 = .ok (.aload_n 0, 1) := by decide +kernel
theorem dX4_tell_26 : decode cX4_tell 26 = .ok (.getfield 26, 3) := by decide +kernel
theorem dX4_tell_29 : decode cX4_tell 29 = .ok (.getfield 220, 3) := by decide +kernel
theorem dX4_tell_32 : decode cX4_tell 32 = .ok (.iload_n 2, 1) := by decide +kernel
theorem dX4_tell_33 : decode cX4_tell 33 = .ok (.iconst 1, 1) := by decide +kernel
theorem dX4_tell_34 : decode cX4_tell 34 = .ok (.iadd, 1) := by decide +kernel
theorem dX4_tell_35 : decode cX4_tell 35 = .ok (.aload_n 0, 1) := by decide +kernel
theorem dX4_tell_36 : decode cX4_tell 36 = .ok (.getfield 19, 3) := by decide +kernel
theorem dX4_tell_39 : decode cX4_tell 39 = .ok (.iload_n 1, 1) := by decide +kernel
theorem dX4_tell_40 : decode cX4_tell 40 = .ok (.invokevirtual 203, 3) := by decide +kernel
theorem dX4_tell_43 : decode cX4_tell 43 = .ok (.iastore, 1) := by decide +kernel
theorem dX4_tell_44 : decode cX4_tell 44 = .ok (.aload_n 0, 1) := by decide +kernel
theorem dX4_tell_45 : decode cX4_tell 45 = .ok (.getfield 26, 3) := by decide +kernel
theorem dX4_tell_48 : decode cX4_tell 48 = .ok (.getfield 220, 3) := by decide +kernel
theorem dX4_tell_51 : decode cX4_tell 51 = .ok (.iload_n 2, 1) := by decide +kernel
theorem dX4_tell_52 : decode cX4_tell 52 = .ok (.iconst 2, 1) := by decide +kernel
theorem dX4_tell_53 : decode cX4_tell 53 = .ok (.iadd, 1) := by decide +kernel
theorem dX4_tell_54 : decode cX4_tell 54 = .ok (.aload_n 0, 1) := by decide +kernel
theorem dX4_tell_55 : decode cX4_tell 55 = .ok (.getfield 19, 3) := by decide +kernel
theorem dX4_tell_58 : decode cX4_tell 58 = .ok (.iload_n 1, 1) := by decide +kernel
theorem dX4_tell_59 : decode cX4_tell 59 = .ok (.invokevirtual 223, 3) := by decide +kernel
theorem dX4_tell_62 : decode cX4_tell 62 = .ok (.iastore, 1) := by decide +kernel
theorem dX4_tell_63 : decode cX4_tell 63 = .ok (.aload_n 0, 1) := by decide +kernel
theorem dX4_tell_64 : decode cX4_tell 64 = .ok (.getfield 26, 3) := by decide +kernel
theorem dX4_tell_67 : decode cX4_tell 67 = .ok (.getfield 220, 3) := by decide +kernel
theorem dX4_tell_70 : decode cX4_tell 70 = .ok (.iload_n 2, 1) := by decide +kernel
theorem dX4_tell_71 : decode cX4_tell 71 = .ok (.iconst 3, 1) := by decide +kernel
theorem dX4_tell_72 : decode cX4_tell 72 = .ok (.iadd, 1) := by decide +kernel
theorem dX4_tell_73 : decode cX4_tell 73 = .ok (.aload_n 0, 1) := by decide +kernel
theorem dX4_tell_74 : decode cX4_tell 74 = .ok (.getfield 19, 3) := by decide +kernel
theorem dX4_tell_77 : decode cX4_tell 77 = .ok (.getfield 151, 3) := by decide +kernel
theorem dX4_tell_80 : decode cX4_tell 80 = .ok (.iload_n 1, 1) := by decide +kernel
theorem dX4_tell_81 : decode cX4_tell 81 = .ok (.iaload, 1) := by decide +kernel
theorem dX4_tell_82 : decode cX4_tell 82 = .ok (.iastore, 1) := by decide +kernel
theorem dX4_tell_83 : decode cX4_tell 83 = .ok (.aload_n 0, 1) := by decide +kernel
theorem dX4_tell_84 : decode cX4_tell 84 = .ok (.getfield 26, 3) := by decide +kernel
theorem dX4_tell_87 : decode cX4_tell 87 = .ok (.getfield 220, 3) := by decide +kernel
theorem dX4_tell_90 : decode cX4_tell 90 = .ok (.iload_n 2, 1) := by decide +kernel
theorem dX4_tell_91 : decode cX4_tell 91 = .ok (.iconst 4, 1) := by decide +kernel
theorem dX4_tell_92 : decode cX4_tell 92 = .ok (.iadd, 1) := by decide +kernel
theorem dX4_tell_93 : decode cX4_tell 93 = .ok (.aload_n 0, 1) := by decide +kernel
theorem dX4_tell_94 : decode cX4_tell 94 = .ok (.getfield 19, 3) := by decide +kernel
theorem dX4_tell_97 : decode cX4_tell 97 = .ok (.getfield 187, 3) := by decide +kernel
theorem dX4_tell_100 : decode cX4_tell 100 = .ok (.iload_n 1, 1) := by decide +kernel
theorem dX4_tell_101 : decode cX4_tell 101 = .ok (.iaload, 1) := by decide +kernel
theorem dX4_tell_102 : decode cX4_tell 102 = .ok (.iastore, 1) := by decide +kernel
theorem dX4_tell_103 : decode cX4_tell 103 = .ok (.aload_n 0, 1) := by decide +kernel
theorem dX4_tell_104 : decode cX4_tell 104 = .ok (.getfield 26, 3) := by decide +kernel
theorem dX4_tell_107 : decode cX4_tell 107 = .ok (.getfield 220, 3) := by decide +kernel
theorem dX4_tell_110 : decode cX4_tell 110 = .ok (.iload_n 2, 1) := by decide +kernel
theorem dX4_tell_111 : decode cX4_tell 111 = .ok (.iconst 5, 1) := by decide +kernel
theorem dX4_tell_112 : decode cX4_tell 112 = .ok (.iadd, 1) := by decide +kernel
theorem dX4_tell_113 : decode cX4_tell 113 = .ok (.aload_n 0, 1) := by decide +kernel
theorem dX4_tell_114 : decode cX4_tell 114 = .ok (.getfield 12, 3) := by decide +kernel
theorem dX4_tell_117 : decode cX4_tell 117 = .ok (.getfield 119, 3) := by decide +kernel
theorem dX4_tell_120 : decode cX4_tell 120 = .ok (.iconst 0, 1) := by decide +kernel
theorem dX4_tell_121 : decode cX4_tell 121 = .ok (.iaload, 1) := by decide +kernel
theorem dX4_tell_122 : decode cX4_tell 122 = .ok (.iastore, 1) := by decide +kernel
theorem dX4_tell_123 : decode cX4_tell 123 = .ok (.return_, 1) := by decide +kernel
set_option maxRecDepth 20000 in
theorem ggX4_moveClock_X4_howManyShown : GoodIn wsX4_moveClock wsX4_howManyShown := goodIn_r _ [7, 8, 9, 10, 11, 12, 13, 6, 14, 15, 16, 17, 18, 19, 1, 20, 21, 22, 23, 24, 25, 26, 27, 28, 29, 30, 31, 32, 33, 34, 35, 36, 37, 44, 45, 46, 47, 48, 49, 38, 39, 40, 41, 42, 43] (by decide +kernel) (by decide +kernel)
set_option maxRecDepth 20000 in
theorem gX4_moveClock_X4_howManyShown : GoodIn wsX4_moveClock (wsV RX4 190 RX4 yX4_howManyShown wsX4_howManyShown) := goodIn_app (goodIn_of _ (by decide +kernel)) ggX4_moveClock_X4_howManyShown
theorem dX4_moveClock_0 : decode cX4_moveClock 0 = .ok (.aload_n 0, 1) := by decide +kernel
theorem dX4_moveClock_1 : decode cX4_moveClock 1 = .ok (.invokevirtual 190, 3) := by decide +kernel
theorem dX4_moveClock_4 : decode cX4_moveClock 4 = .ok (.istore_n 3, 1) := by decide +kernel
theorem dX4_moveClock_5 : decode cX4_moveClock 5 = .ok (.aload_n 0, 1) := by decide +kernel
theorem dX4_moveClock_6 : decode cX4_moveClock 6 = .ok (.getfield 12, 3) := by decide +kernel
theorem dX4_moveClock_9 : decode cX4_moveClock 9 = .ok (.getfield 119, 3) := by decide +kernel
theorem dX4_moveClock_12 : decode cX4_moveClock 12 = .ok (.iload_n 1, 1) := by decide +kernel
theorem dX4_moveClock_13 : decode cX4_moveClock 13 = .ok (.iload_n 2, 1) := by decide +kernel
theorem dX4_moveClock_14 : decode cX4_moveClock 14 = .ok (.iastore, 1) := by decide +kernel
theorem dX4_moveClock_15 : decode cX4_moveClock 15 = .ok (.iload_n 3, 1) := by decide +kernel
theorem dX4_moveClock_16 : decode cX4_moveClock 16 = .ok (.aload_n 0, 1) := by decide +kernel
theorem dX4_moveClock_17 : decode cX4_moveClock 17 = .ok (.invokevirtual 190, 3) := by decide +kernel
theorem dX4_moveClock_20 : decode cX4_moveClock 20 = .ok (.isub, 1) := by decide +kernel
theorem dX4_moveClock_21 : decode cX4_moveClock 21 = .ok (.ireturn, 1) := by decide +kernel
set_option maxRecDepth 20000 in
theorem ggX4_spanShownAnew_X1_stateAt : GoodIn wsX4_spanShownAnew wsX1_stateAt := goodIn_r _ [12, 13, 35, 36, 37, 38, 39, 40] (by decide +kernel) (by decide +kernel)
set_option maxRecDepth 20000 in
theorem gX4_spanShownAnew_X1_stateAt : GoodIn wsX4_spanShownAnew (wsV RX4 184 RX1 yX1_stateAt wsX1_stateAt) := goodIn_app (goodIn_of _ (by decide +kernel)) ggX4_spanShownAnew_X1_stateAt
set_option maxRecDepth 20000 in
theorem ggX4_spanShownAnew_X4_isShown : GoodIn wsX4_spanShownAnew wsX4_isShown := goodIn_r _ [18, 19, 20, 21, 17, 22, 1, 4, 6, 8, 9, 10, 11, 12, 13, 23, 24, 25, 26, 27, 28, 29, 30, 31, 32, 33, 34, 35, 36, 37, 38, 39, 40, 41, 42, 43, 44, 45, 46] (by decide +kernel) (by decide +kernel)
set_option maxRecDepth 20000 in
theorem gX4_spanShownAnew_X4_isShown : GoodIn wsX4_spanShownAnew (wsV RX4 71 RX4 yX4_isShown wsX4_isShown) := goodIn_app (goodIn_of _ (by decide +kernel)) ggX4_spanShownAnew_X4_isShown
theorem dX4_spanShownAnew_0 : decode cX4_spanShownAnew 0 = .ok (.iconst 0, 1) := by decide +kernel
theorem dX4_spanShownAnew_1 : decode cX4_spanShownAnew 1 = .ok (.istore_n 2, 1) := by decide +kernel
theorem dX4_spanShownAnew_2 : decode cX4_spanShownAnew 2 = .ok (.iload_n 2, 1) := by decide +kernel
theorem dX4_spanShownAnew_3 : decode cX4_spanShownAnew 3 = .ok (.aload_n 0, 1) := by decide +kernel
theorem dX4_spanShownAnew_4 : decode cX4_spanShownAnew 4 = .ok (.getfield 19, 3) := by decide +kernel
theorem dX4_spanShownAnew_7 : decode cX4_spanShownAnew 7 = .ok (.getfield 142, 3) := by decide +kernel
theorem dX4_spanShownAnew_10 : decode cX4_spanShownAnew 10 = .ok (.if_icmp .ge 67, 3) := by decide +kernel
theorem dX4_spanShownAnew_13 : decode cX4_spanShownAnew 13 = .ok (.aload_n 0, 1) := by decide +kernel
theorem dX4_spanShownAnew_14 : decode cX4_spanShownAnew 14 = .ok (.getfield 19, 3) := by decide +kernel
theorem dX4_spanShownAnew_17 : decode cX4_spanShownAnew 17 = .ok (.getfield 145, 3) := by decide +kernel
theorem dX4_spanShownAnew_20 : decode cX4_spanShownAnew 20 = .ok (.iload_n 2, 1) := by decide +kernel
theorem dX4_spanShownAnew_21 : decode cX4_spanShownAnew 21 = .ok (.iaload, 1) := by decide +kernel
theorem dX4_spanShownAnew_22 : decode cX4_spanShownAnew 22 = .ok (.istore_n 3, 1) := by decide +kernel
theorem dX4_spanShownAnew_23 : decode cX4_spanShownAnew 23 = .ok (.aload_n 0, 1) := by decide +kernel
theorem dX4_spanShownAnew_24 : decode cX4_spanShownAnew 24 = .ok (.getfield 19, 3) := by decide +kernel
theorem dX4_spanShownAnew_27 : decode cX4_spanShownAnew 27 = .ok (.iload_n 3, 1) := by decide +kernel
theorem dX4_spanShownAnew_28 : decode cX4_spanShownAnew 28 = .ok (.invokevirtual 184, 3) := by decide +kernel
theorem dX4_spanShownAnew_31 : decode cX4_spanShownAnew 31 = .ok (.iload_n 1, 1) := by decide +kernel
theorem dX4_spanShownAnew_32 : decode cX4_spanShownAnew 32 = .ok (.if_icmp .ne 39, 3) := by decide +kernel
theorem dX4_spanShownAnew_35 : decode cX4_spanShownAnew 35 = .ok (.aload_n 0, 1) := by decide +kernel
theorem dX4_spanShownAnew_36 : decode cX4_spanShownAnew 36 = .ok (.iload_n 3, 1) := by decide +kernel
theorem dX4_spanShownAnew_37 : decode cX4_spanShownAnew 37 = .ok (.invokevirtual 71, 3) := by decide +kernel
theorem dX4_spanShownAnew_40 : decode cX4_spanShownAnew 40 = .ok (.ifCond .eq 31, 3) := by decide +kernel
theorem dX4_spanShownAnew_43 : decode cX4_spanShownAnew 43 = .ok (.aload_n 0, 1) := by decide +kernel
theorem dX4_spanShownAnew_44 : decode cX4_spanShownAnew 44 = .ok (.getfield 19, 3) := by decide +kernel
theorem dX4_spanShownAnew_47 : decode cX4_spanShownAnew 47 = .ok (.getfield 187, 3) := by decide +kernel
theorem dX4_spanShownAnew_50 : decode cX4_spanShownAnew 50 = .ok (.iload_n 3, 1) := by decide +kernel
theorem dX4_spanShownAnew_51 : decode cX4_spanShownAnew 51 = .ok (.aload_n 0, 1) := by decide +kernel
theorem dX4_spanShownAnew_52 : decode cX4_spanShownAnew 52 = .ok (.getfield 19, 3) := by decide +kernel
theorem dX4_spanShownAnew_55 : decode cX4_spanShownAnew 55 = .ok (.getfield 212, 3) := by decide +kernel
theorem dX4_spanShownAnew_58 : decode cX4_spanShownAnew 58 = .ok (.iload_n 3, 1) := by decide +kernel
theorem dX4_spanShownAnew_59 : decode cX4_spanShownAnew 59 = .ok (.iaload, 1) := by decide +kernel
theorem dX4_spanShownAnew_60 : decode cX4_spanShownAnew 60 = .ok (.aload_n 0, 1) := by decide +kernel
theorem dX4_spanShownAnew_61 : decode cX4_spanShownAnew 61 = .ok (.getfield 12, 3) := by decide +kernel
theorem dX4_spanShownAnew_64 : decode cX4_spanShownAnew 64 = .ok (.getfield 130, 3) := by decide +kernel
theorem dX4_spanShownAnew_67 : decode cX4_spanShownAnew 67 = .ok (.iload_n 1, 1) := by decide +kernel
theorem dX4_spanShownAnew_68 : decode cX4_spanShownAnew 68 = .ok (.iaload, 1) := by decide +kernel
theorem dX4_spanShownAnew_69 : decode cX4_spanShownAnew 69 = .ok (.iadd, 1) := by decide +kernel
theorem dX4_spanShownAnew_70 : decode cX4_spanShownAnew 70 = .ok (.iastore, 1) := by decide +kernel
theorem dX4_spanShownAnew_71 : decode cX4_spanShownAnew 71 = .ok (.iinc 2 1, 3) := by decide +kernel
theorem dX4_spanShownAnew_74 : decode cX4_spanShownAnew 74 = .ok (.goto (-72), 3) := by decide +kernel
theorem dX4_spanShownAnew_77 : decode cX4_spanShownAnew 77 = .ok (.return_, 1) := by decide +kernel
theorem dX5_init_0 : decode cX5_init 0 = .ok (.aload_n 0, 1) := by decide +kernel
theorem dX5_init_1 : decode cX5_init 1 = .ok (.invokespecial 1, 3) := by decide +kernel
theorem dX5_init_4 : decode cX5_init 4 = .ok (.aload_n 0, 1) := by decide +kernel
theorem dX5_init_5 : decode cX5_init 5 = .ok (.bipush 6, 2) := by decide +kernel
theorem dX5_init_7 : decode cX5_init 7 = .ok (.newarray .int, 2) := by decide +kernel
theorem dX5_init_9 : decode cX5_init 9 = .ok (.putfield 7, 3) := by decide +kernel
theorem dX5_init_12 : decode cX5_init 12 = .ok (.aload_n 0, 1) := by decide +kernel
theorem dX5_init_13 : decode cX5_init 13 = .ok (.bipush 6, 2) := by decide +kernel
theorem dX5_init_15 : decode cX5_init 15 = .ok (.newarray .int, 2) := by decide +kernel
theorem dX5_init_17 : decode cX5_init 17 = .ok (.putfield 13, 3) := by decide +kernel
theorem dX5_init_20 : decode cX5_init 20 = .ok (.aload_n 0, 1) := by decide +kernel
theorem dX5_init_21 : decode cX5_init 21 = .ok (.bipush 6, 2) := by decide +kernel
theorem dX5_init_23 : decode cX5_init 23 = .ok (.newarray .int, 2) := by decide +kernel
theorem dX5_init_25 : decode cX5_init 25 = .ok (.putfield 16, 3) := by decide +kernel
theorem dX5_init_28 : decode cX5_init 28 = .ok (.aload_n 0, 1) := by decide +kernel
theorem dX5_init_29 : decode cX5_init 29 = .ok (.bipush 6, 2) := by decide +kernel
theorem dX5_init_31 : decode cX5_init 31 = .ok (.newarray .int, 2) := by decide +kernel
theorem dX5_init_33 : decode cX5_init 33 = .ok (.putfield 19, 3) := by decide +kernel
theorem dX5_init_36 : decode cX5_init 36 = .ok (.aload_n 0, 1) := by decide +kernel
theorem dX5_init_37 : decode cX5_init 37 = .ok (.iconst 2, 1) := by decide +kernel
theorem dX5_init_38 : decode cX5_init 38 = .ok (.newarray .int, 2) := by decide +kernel
theorem dX5_init_40 : decode cX5_init 40 = .ok (.putfield 22, 3) := by decide +kernel
theorem dX5_init_43 : decode cX5_init 43 = .ok (.aload_n 0, 1) := by decide +kernel
theorem dX5_init_44 : decode cX5_init 44 = .ok (.sipush 200, 3) := by decide +kernel
theorem dX5_init_47 : decode cX5_init 47 = .ok (.newarray .int, 2) := by decide +kernel
theorem dX5_init_49 : decode cX5_init 49 = .ok (.putfield 25, 3) := by decide +kernel
theorem dX5_init_52 : decode cX5_init 52 = .ok (.aload_n 0, 1) := by decide +kernel
theorem dX5_init_53 : decode cX5_init 53 = .ok (.sipush 200, 3) := by decide +kernel
theorem dX5_init_56 : decode cX5_init 56 = .ok (.newarray .int, 2) := by decide +kernel
theorem dX5_init_58 : decode cX5_init 58 = .ok (.putfield 28, 3) := by decide +kernel
theorem dX5_init_61 : decode cX5_init 61 = .ok (.aload_n 0, 1) := by decide +kernel
theorem dX5_init_62 : decode cX5_init 62 = .ok (.sipush 200, 3) := by decide +kernel
theorem dX5_init_65 : decode cX5_init 65 = .ok (.newarray .int, 2) := by decide +kernel
theorem dX5_init_67 : decode cX5_init 67 = .ok (.putfield 31, 3) := by decide +kernel
theorem dX5_init_70 : decode cX5_init 70 = .ok (.aload_n 0, 1) := by decide +kernel
theorem dX5_init_71 : decode cX5_init 71 = .ok (.sipush 200, 3) := by decide +kernel
theorem dX5_init_74 : decode cX5_init 74 = .ok (.newarray .int, 2) := by decide +kernel
theorem dX5_init_76 : decode cX5_init 76 = .ok (.putfield 34, 3) := by decide +kernel
theorem dX5_init_79 : decode cX5_init 79 = .ok (.aload_n 0, 1) := by decide +kernel
theorem dX5_init_80 : decode cX5_init 80 = .ok (.sipush 200, 3) := by decide +kernel
theorem dX5_init_83 : decode cX5_init 83 = .ok (.newarray .int, 2) := by decide +kernel
theorem dX5_init_85 : decode cX5_init 85 = .ok (.putfield 37, 3) := by decide +kernel
theorem dX5_init_88 : decode cX5_init 88 = .ok (.aload_n 0, 1) := by decide +kernel
theorem dX5_init_89 : decode cX5_init 89 = .ok (.sipush 200, 3) := by decide +kernel
theorem dX5_init_92 : decode cX5_init 92 = .ok (.newarray .int, 2) := by decide +kernel
theorem dX5_init_94 : decode cX5_init 94 = .ok (.putfield 40, 3) := by decide +kernel
theorem dX5_init_97 : decode cX5_init 97 = .ok (.aload_n 0, 1) := by decide +kernel
theorem dX5_init_98 : decode cX5_init 98 = .ok (.sipush 200, 3) := by decide +kernel
theorem dX5_init_101 : decode cX5_init 101 = .ok (.newarray .int, 2) := by decide +kernel
theorem dX5_init_103 : decode cX5_init 103 = .ok (.putfield 43, 3) := by decide +kernel
theorem dX5_init_106 : decode cX5_init 106 = .ok (.aload_n 0, 1) := by decide +kernel
theorem dX5_init_107 : decode cX5_init 107 = .ok (.sipush 900, 3) := by decide +kernel
theorem dX5_init_110 : decode cX5_init 110 = .ok (.newarray .int, 2) := by decide +kernel
theorem dX5_init_112 : decode cX5_init 112 = .ok (.putfield 46, 3) := by decide +kernel
theorem dX5_init_115 : decode cX5_init 115 = .ok (.aload_n 0, 1) := by decide +kernel
theorem dX5_init_116 : decode cX5_init 116 = .ok (.iconst 3, 1) := by decide +kernel
theorem dX5_init_117 : decode cX5_init 117 = .ok (.newarray .int, 2) := by decide +kernel
theorem dX5_init_119 : decode cX5_init 119 = .ok (.putfield 49, 3) := by decide +kernel
theorem dX5_init_122 : decode cX5_init 122 = .ok (.aload_n 0, 1) := by decide +kernel
theorem dX5_init_123 : decode cX5_init 123 = .ok (.sipush 3000, 3) := by decide +kernel
theorem dX5_init_126 : decode cX5_init 126 = .ok (.newarray .int, 2) := by decide +kernel
theorem dX5_init_128 : decode cX5_init 128 = .ok (.putfield 52, 3) := by decide +kernel
theorem dX5_init_131 : decode cX5_init 131 = .ok (.iconst 0, 1) := by decide +kernel
theorem dX5_init_132 : decode cX5_init 132 = .ok (.istore_n 1, 1) := by decide +kernel
theorem dX5_init_133 : decode cX5_init 133 = .ok (.iload_n 1, 1) := by decide +kernel
theorem dX5_init_134 : decode cX5_init 134 = .ok (.sipush 200, 3) := by decide +kernel
theorem dX5_init_137 : decode cX5_init 137 = .ok (.if_icmp .ge 17, 3) := by decide +kernel
theorem dX5_init_140 : decode cX5_init 140 = .ok (.aload_n 0, 1) := by decide +kernel
theorem dX5_init_141 : decode cX5_init 141 = .ok (.getfield 25, 3) := by decide +kernel
theorem dX5_init_144 : decode cX5_init 144 = .ok (.iload_n 1, 1) := by decide +kernel
theorem dX5_init_145 : decode cX5_init 145 = .ok (.ldc 55, 2) := by decide +kernel
theorem dX5_init_147 : decode cX5_init 147 = .ok (.iastore, 1) := by decide +kernel
theorem dX5_init_148 : decode cX5_init 148 = .ok (.iinc 1 1, 3) := by decide +kernel
theorem dX5_init_151 : decode cX5_init 151 = .ok (.goto (-18), 3) := by decide +kernel
theorem dX5_init_154 : decode cX5_init 154 = .ok (.iconst 0, 1) := by decide +kernel
theorem dX5_init_155 : decode cX5_init 155 = .ok (.istore_n 1, 1) := by decide +kernel
theorem dX5_init_156 : decode cX5_init 156 = .ok (.iload_n 1, 1) := by decide +kernel
theorem dX5_init_157 : decode cX5_init 157 = .ok (.iconst 3, 1) := by decide +kernel
theorem dX5_init_158 : decode cX5_init 158 = .ok (.if_icmp .ge 17, 3) := by decide +kernel
theorem dX5_init_161 : decode cX5_init 161 = .ok (.aload_n 0, 1) := by decide +kernel
theorem dX5_init_162 : decode cX5_init 162 = .ok (.getfield 49, 3) := by decide +kernel
theorem dX5_init_165 : decode cX5_init 165 = .ok (.iload_n 1, 1) := by decide +kernel
theorem dX5_init_166 : decode cX5_init 166 = .ok (.ldc 55, 2) := by decide +kernel
theorem dX5_init_168 : decode cX5_init 168 = .ok (.iastore, 1) := by decide +kernel
theorem dX5_init_169 : decode cX5_init 169 = .ok (.iinc 1 1, 3) := by decide +kernel
theorem dX5_init_172 : decode cX5_init 172 = .ok (.goto (-16), 3) := by decide +kernel
theorem dX5_init_175 : decode cX5_init 175 = .ok (.return_, 1) := by decide +kernel
theorem dX5_isIn_0 : decode cX5_isIn 0 = .ok (.iload_n 0, 1) := by decide +kernel
theorem dX5_isIn_1 : decode cX5_isIn 1 = .ok (.iload_n 1, 1) := by decide +kernel
theorem dX5_isIn_2 : decode cX5_isIn 2 = .ok (.if_icmp .lt 12, 3) := by decide +kernel
theorem dX5_isIn_5 : decode cX5_isIn 5 = .ok (.iload_n 0, 1) := by decide +kernel
theorem dX5_isIn_6 : decode cX5_isIn 6 = .ok (.iload_n 2, 1) := by decide +kernel
theorem dX5_isIn_7 : decode cX5_isIn 7 = .ok (.if_icmp .gt 7, 3) := by decide +kernel
theorem dX5_isIn_10 : decode cX5_isIn 10 = .ok (.iconst 1, 1) := by decide +kernel
theorem dX5_isIn_11 : decode cX5_isIn 11 = .ok (.goto 4, 3) := by decide +kernel
theorem dX5_isIn_14 : decode cX5_isIn 14 = .ok (.iconst 0, 1) := by decide +kernel
theorem dX5_isIn_15 : decode cX5_isIn 15 = .ok (.ireturn, 1) := by decide +kernel
set_option maxRecDepth 20000 in
theorem ggX5_isState_X5_isIn : GoodIn wsX5_isState wsX5_isIn := goodIn_r _ [5] (by decide +kernel) (by decide +kernel)
set_option maxRecDepth 20000 in
theorem gX5_isState_X5_isIn : GoodIn wsX5_isState (va_wsS RX5 60 yX5_isIn wsX5_isIn) := goodIn_app (goodIn_of _ (by decide +kernel)) ggX5_isState_X5_isIn
theorem dX5_isState_0 : decode cX5_isState 0 = .ok (.iload_n 1, 1) := by decide +kernel
theorem dX5_isState_1 : decode cX5_isState 1 = .ok (.iconst 0, 1) := by decide +kernel
theorem dX5_isState_2 : decode cX5_isState 2 = .ok (.aload_n 0, 1) := by decide +kernel
theorem dX5_isState_3 : decode cX5_isState 3 = .ok (.getfield 56, 3) := by decide +kernel
theorem dX5_isState_6 : decode cX5_isState 6 = .ok (.iconst 1, 1) := by decide +kernel
theorem dX5_isState_7 : decode cX5_isState 7 = .ok (.isub, 1) := by decide +kernel
theorem dX5_isState_8 : decode cX5_isState 8 = .ok (.invokestatic 60, 3) := by decide +kernel
theorem dX5_isState_11 : decode cX5_isState 11 = .ok (.ireturn, 1) := by decide +kernel
set_option maxRecDepth 20000 in
theorem ggX5_isForm_X5_isState : GoodIn wsX5_isForm wsX5_isState := goodIn_r _ [6, 7, 8, 9, 5, 10, 11, 12, 13, 14, 15, 16, 17, 18, 19, 20, 21, 22, 23, 24, 25, 26, 27, 28, 29, 30] (by decide +kernel) (by decide +kernel)
set_option maxRecDepth 20000 in
theorem gX5_isForm_X5_isState : GoodIn wsX5_isForm (wsV RX5 64 RX5 yX5_isState wsX5_isState) := goodIn_app (goodIn_of _ (by decide +kernel)) ggX5_isForm_X5_isState
theorem dX5_isForm_0 : decode cX5_isForm 0 = .ok (.aload_n 0, 1) := by decide +kernel
theorem dX5_isForm_1 : decode cX5_isForm 1 = .ok (.iload_n 1, 1) := by decide +kernel
theorem dX5_isForm_2 : decode cX5_isForm 2 = .ok (.invokevirtual 64, 3) := by decide +kernel
theorem dX5_isForm_5 : decode cX5_isForm 5 = .ok (.ifCond .eq 17, 3) := by decide +kernel
theorem dX5_isForm_8 : decode cX5_isForm 8 = .ok (.aload_n 0, 1) := by decide +kernel
theorem dX5_isForm_9 : decode cX5_isForm 9 = .ok (.getfield 7, 3) := by decide +kernel
theorem dX5_isForm_12 : decode cX5_isForm 12 = .ok (.iload_n 1, 1) := by decide +kernel
theorem dX5_isForm_13 : decode cX5_isForm 13 = .ok (.iaload, 1) := by decide +kernel
theorem dX5_isForm_14 : decode cX5_isForm 14 = .ok (.iload_n 2, 1) := by decide +kernel
theorem dX5_isForm_15 : decode cX5_isForm 15 = .ok (.if_icmp .ne 7, 3) := by decide +kernel
theorem dX5_isForm_18 : decode cX5_isForm 18 = .ok (.iconst 1, 1) := by decide +kernel
theorem dX5_isForm_19 : decode cX5_isForm 19 = .ok (.goto 4, 3) := by decide +kernel
theorem dX5_isForm_22 : decode cX5_isForm 22 = .ok (.iconst 0, 1) := by decide +kernel
theorem dX5_isForm_23 : decode cX5_isForm 23 = .ok (.ireturn, 1) := by decide +kernel
set_option maxRecDepth 20000 in
theorem ggX5_state_X5_isIn : GoodIn wsX5_state wsX5_isIn := goodIn_r _ [10] (by decide +kernel) (by decide +kernel)
set_option maxRecDepth 20000 in
theorem gX5_state_X5_isIn : GoodIn wsX5_state (va_wsS RX5 60 yX5_isIn wsX5_isIn) := goodIn_app (goodIn_of _ (by decide +kernel)) ggX5_state_X5_isIn
theorem dX5_state_0 : decode cX5_state 0 = .ok (.iload_n 1, 1) := by decide +kernel
theorem dX5_state_1 : decode cX5_state 1 = .ok (.iconst 0, 1) := by decide +kernel
theorem dX5_state_2 : decode cX5_state 2 = .ok (.iconst 1, 1) := by decide +kernel
theorem dX5_state_3 : decode cX5_state 3 = .ok (.invokestatic 60, 3) := by decide +kernel
theorem dX5_state_6 : decode cX5_state 6 = .ok (.ifCond .eq 32, 3) := by decide +kernel
theorem dX5_state_9 : decode cX5_state 9 = .ok (.iload_n 2, 1) := by decide +kernel
theorem dX5_state_10 : decode cX5_state 10 = .ok (.iconst 0, 1) := by decide +kernel
theorem dX5_state_11 : decode cX5_state 11 = .ok (.iconst 1, 1) := by decide +kernel
theorem dX5_state_12 : decode cX5_state 12 = .ok (.invokestatic 60, 3) := by decide +kernel
theorem dX5_state_15 : decode cX5_state 15 = .ok (.ifCond .eq 23, 3) := by decide +kernel
theorem dX5_state_18 : decode cX5_state 18 = .ok (.iload_n 3, 1) := by decide +kernel
theorem dX5_state_19 : decode cX5_state 19 = .ok (.iconst 1, 1) := by decide +kernel
theorem dX5_state_20 : decode cX5_state 20 = .ok (.ldc 68, 2) := by decide +kernel
theorem dX5_state_22 : decode cX5_state 22 = .ok (.invokestatic 60, 3) := by decide +kernel
theorem dX5_state_25 : decode cX5_state 25 = .ok (.ifCond .eq 13, 3) := by decide +kernel
theorem dX5_state_28 : decode cX5_state 28 = .ok (.iload 4, 2) := by decide +kernel
theorem dX5_state_30 : decode cX5_state 30 = .ok (.iconst 0, 1) := by decide +kernel
theorem dX5_state_31 : decode cX5_state 31 = .ok (.iconst 1, 1) := by decide +kernel
theorem dX5_state_32 : decode cX5_state 32 = .ok (.invokestatic 60, 3) := by decide +kernel
theorem dX5_state_35 : decode cX5_state 35 = .ok (.ifCond .ne 5, 3) := by decide +kernel
theorem dX5_state_38 : decode cX5_state 38 = .ok (.iconst (-1), 1) := by decide +kernel
theorem dX5_state_39 : decode cX5_state 39 = .ok (.ireturn, 1) := by decide +kernel
theorem dX5_state_40 : decode cX5_state 40 = .ok (.aload_n 0, 1) := by decide +kernel
theorem dX5_state_41 : decode cX5_state 41 = .ok (.getfield 56, 3) := by decide +kernel
theorem dX5_state_44 : decode cX5_state 44 = .ok (.bipush 6, 2) := by decide +kernel
theorem dX5_state_46 : decode cX5_state 46 = .ok (.if_icmp .ne 6, 3) := by decide +kernel
theorem dX5_state_49 : decode cX5_state 49 = .ok (.bipush (-3), 2) := by decide +kernel
theorem dX5_state_51 : decode cX5_state 51 = .ok (.ireturn, 1) := by decide +kernel
theorem dX5_state_52 : decode cX5_state 52 = .ok (.aload_n 0, 1) := by decide +kernel
theorem dX5_state_53 : decode cX5_state 53 = .ok (.getfield 7, 3) := by decide +kernel
theorem dX5_state_56 : decode cX5_state 56 = .ok (.aload_n 0, 1) := by decide +kernel
theorem dX5_state_57 : decode cX5_state 57 = .ok (.getfield 56, 3) := by decide +kernel
theorem dX5_state_60 : decode cX5_state 60 = .ok (.iload_n 1, 1) := by decide +kernel
theorem dX5_state_61 : decode cX5_state 61 = .ok (.iastore, 1) := by decide +kernel
theorem dX5_state_62 : decode cX5_state 62 = .ok (.aload_n 0, 1) := by decide +kernel
theorem dX5_state_63 : decode cX5_state 63 = .ok (.getfield 13, 3) := by decide +kernel
theorem dX5_state_66 : decode cX5_state 66 = .ok (.aload_n 0, 1) := by decide +kernel
theorem dX5_state_67 : decode cX5_state 67 = .ok (.getfield 56, 3) := by decide +kernel
theorem dX5_state_70 : decode cX5_state 70 = .ok (.iload_n 2, 1) := by decide +kernel
theorem dX5_state_71 : decode cX5_state 71 = .ok (.iastore, 1) := by decide +kernel
theorem dX5_state_72 : decode cX5_state 72 = .ok (.aload_n 0, 1) := by decide +kernel
theorem dX5_state_73 : decode cX5_state 73 = .ok (.getfield 16, 3) := by decide +kernel
theorem dX5_state_76 : decode cX5_state 76 = .ok (.aload_n 0, 1) := by decide +kernel
theorem dX5_state_77 : decode cX5_state 77 = .ok (.getfield 56, 3) := by decide +kernel
theorem dX5_state_80 : decode cX5_state 80 = .ok (.iload_n 3, 1) := by decide +kernel
theorem dX5_state_81 : decode cX5_state 81 = .ok (.iastore, 1) := by decide +kernel
theorem dX5_state_82 : decode cX5_state 82 = .ok (.aload_n 0, 1) := by decide +kernel
theorem dX5_state_83 : decode cX5_state 83 = .ok (.getfield 19, 3) := by decide +kernel
theorem dX5_state_86 : decode cX5_state 86 = .ok (.aload_n 0, 1) := by decide +kernel
theorem dX5_state_87 : decode cX5_state 87 = .ok (.getfield 56, 3) := by decide +kernel
theorem dX5_state_90 : decode cX5_state 90 = .ok (.iload 4, 2) := by decide +kernel
theorem dX5_state_92 : decode cX5_state 92 = .ok (.iastore, 1) := by decide +kernel
theorem dX5_state_93 : decode cX5_state 93 = .ok (.aload_n 0, 1) := by decide +kernel
theorem dX5_state_94 : decode cX5_state 94 = .ok (.dup, 1) := by decide +kernel
theorem dX5_state_95 : decode cX5_state 95 = .ok (.getfield 56, 3) := by decide +kernel
theorem dX5_state_98 : decode cX5_state 98 = .ok (.iconst 1, 1) := by decide +kernel
theorem dX5_state_99 : decode cX5_state 99 = .ok (.iadd, 1) := by decide +kernel
theorem dX5_state_100 : decode cX5_state 100 = .ok (.putfield 56, 3) := by decide +kernel
theorem dX5_state_103 : decode cX5_state 103 = .ok (.aload_n 0, 1) := by decide +kernel
theorem dX5_state_104 : decode cX5_state 104 = .ok (.getfield 56, 3) := by decide +kernel
theorem dX5_state_107 : decode cX5_state 107 = .ok (.iconst 1, 1) := by decide +kernel
theorem dX5_state_108 : decode cX5_state 108 = .ok (.isub, 1) := by decide +kernel
theorem dX5_state_109 : decode cX5_state 109 = .ok (.ireturn, 1) := by decide +kernel
theorem dX5_clockOf_0 : decode cX5_clockOf 0 = .ok (.aload_n 0, 1) := by decide +kernel
theorem dX5_clockOf_1 : decode cX5_clockOf 1 = .ok (.getfield 22, 3) := by decide +kernel
theorem dX5_clockOf_4 : decode cX5_clockOf 4 = .ok (.aload_n 0, 1) := by decide +kernel
theorem dX5_clockOf_5 : decode cX5_clockOf 5 = .ok (.getfield 13, 3) := by decide +kernel
theorem dX5_clockOf_8 : decode cX5_clockOf 8 = .ok (.aload_n 0, 1) := by decide +kernel
theorem dX5_clockOf_9 : decode cX5_clockOf 9 = .ok (.getfield 25, 3) := by decide +kernel
theorem dX5_clockOf_12 : decode cX5_clockOf 12 = .ok (.iload_n 1, 1) := by decide +kernel
theorem dX5_clockOf_13 : decode cX5_clockOf 13 = .ok (.iaload, 1) := by decide +kernel
theorem dX5_clockOf_14 : decode cX5_clockOf 14 = .ok (.iaload, 1) := by decide +kernel
theorem dX5_clockOf_15 : decode cX5_clockOf 15 = .ok (.iaload, 1) := by decide +kernel
theorem dX5_clockOf_16 : decode cX5_clockOf 16 = .ok (.ireturn, 1) := by decide +kernel
set_option maxRecDepth 20000 in
theorem ggX5_isShown_X5_clockOf : GoodIn wsX5_isShown wsX5_clockOf := goodIn_r _ [8, 9, 10, 1, 11, 12, 13, 14, 15, 16, 17, 18, 19, 20, 21, 22, 23, 24, 25, 26, 27, 28, 29, 30] (by decide +kernel) (by decide +kernel)
set_option maxRecDepth 20000 in
theorem gX5_isShown_X5_clockOf : GoodIn wsX5_isShown (wsV RX5 69 RX5 yX5_clockOf wsX5_clockOf) := goodIn_app (goodIn_of _ (by decide +kernel)) ggX5_isShown_X5_clockOf
theorem dX5_isShown_0 : decode cX5_isShown 0 = .ok (.aload_n 0, 1) := by decide +kernel
theorem dX5_isShown_1 : decode cX5_isShown 1 = .ok (.getfield 25, 3) := by decide +kernel
theorem dX5_isShown_4 : decode cX5_isShown 4 = .ok (.iload_n 1, 1) := by decide +kernel
theorem dX5_isShown_5 : decode cX5_isShown 5 = .ok (.iaload, 1) := by decide +kernel
theorem dX5_isShown_6 : decode cX5_isShown 6 = .ok (.ldc 55, 2) := by decide +kernel
theorem dX5_isShown_8 : decode cX5_isShown 8 = .ok (.if_icmp .eq 21, 3) := by decide +kernel
theorem dX5_isShown_11 : decode cX5_isShown 11 = .ok (.aload_n 0, 1) := by decide +kernel
theorem dX5_isShown_12 : decode cX5_isShown 12 = .ok (.iload_n 1, 1) := by decide +kernel
theorem dX5_isShown_13 : decode cX5_isShown 13 = .ok (.invokevirtual 69, 3) := by decide +kernel
theorem dX5_isShown_16 : decode cX5_isShown 16 = .ok (.aload_n 0, 1) := by decide +kernel
theorem dX5_isShown_17 : decode cX5_isShown 17 = .ok (.getfield 40, 3) := by decide +kernel
theorem dX5_isShown_20 : decode cX5_isShown 20 = .ok (.iload_n 1, 1) := by decide +kernel
theorem dX5_isShown_21 : decode cX5_isShown 21 = .ok (.iaload, 1) := by decide +kernel
theorem dX5_isShown_22 : decode cX5_isShown 22 = .ok (.if_icmp .ge 7, 3) := by decide +kernel
theorem dX5_isShown_25 : decode cX5_isShown 25 = .ok (.iconst 1, 1) := by decide +kernel
theorem dX5_isShown_26 : decode cX5_isShown 26 = .ok (.goto 4, 3) := by decide +kernel
theorem dX5_isShown_29 : decode cX5_isShown 29 = .ok (.iconst 0, 1) := by decide +kernel
theorem dX5_isShown_30 : decode cX5_isShown 30 = .ok (.ireturn, 1) := by decide +kernel
set_option maxRecDepth 20000 in
theorem ggX5_isOver_X5_clockOf : GoodIn wsX5_isOver wsX5_clockOf := goodIn_r _ [8, 9, 10, 1, 11, 12, 13, 14, 15, 16, 17, 18, 19, 20, 21, 22, 23, 24, 25, 26, 27, 28, 29, 30] (by decide +kernel) (by decide +kernel)
set_option maxRecDepth 20000 in
theorem gX5_isOver_X5_clockOf : GoodIn wsX5_isOver (wsV RX5 69 RX5 yX5_clockOf wsX5_clockOf) := goodIn_app (goodIn_of _ (by decide +kernel)) ggX5_isOver_X5_clockOf
theorem dX5_isOver_0 : decode cX5_isOver 0 = .ok (.aload_n 0, 1) := by decide +kernel
theorem dX5_isOver_1 : decode cX5_isOver 1 = .ok (.getfield 25, 3) := by decide +kernel
theorem dX5_isOver_4 : decode cX5_isOver 4 = .ok (.iload_n 1, 1) := by decide +kernel
theorem dX5_isOver_5 : decode cX5_isOver 5 = .ok (.iaload, 1) := by decide +kernel
theorem dX5_isOver_6 : decode cX5_isOver 6 = .ok (.ldc 55, 2) := by decide +kernel
theorem dX5_isOver_8 : decode cX5_isOver 8 = .ok (.if_icmp .eq 21, 3) := by decide +kernel
theorem dX5_isOver_11 : decode cX5_isOver 11 = .ok (.aload_n 0, 1) := by decide +kernel
theorem dX5_isOver_12 : decode cX5_isOver 12 = .ok (.iload_n 1, 1) := by decide +kernel
theorem dX5_isOver_13 : decode cX5_isOver 13 = .ok (.invokevirtual 69, 3) := by decide +kernel
theorem dX5_isOver_16 : decode cX5_isOver 16 = .ok (.aload_n 0, 1) := by decide +kernel
theorem dX5_isOver_17 : decode cX5_isOver 17 = .ok (.getfield 40, 3) := by decide +kernel
theorem dX5_isOver_20 : decode cX5_isOver 20 = .ok (.iload_n 1, 1) := by decide +kernel
theorem dX5_isOver_21 : decode cX5_isOver 21 = .ok (.iaload, 1) := by decide +kernel
theorem dX5_isOver_22 : decode cX5_isOver 22 = .ok (.if_icmp .lt 7, 3) := by decide +kernel
theorem dX5_isOver_25 : decode cX5_isOver 25 = .ok (.iconst 1, 1) := by decide +kernel
theorem dX5_isOver_26 : decode cX5_isOver 26 = .ok (.goto 4, 3) := by decide +kernel
theorem dX5_isOver_29 : decode cX5_isOver 29 = .ok (.iconst 0, 1) := by decide +kernel
theorem dX5_isOver_30 : decode cX5_isOver 30 = .ok (.ireturn, 1) := by decide +kernel
theorem dX5_free_0 : decode cX5_free 0 = .ok (.iconst 0, 1) := by decide +kernel
theorem dX5_free_1 : decode cX5_free 1 = .ok (.istore_n 1, 1) := by decide +kernel
theorem dX5_free_2 : decode cX5_free 2 = .ok (.iload_n 1, 1) := by decide +kernel
theorem dX5_free_3 : decode cX5_free 3 = .ok (.sipush 200, 3) := by decide +kernel
theorem dX5_free_6 : decode cX5_free 6 = .ok (.if_icmp .ge 22, 3) := by decide +kernel
theorem dX5_free_9 : decode cX5_free 9 = .ok (.aload_n 0, 1) := by decide +kernel
theorem dX5_free_10 : decode cX5_free 10 = .ok (.getfield 25, 3) := by decide +kernel
theorem dX5_free_13 : decode cX5_free 13 = .ok (.iload_n 1, 1) := by decide +kernel
theorem dX5_free_14 : decode cX5_free 14 = .ok (.iaload, 1) := by decide +kernel
theorem dX5_free_15 : decode cX5_free 15 = .ok (.ldc 55, 2) := by decide +kernel
theorem dX5_free_17 : decode cX5_free 17 = .ok (.if_icmp .ne 5, 3) := by decide +kernel
theorem dX5_free_20 : decode cX5_free 20 = .ok (.iload_n 1, 1) := by decide +kernel
theorem dX5_free_21 : decode cX5_free 21 = .ok (.ireturn, 1) := by decide +kernel
theorem dX5_free_22 : decode cX5_free 22 = .ok (.iinc 1 1, 3) := by decide +kernel
theorem dX5_free_25 : decode cX5_free 25 = .ok (.goto (-23), 3) := by decide +kernel
theorem dX5_free_28 : decode cX5_free 28 = .ok (.ldc 55, 2) := by decide +kernel
theorem dX5_free_30 : decode cX5_free 30 = .ok (.ireturn, 1) := by decide +kernel
theorem dX5_find_0 : decode cX5_find 0 = .ok (.iconst 0, 1) := by decide +kernel
theorem dX5_find_1 : decode cX5_find 1 = .ok (.istore 4, 2) := by decide +kernel
theorem dX5_find_3 : decode cX5_find 3 = .ok (.iload 4, 2) := by decide +kernel
theorem dX5_find_5 : decode cX5_find 5 = .ok (.sipush 200, 3) := by decide +kernel
theorem dX5_find_8 : decode cX5_find 8 = .ok (.if_icmp .ge 45, 3) := by decide +kernel
theorem dX5_find_11 : decode cX5_find 11 = .ok (.aload_n 0, 1) := by decide +kernel
theorem dX5_find_12 : decode cX5_find 12 = .ok (.getfield 25, 3) := by decide +kernel
theorem dX5_find_15 : decode cX5_find 15 = .ok (.iload 4, 2) := by decide +kernel
theorem dX5_find_17 : decode cX5_find 17 = .ok (.iaload, 1) := by decide +kernel
theorem dX5_find_18 : decode cX5_find 18 = .ok (.iload_n 1, 1) := by decide +kernel
theorem dX5_find_19 : decode cX5_find 19 = .ok (.if_icmp .ne 28, 3) := by decide +kernel
theorem dX5_find_22 : decode cX5_find 22 = .ok (.aload_n 0, 1) := by decide +kernel
theorem dX5_find_23 : decode cX5_find 23 = .ok (.getfield 28, 3) := by decide +kernel
theorem dX5_find_26 : decode cX5_find 26 = .ok (.iload 4, 2) := by decide +kernel
theorem dX5_find_28 : decode cX5_find 28 = .ok (.iaload, 1) := by decide +kernel
theorem dX5_find_29 : decode cX5_find 29 = .ok (.iload_n 2, 1) := by decide +kernel
theorem dX5_find_30 : decode cX5_find 30 = .ok (.if_icmp .ne 17, 3) := by decide +kernel
theorem dX5_find_33 : decode cX5_find 33 = .ok (.aload_n 0, 1) := by decide +kernel
theorem dX5_find_34 : decode cX5_find 34 = .ok (.getfield 31, 3) := by decide +kernel
theorem dX5_find_37 : decode cX5_find 37 = .ok (.iload 4, 2) := by decide +kernel
theorem dX5_find_39 : decode cX5_find 39 = .ok (.iaload, 1) := by decide +kernel
theorem dX5_find_40 : decode cX5_find 40 = .ok (.iload_n 3, 1) := by decide +kernel
theorem dX5_find_41 : decode cX5_find 41 = .ok (.if_icmp .ne 6, 3) := by decide +kernel
theorem dX5_find_44 : decode cX5_find 44 = .ok (.iload 4, 2) := by decide +kernel
theorem dX5_find_46 : decode cX5_find 46 = .ok (.ireturn, 1) := by decide +kernel
theorem dX5_find_47 : decode cX5_find 47 = .ok (.iinc 4 1, 3) := by decide +kernel
theorem dX5_find_50 : decode cX5_find 50 = .ok (.goto (-47), 3) := by decide +kernel
theorem dX5_find_53 : decode cX5_find 53 = .ok (.ldc 55, 2) := by decide +kernel
theorem dX5_find_55 : decode cX5_find 55 = .ok (.ireturn, 1) := by decide +kernel
set_option maxRecDepth 20000 in
theorem ggX5_findIn_X5_isShown : GoodIn wsX5_findIn wsX5_isShown := goodIn_r _ [9, 2, 1, 10, 11, 12, 13, 8, 14, 15, 16, 17, 18, 19, 20, 21, 22, 23, 24, 25, 26, 27, 28, 29, 30, 31, 32, 33, 34, 35, 36] (by decide +kernel) (by decide +kernel)
set_option maxRecDepth 20000 in
theorem gX5_findIn_X5_isShown : GoodIn wsX5_findIn (wsV RX5 73 RX5 yX5_isShown wsX5_isShown) := goodIn_app (goodIn_of _ (by decide +kernel)) ggX5_findIn_X5_isShown
theorem dX5_findIn_0 : decode cX5_findIn 0 = .ok (.iconst (-1), 1) := by decide +kernel
theorem dX5_findIn_1 : decode cX5_findIn 1 = .ok (.istore 5, 2) := by decide +kernel
theorem dX5_findIn_3 : decode cX5_findIn 3 = .ok (.ldc 55, 2) := by decide +kernel
theorem dX5_findIn_5 : decode cX5_findIn 5 = .ok (.istore 6, 2) := by decide +kernel
theorem dX5_findIn_7 : decode cX5_findIn 7 = .ok (.iconst 0, 1) := by decide +kernel
theorem dX5_findIn_8 : decode cX5_findIn 8 = .ok (.istore 7, 2) := by decide +kernel
theorem dX5_findIn_10 : decode cX5_findIn 10 = .ok (.iload 7, 2) := by decide +kernel
theorem dX5_findIn_12 : decode cX5_findIn 12 = .ok (.iload_n 3, 1) := by decide +kernel
theorem dX5_findIn_13 : decode cX5_findIn 13 = .ok (.if_icmp .gt 142, 3) := by decide +kernel
theorem dX5_findIn_16 : decode cX5_findIn 16 = .ok (.ldc 55, 2) := by decide +kernel
theorem dX5_findIn_18 : decode cX5_findIn 18 = .ok (.istore 6, 2) := by decide +kernel
theorem dX5_findIn_20 : decode cX5_findIn 20 = .ok (.iconst 0, 1) := by decide +kernel
theorem dX5_findIn_21 : decode cX5_findIn 21 = .ok (.istore 8, 2) := by decide +kernel
theorem dX5_findIn_23 : decode cX5_findIn 23 = .ok (.iload 8, 2) := by decide +kernel
theorem dX5_findIn_25 : decode cX5_findIn 25 = .ok (.sipush 200, 3) := by decide +kernel
theorem dX5_findIn_28 : decode cX5_findIn 28 = .ok (.if_icmp .ge 102, 3) := by decide +kernel
theorem dX5_findIn_31 : decode cX5_findIn 31 = .ok (.aload_n 0, 1) := by decide +kernel
theorem dX5_findIn_32 : decode cX5_findIn 32 = .ok (.getfield 25, 3) := by decide +kernel
theorem dX5_findIn_35 : decode cX5_findIn 35 = .ok (.iload 8, 2) := by decide +kernel
theorem dX5_findIn_37 : decode cX5_findIn 37 = .ok (.iaload, 1) := by decide +kernel
theorem dX5_findIn_38 : decode cX5_findIn 38 = .ok (.iload_n 1, 1) := by decide +kernel
theorem dX5_findIn_39 : decode cX5_findIn 39 = .ok (.if_icmp .ne 44, 3) := by decide +kernel
theorem dX5_findIn_42 : decode cX5_findIn 42 = .ok (.aload_n 0, 1) := by decide +kernel
theorem dX5_findIn_43 : decode cX5_findIn 43 = .ok (.getfield 28, 3) := by decide +kernel
theorem dX5_findIn_46 : decode cX5_findIn 46 = .ok (.iload 8, 2) := by decide +kernel
theorem dX5_findIn_48 : decode cX5_findIn 48 = .ok (.iaload, 1) := by decide +kernel
theorem dX5_findIn_49 : decode cX5_findIn 49 = .ok (.iload_n 2, 1) := by decide +kernel
theorem dX5_findIn_50 : decode cX5_findIn 50 = .ok (.if_icmp .ne 33, 3) := by decide +kernel
theorem dX5_findIn_53 : decode cX5_findIn 53 = .ok (.aload_n 0, 1) := by decide +kernel
theorem dX5_findIn_54 : decode cX5_findIn 54 = .ok (.getfield 43, 3) := by decide +kernel
theorem dX5_findIn_57 : decode cX5_findIn 57 = .ok (.iload 8, 2) := by decide +kernel
theorem dX5_findIn_59 : decode cX5_findIn 59 = .ok (.iaload, 1) := by decide +kernel
theorem dX5_findIn_60 : decode cX5_findIn 60 = .ok (.iload 5, 2) := by decide +kernel
theorem dX5_findIn_62 : decode cX5_findIn 62 = .ok (.if_icmp .le 21, 3) := by decide +kernel
theorem dX5_findIn_65 : decode cX5_findIn 65 = .ok (.iload 4, 2) := by decide +kernel
theorem dX5_findIn_67 : decode cX5_findIn 67 = .ok (.ifCond .eq 12, 3) := by decide +kernel
theorem dX5_findIn_70 : decode cX5_findIn 70 = .ok (.aload_n 0, 1) := by decide +kernel
theorem dX5_findIn_71 : decode cX5_findIn 71 = .ok (.iload 8, 2) := by decide +kernel
theorem dX5_findIn_73 : decode cX5_findIn 73 = .ok (.invokevirtual 73, 3) := by decide +kernel
theorem dX5_findIn_76 : decode cX5_findIn 76 = .ok (.ifCond .eq 7, 3) := by decide +kernel
theorem dX5_findIn_79 : decode cX5_findIn 79 = .ok (.iconst 1, 1) := by decide +kernel
theorem dX5_findIn_80 : decode cX5_findIn 80 = .ok (.goto 4, 3) := by decide +kernel
theorem dX5_findIn_83 : decode cX5_findIn 83 = .ok (.iconst 0, 1) := by decide +kernel
theorem dX5_findIn_84 : decode cX5_findIn 84 = .ok (.istore 9, 2) := by decide +kernel
theorem dX5_findIn_86 : decode cX5_findIn 86 = .ok (.iload 9, 2) := by decide +kernel
theorem dX5_findIn_88 : decode cX5_findIn 88 = .ok (.ifCond .eq 32, 3) := by decide +kernel
theorem dX5_findIn_91 : decode cX5_findIn 91 = .ok (.iload 6, 2) := by decide +kernel
theorem dX5_findIn_93 : decode cX5_findIn 93 = .ok (.ldc 55, 2) := by decide +kernel
theorem dX5_findIn_95 : decode cX5_findIn 95 = .ok (.if_icmp .eq 20, 3) := by decide +kernel
theorem dX5_findIn_98 : decode cX5_findIn 98 = .ok (.aload_n 0, 1) := by decide +kernel
theorem dX5_findIn_99 : decode cX5_findIn 99 = .ok (.getfield 43, 3) := by decide +kernel
theorem dX5_findIn_102 : decode cX5_findIn 102 = .ok (.iload 8, 2) := by decide +kernel
theorem dX5_findIn_104 : decode cX5_findIn 104 = .ok (.iaload, 1) := by decide +kernel
theorem dX5_findIn_105 : decode cX5_findIn 105 = .ok (.aload_n 0, 1) := by decide +kernel
theorem dX5_findIn_106 : decode cX5_findIn 106 = .ok (.getfield 43, 3) := by decide +kernel
theorem dX5_findIn_109 : decode cX5_findIn 109 = .ok (.iload 6, 2) := by decide +kernel
theorem dX5_findIn_111 : decode cX5_findIn 111 = .ok (.iaload, 1) := by decide +kernel
theorem dX5_findIn_112 : decode cX5_findIn 112 = .ok (.if_icmp .ge 8, 3) := by decide +kernel
theorem dX5_findIn_115 : decode cX5_findIn 115 = .ok (.iload 8, 2) := by decide +kernel
theorem dX5_findIn_117 : decode cX5_findIn 117 = .ok (.goto 5, 3) := by decide +kernel
theorem dX5_findIn_120 : decode cX5_findIn 120 = .ok (.iload 6, 2) := by decide +kernel
theorem dX5_findIn_122 : decode cX5_findIn 122 = .ok (.istore 6, 2) := by decide +kernel
theorem dX5_findIn_124 : decode cX5_findIn 124 = .ok (.iinc 8 1, 3) := by decide +kernel
theorem dX5_findIn_127 : decode cX5_findIn 127 = .ok (.goto (-104), 3) := by decide +kernel
theorem dX5_findIn_130 : decode cX5_findIn 130 = .ok (.iload 6, 2) := by decide +kernel
theorem dX5_findIn_132 : decode cX5_findIn 132 = .ok (.ldc 55, 2) := by decide +kernel
theorem dX5_findIn_134 : decode cX5_findIn 134 = .ok (.if_icmp .ne 6, 3) := by decide +kernel
theorem dX5_findIn_137 : decode cX5_findIn 137 = .ok (.ldc 55, 2) := by decide +kernel
theorem dX5_findIn_139 : decode cX5_findIn 139 = .ok (.ireturn, 1) := by decide +kernel
theorem dX5_findIn_140 : decode cX5_findIn 140 = .ok (.aload_n 0, 1) := by decide +kernel
theorem dX5_findIn_141 : decode cX5_findIn 141 = .ok (.getfield 43, 3) := by decide +kernel
theorem dX5_findIn_144 : decode cX5_findIn 144 = .ok (.iload 6, 2) := by decide +kernel
theorem dX5_findIn_146 : decode cX5_findIn 146 = .ok (.iaload, 1) := by decide +kernel
theorem dX5_findIn_147 : decode cX5_findIn 147 = .ok (.istore 5, 2) := by decide +kernel
theorem dX5_findIn_149 : decode cX5_findIn 149 = .ok (.iinc 7 1, 3) := by decide +kernel
theorem dX5_findIn_152 : decode cX5_findIn 152 = .ok (.goto (-142), 3) := by decide +kernel
theorem dX5_findIn_155 : decode cX5_findIn 155 = .ok (.iload 6, 2) := by decide +kernel
theorem dX5_findIn_157 : decode cX5_findIn 157 = .ok (.ireturn, 1) := by decide +kernel
theorem dX5_stamps_0 : decode cX5_stamps 0 = .ok (.aload_n 0, 1) := by decide +kernel
theorem dX5_stamps_1 : decode cX5_stamps 1 = .ok (.getfield 25, 3) := by decide +kernel
theorem dX5_stamps_4 : decode cX5_stamps 4 = .ok (.iload_n 1, 1) := by decide +kernel
theorem dX5_stamps_5 : decode cX5_stamps 5 = .ok (.iaload, 1) := by decide +kernel
theorem dX5_stamps_6 : decode cX5_stamps 6 = .ok (.istore_n 2, 1) := by decide +kernel
theorem dX5_stamps_7 : decode cX5_stamps 7 = .ok (.aload_n 0, 1) := by decide +kernel
theorem dX5_stamps_8 : decode cX5_stamps 8 = .ok (.getfield 37, 3) := by decide +kernel
theorem dX5_stamps_11 : decode cX5_stamps 11 = .ok (.iload_n 1, 1) := by decide +kernel
theorem dX5_stamps_12 : decode cX5_stamps 12 = .ok (.aload_n 0, 1) := by decide +kernel
theorem dX5_stamps_13 : decode cX5_stamps 13 = .ok (.getfield 22, 3) := by decide +kernel
theorem dX5_stamps_16 : decode cX5_stamps 16 = .ok (.aload_n 0, 1) := by decide +kernel
theorem dX5_stamps_17 : decode cX5_stamps 17 = .ok (.getfield 13, 3) := by decide +kernel
theorem dX5_stamps_20 : decode cX5_stamps 20 = .ok (.iload_n 2, 1) := by decide +kernel
theorem dX5_stamps_21 : decode cX5_stamps 21 = .ok (.iaload, 1) := by decide +kernel
theorem dX5_stamps_22 : decode cX5_stamps 22 = .ok (.iaload, 1) := by decide +kernel
theorem dX5_stamps_23 : decode cX5_stamps 23 = .ok (.iastore, 1) := by decide +kernel
theorem dX5_stamps_24 : decode cX5_stamps 24 = .ok (.aload_n 0, 1) := by decide +kernel
theorem dX5_stamps_25 : decode cX5_stamps 25 = .ok (.getfield 40, 3) := by decide +kernel
theorem dX5_stamps_28 : decode cX5_stamps 28 = .ok (.iload_n 1, 1) := by decide +kernel
theorem dX5_stamps_29 : decode cX5_stamps 29 = .ok (.aload_n 0, 1) := by decide +kernel
theorem dX5_stamps_30 : decode cX5_stamps 30 = .ok (.getfield 37, 3) := by decide +kernel
theorem dX5_stamps_33 : decode cX5_stamps 33 = .ok (.iload_n 1, 1) := by decide +kernel
theorem dX5_stamps_34 : decode cX5_stamps 34 = .ok (.iaload, 1) := by decide +kernel
theorem dX5_stamps_35 : decode cX5_stamps 35 = .ok (.aload_n 0, 1) := by decide +kernel
theorem dX5_stamps_36 : decode cX5_stamps 36 = .ok (.getfield 16, 3) := by decide +kernel
theorem dX5_stamps_39 : decode cX5_stamps 39 = .ok (.iload_n 2, 1) := by decide +kernel
theorem dX5_stamps_40 : decode cX5_stamps 40 = .ok (.iaload, 1) := by decide +kernel
theorem dX5_stamps_41 : decode cX5_stamps 41 = .ok (.iadd, 1) := by decide +kernel
theorem dX5_stamps_42 : decode cX5_stamps 42 = .ok (.iastore, 1) := by decide +kernel
theorem dX5_stamps_43 : decode cX5_stamps 43 = .ok (.return_, 1) := by decide +kernel
set_option maxRecDepth 20000 in
theorem ggX5_writes_X5_stamps : GoodIn wsX5_writes wsX5_stamps := goodIn_r _ [11, 1, 12, 13, 14, 15, 16, 17, 18, 19, 20, 21, 22, 23, 24, 25, 26, 27, 28, 29, 30, 31, 32, 33, 34, 35, 36] (by decide +kernel) (by decide +kernel)
set_option maxRecDepth 20000 in
theorem gX5_writes_X5_stamps : GoodIn wsX5_writes (wsV RX5 79 RX5 yX5_stamps wsX5_stamps) := goodIn_app (goodIn_of _ (by decide +kernel)) ggX5_writes_X5_stamps
theorem dX5_writes_0 : decode cX5_writes 0 = .ok (.aload_n 0, 1) := by decide +kernel
theorem dX5_writes_1 : decode cX5_writes 1 = .ok (.getfield 25, 3) := by decide +kernel
theorem dX5_writes_4 : decode cX5_writes 4 = .ok (.iload_n 1, 1) := by decide +kernel
theorem dX5_writes_5 : decode cX5_writes 5 = .ok (.iload_n 2, 1) := by decide +kernel
theorem dX5_writes_6 : decode cX5_writes 6 = .ok (.iastore, 1) := by decide +kernel
theorem dX5_writes_7 : decode cX5_writes 7 = .ok (.aload_n 0, 1) := by decide +kernel
theorem dX5_writes_8 : decode cX5_writes 8 = .ok (.getfield 28, 3) := by decide +kernel
theorem dX5_writes_11 : decode cX5_writes 11 = .ok (.iload_n 1, 1) := by decide +kernel
theorem dX5_writes_12 : decode cX5_writes 12 = .ok (.iload_n 3, 1) := by decide +kernel
theorem dX5_writes_13 : decode cX5_writes 13 = .ok (.iastore, 1) := by decide +kernel
theorem dX5_writes_14 : decode cX5_writes 14 = .ok (.aload_n 0, 1) := by decide +kernel
theorem dX5_writes_15 : decode cX5_writes 15 = .ok (.getfield 31, 3) := by decide +kernel
theorem dX5_writes_18 : decode cX5_writes 18 = .ok (.iload_n 1, 1) := by decide +kernel
theorem dX5_writes_19 : decode cX5_writes 19 = .ok (.iload 4, 2) := by decide +kernel
theorem dX5_writes_21 : decode cX5_writes 21 = .ok (.iastore, 1) := by decide +kernel
theorem dX5_writes_22 : decode cX5_writes 22 = .ok (.aload_n 0, 1) := by decide +kernel
theorem dX5_writes_23 : decode cX5_writes 23 = .ok (.getfield 34, 3) := by decide +kernel
theorem dX5_writes_26 : decode cX5_writes 26 = .ok (.iload_n 1, 1) := by decide +kernel
theorem dX5_writes_27 : decode cX5_writes 27 = .ok (.iload 5, 2) := by decide +kernel
theorem dX5_writes_29 : decode cX5_writes 29 = .ok (.iastore, 1) := by decide +kernel
theorem dX5_writes_30 : decode cX5_writes 30 = .ok (.aload_n 0, 1) := by decide +kernel
theorem dX5_writes_31 : decode cX5_writes 31 = .ok (.dup, 1) := by decide +kernel
theorem dX5_writes_32 : decode cX5_writes 32 = .ok (.getfield 76, 3) := by decide +kernel
theorem dX5_writes_35 : decode cX5_writes 35 = .ok (.iconst 1, 1) := by decide +kernel
theorem dX5_writes_36 : decode cX5_writes 36 = .ok (.iadd, 1) := by decide +kernel
theorem dX5_writes_37 : decode cX5_writes 37 = .ok (.putfield 76, 3) := by decide +kernel
theorem dX5_writes_40 : decode cX5_writes 40 = .ok (.aload_n 0, 1) := by decide +kernel
theorem dX5_writes_41 : decode cX5_writes 41 = .ok (.getfield 43, 3) := by decide +kernel
theorem dX5_writes_44 : decode cX5_writes 44 = .ok (.iload_n 1, 1) := by decide +kernel
theorem dX5_writes_45 : decode cX5_writes 45 = .ok (.aload_n 0, 1) := by decide +kernel
theorem dX5_writes_46 : decode cX5_writes 46 = .ok (.getfield 76, 3) := by decide +kernel
theorem dX5_writes_49 : decode cX5_writes 49 = .ok (.iastore, 1) := by decide +kernel
theorem dX5_writes_50 : decode cX5_writes 50 = .ok (.aload_n 0, 1) := by decide +kernel
theorem dX5_writes_51 : decode cX5_writes 51 = .ok (.iload_n 1, 1) := by decide +kernel
theorem dX5_writes_52 : decode cX5_writes 52 = .ok (.invokevirtual 79, 3) := by decide +kernel
theorem dX5_writes_55 : decode cX5_writes 55 = .ok (.return_, 1) := by decide +kernel
theorem dX5_tells_0 : decode cX5_tells 0 = .ok (.aload_n 0, 1) := by decide +kernel
theorem dX5_tells_1 : decode cX5_tells 1 = .ok (.getfield 83, 3) := by decide +kernel
theorem dX5_tells_4 : decode cX5_tells 4 = .ok (.sipush 150, 3) := by decide +kernel
theorem dX5_tells_7 : decode cX5_tells 7 = .ok (.if_icmp .ne 40, 3) := by decide +kernel
theorem dX5_tells_10 : decode cX5_tells 10 = .ok (.iconst 0, 1) := by decide +kernel
theorem dX5_tells_11 : decode cX5_tells 11 = .ok (.istore_n 2, 1) := by decide +kernel
theorem dX5_tells_12 : decode cX5_tells 12 = .ok (.iload_n 2, 1) := by decide +kernel
theorem dX5_tells_13 : decode cX5_tells 13 = .ok (.sipush 894, 3) := by decide +kernel
theorem dX5_tells_16 : decode cX5_tells 16 = .ok (.if_icmp .ge 24, 3) := by decide +kernel
theorem dX5_tells_19 : decode cX5_tells 19 = .ok (.aload_n 0, 1) := by decide +kernel
theorem dX5_tells_20 : decode cX5_tells 20 = .ok (.getfield 46, 3) := by decide +kernel
theorem dX5_tells_23 : decode cX5_tells 23 = .ok (.iload_n 2, 1) := by decide +kernel
theorem dX5_tells_24 : decode cX5_tells 24 = .ok (.aload_n 0, 1) := by decide +kernel
theorem dX5_tells_25 : decode cX5_tells 25 = .ok (.getfield 46, 3) := by decide +kernel
theorem dX5_tells_28 : decode cX5_tells 28 = .ok (.iload_n 2, 1) := by decide +kernel
theorem dX5_tells_29 : decode cX5_tells 29 = .ok (.bipush 6, 2) := by decide +kernel
theorem dX5_tells_31 : decode cX5_tells 31 = .ok (.iadd, 1) := by decide +kernel
theorem dX5_tells_32 : decode cX5_tells 32 = .ok (.iaload, 1) := by decide +kernel
theorem dX5_tells_33 : decode cX5_tells 33 = .ok (.iastore, 1) := by decide +kernel
theorem dX5_tells_34 : decode cX5_tells 34 = .ok (.iinc 2 1, 3) := by decide +kernel
theorem dX5_tells_37 : decode cX5_tells 37 = .ok (.goto (-25), 3) := by decide +kernel
theorem dX5_tells_40 : decode cX5_tells 40 = .ok (.aload_n 0, 1) := by decide +kernel
theorem dX5_tells_41 : decode cX5_tells 41 = .ok (.sipush 149, 3) := by decide +kernel
theorem dX5_tells_44 : decode cX5_tells 44 = .ok (.putfield 83, 3) := by decide +kernel
theorem dX5_tells_47 : decode cX5_tells 47 = .ok (.bipush 6, 2) := by decide +kernel
theorem dX5_tells_49 : decode cX5_tells 49 = .ok (.aload_n 0, 1) := by decide +kernel
theorem dX5_tells_50 : decode cX5_tells 50 = .ok (.getfield 83, 3) := by decide +kernel
theorem dX5_tells_53 : decode cX5_tells 53 = .ok (.imul, 1) := by decide +kernel
theorem dX5_tells_54 : decode cX5_tells 54 = .ok (.istore_n 2, 1) := by decide +kernel
theorem dX5_tells_55 : decode cX5_tells 55 = .ok (.aload_n 0, 1) := by decide +kernel
theorem dX5_tells_56 : decode cX5_tells 56 = .ok (.getfield 46, 3) := by decide +kernel
theorem dX5_tells_59 : decode cX5_tells 59 = .ok (.iload_n 2, 1) := by decide +kernel
theorem dX5_tells_60 : decode cX5_tells 60 = .ok (.aload_n 0, 1) := by decide +kernel
theorem dX5_tells_61 : decode cX5_tells 61 = .ok (.getfield 25, 3) := by decide +kernel
theorem dX5_tells_64 : decode cX5_tells 64 = .ok (.iload_n 1, 1) := by decide +kernel
theorem dX5_tells_65 : decode cX5_tells 65 = .ok (.iaload, 1) := by decide +kernel
theorem dX5_tells_66 : decode cX5_tells 66 = .ok (.iastore, 1) := by decide +kernel
theorem dX5_tells_67 : decode cX5_tells 67 = .ok (.aload_n 0, 1) := by decide +kernel
theorem dX5_tells_68 : decode cX5_tells 68 = .ok (.getfield 46, 3) := by decide +kernel
theorem dX5_tells_71 : decode cX5_tells 71 = .ok (.iload_n 2, 1) := by decide +kernel
theorem dX5_tells_72 : decode cX5_tells 72 = .ok (.iconst 1, 1) := by decide +kernel
theorem dX5_tells_73 : decode cX5_tells 73 = .ok (.iadd, 1) := by decide +kernel
theorem dX5_tells_74 : decode cX5_tells 74 = .ok (.aload_n 0, 1) := by decide +kernel
theorem dX5_tells_75 : decode cX5_tells 75 = .ok (.getfield 28, 3) := by decide +kernel
theorem dX5_tells_78 : decode cX5_tells 78 = .ok (.iload_n 1, 1) := by decide +kernel
theorem dX5_tells_79 : decode cX5_tells 79 = .ok (.iaload, 1) := by decide +kernel
theorem dX5_tells_80 : decode cX5_tells 80 = .ok (.iastore, 1) := by decide +kernel
theorem dX5_tells_81 : decode cX5_tells 81 = .ok (.aload_n 0, 1) := by decide +kernel
theorem dX5_tells_82 : decode cX5_tells 82 = .ok (.getfield 46, 3) := by decide +kernel
theorem dX5_tells_85 : decode cX5_tells 85 = .ok (.iload_n 2, 1) := by decide +kernel
theorem dX5_tells_86 : decode cX5_tells 86 = .ok (.iconst 2, 1) := by decide +kernel
theorem dX5_tells_87 : decode cX5_tells 87 = .ok (.iadd, 1) := by decide +kernel
theorem dX5_tells_88 : decode cX5_tells 88 = .ok (.aload_n 0, 1) := by decide +kernel
theorem dX5_tells_89 : decode cX5_tells 89 = .ok (.getfield 31, 3) := by decide +kernel
theorem dX5_tells_92 : decode cX5_tells 92 = .ok (.iload_n 1, 1) := by decide +kernel
theorem dX5_tells_93 : decode cX5_tells 93 = .ok (.iaload, 1) := by decide +kernel
theorem dX5_tells_94 : decode cX5_tells 94 = .ok (.iastore, 1) := by decide +kernel
theorem dX5_tells_95 : decode cX5_tells 95 = .ok (.aload_n 0, 1) := by decide +kernel
theorem dX5_tells_96 : decode cX5_tells 96 = .ok (.getfield 46, 3) := by decide +kernel
theorem dX5_tells_99 : decode cX5_tells 99 = .ok (.iload_n 2, 1) := by decide +kernel
theorem dX5_tells_100 : decode cX5_tells 100 = .ok (.iconst 3, 1) := by decide +kernel
theorem dX5_tells_101 : decode cX5_tells 101 = .ok (.iadd, 1) := by decide +kernel
theorem dX5_tells_102 : decode cX5_tells 102 = .ok (.aload_n 0, 1) := by decide +kernel
theorem dX5_tells_103 : decode cX5_tells 103 = .ok (.getfield 34, 3) := by decide +kernel
theorem dX5_tells_106 : decode cX5_tells 106 = .ok (.iload_n 1, 1) := by decide +kernel
theorem dX5_tells_107 : decode cX5_tells 107 = .ok (.iaload, 1) := by decide +kernel
theorem dX5_tells_108 : decode cX5_tells 108 = .ok (.iastore, 1) := by decide +kernel
theorem dX5_tells_109 : decode cX5_tells 109 = .ok (.aload_n 0, 1) := by decide +kernel
theorem dX5_tells_110 : decode cX5_tells 110 = .ok (.getfield 46, 3) := by decide +kernel
theorem dX5_tells_113 : decode cX5_tells 113 = .ok (.iload_n 2, 1) := by decide +kernel
theorem dX5_tells_114 : decode cX5_tells 114 = .ok (.iconst 4, 1) := by decide +kernel
theorem dX5_tells_115 : decode cX5_tells 115 = .ok (.iadd, 1) := by decide +kernel
theorem dX5_tells_116 : decode cX5_tells 116 = .ok (.aload_n 0, 1) := by decide +kernel
theorem dX5_tells_117 : decode cX5_tells 117 = .ok (.getfield 40, 3) := by decide +kernel
theorem dX5_tells_120 : decode cX5_tells 120 = .ok (.iload_n 1, 1) := by decide +kernel
theorem dX5_tells_121 : decode cX5_tells 121 = .ok (.iaload, 1) := by decide +kernel
theorem dX5_tells_122 : decode cX5_tells 122 = .ok (.iastore, 1) := by decide +kernel
theorem dX5_tells_123 : decode cX5_tells 123 = .ok (.aload_n 0, 1) := by decide +kernel
theorem dX5_tells_124 : decode cX5_tells 124 = .ok (.getfield 46, 3) := by decide +kernel
theorem dX5_tells_127 : decode cX5_tells 127 = .ok (.iload_n 2, 1) := by decide +kernel
theorem dX5_tells_128 : decode cX5_tells 128 = .ok (.iconst 5, 1) := by decide +kernel
theorem dX5_tells_129 : decode cX5_tells 129 = .ok (.iadd, 1) := by decide +kernel
theorem dX5_tells_130 : decode cX5_tells 130 = .ok (.aload_n 0, 1) := by decide +kernel
theorem dX5_tells_131 : decode cX5_tells 131 = .ok (.getfield 22, 3) := by decide +kernel
theorem dX5_tells_134 : decode cX5_tells 134 = .ok (.iconst 0, 1) := by decide +kernel
theorem dX5_tells_135 : decode cX5_tells 135 = .ok (.iaload, 1) := by decide +kernel
theorem dX5_tells_136 : decode cX5_tells 136 = .ok (.iastore, 1) := by decide +kernel
theorem dX5_tells_137 : decode cX5_tells 137 = .ok (.aload_n 0, 1) := by decide +kernel
theorem dX5_tells_138 : decode cX5_tells 138 = .ok (.dup, 1) := by decide +kernel
theorem dX5_tells_139 : decode cX5_tells 139 = .ok (.getfield 83, 3) := by decide +kernel
theorem dX5_tells_142 : decode cX5_tells 142 = .ok (.iconst 1, 1) := by decide +kernel
theorem dX5_tells_143 : decode cX5_tells 143 = .ok (.iadd, 1) := by decide +kernel
theorem dX5_tells_144 : decode cX5_tells 144 = .ok (.putfield 83, 3) := by decide +kernel
theorem dX5_tells_147 : decode cX5_tells 147 = .ok (.aload_n 0, 1) := by decide +kernel
theorem dX5_tells_148 : decode cX5_tells 148 = .ok (.dup, 1) := by decide +kernel
theorem dX5_tells_149 : decode cX5_tells 149 = .ok (.getfield 86, 3) := by decide +kernel
theorem dX5_tells_152 : decode cX5_tells 152 = .ok (.iconst 1, 1) := by decide +kernel
theorem dX5_tells_153 : decode cX5_tells 153 = .ok (.iadd, 1) := by decide +kernel
theorem dX5_tells_154 : decode cX5_tells 154 = .ok (.putfield 86, 3) := by decide +kernel
theorem dX5_tells_157 : decode cX5_tells 157 = .ok (.return_, 1) := by decide +kernel
set_option maxRecDepth 20000 in
theorem ggX5_put_X5_isForm : GoodIn wsX5_put wsX5_isForm := goodIn_r _ [6, 7, 8, 9, 10, 5, 11, 12, 13, 14, 15, 58, 59, 60, 61, 62, 63, 64, 65, 66, 67, 68, 69, 70, 71, 72, 73, 74, 75, 76, 77] (by decide +kernel) (by decide +kernel)
set_option maxRecDepth 20000 in
theorem gX5_put_X5_isForm : GoodIn wsX5_put (wsV RX5 89 RX5 yX5_isForm wsX5_isForm) := goodIn_app (goodIn_of _ (by decide +kernel)) ggX5_put_X5_isForm
set_option maxRecDepth 20000 in
theorem ggX5_put_X5_isIn : GoodIn wsX5_put wsX5_isIn := goodIn_r _ [15] (by decide +kernel) (by decide +kernel)
set_option maxRecDepth 20000 in
theorem gX5_put_X5_isIn : GoodIn wsX5_put (va_wsS RX5 60 yX5_isIn wsX5_isIn) := goodIn_app (goodIn_of _ (by decide +kernel)) ggX5_put_X5_isIn
set_option maxRecDepth 20000 in
theorem ggX5_put_X5_find : GoodIn wsX5_put wsX5_find := goodIn_r _ [19, 20, 21, 22, 1, 58, 59, 60, 61, 62, 63, 64, 65, 66, 67, 68, 69, 70, 71, 72, 73, 74, 75, 76, 77] (by decide +kernel) (by decide +kernel)
set_option maxRecDepth 20000 in
theorem gX5_put_X5_find : GoodIn wsX5_put (wsV RX5 93 RX5 yX5_find wsX5_find) := goodIn_app (goodIn_of _ (by decide +kernel)) ggX5_put_X5_find
set_option maxRecDepth 20000 in
theorem ggX5_put_X5_isShown : GoodIn wsX5_put wsX5_isShown := goodIn_r _ [26, 20, 1, 27, 28, 29, 30, 5, 31, 32, 33, 58, 59, 60, 61, 62, 63, 64, 65, 66, 67, 68, 69, 70, 71, 72, 73, 74, 75, 76, 77] (by decide +kernel) (by decide +kernel)
set_option maxRecDepth 20000 in
theorem gX5_put_X5_isShown : GoodIn wsX5_put (wsV RX5 73 RX5 yX5_isShown wsX5_isShown) := goodIn_app (goodIn_of _ (by decide +kernel)) ggX5_put_X5_isShown
set_option maxRecDepth 20000 in
theorem ggX5_put_X5_free : GoodIn wsX5_put wsX5_free := goodIn_r _ [37, 20, 1, 58, 59, 60, 61, 62, 63, 64, 65, 66, 67, 68, 69, 70, 71, 72, 73, 74, 75, 76, 77] (by decide +kernel) (by decide +kernel)
set_option maxRecDepth 20000 in
theorem gX5_put_X5_free : GoodIn wsX5_put (wsV RX5 97 RX5 yX5_free wsX5_free) := goodIn_app (goodIn_of _ (by decide +kernel)) ggX5_put_X5_free
set_option maxRecDepth 20000 in
theorem ggX5_put_X5_tells : GoodIn wsX5_put wsX5_tells := goodIn_r _ [41, 42, 43, 20, 21, 22, 44, 27, 32, 45, 58, 59, 60, 61, 62, 63, 64, 65, 66, 67, 68, 69, 70, 71, 72, 73, 74, 75, 76, 77] (by decide +kernel) (by decide +kernel)
set_option maxRecDepth 20000 in
theorem gX5_put_X5_tells : GoodIn wsX5_put (wsV RX5 101 RX5 yX5_tells wsX5_tells) := goodIn_app (goodIn_of _ (by decide +kernel)) ggX5_put_X5_tells
set_option maxRecDepth 20000 in
theorem ggX5_put_X5_writes : GoodIn wsX5_put wsX5_writes := goodIn_r _ [49, 20, 21, 22, 44, 50, 51, 52, 53, 54, 5, 55, 56, 32, 33, 27, 57, 58, 59, 60, 61, 62, 63, 64, 65, 66, 67, 68, 69, 70, 71, 72, 73, 74, 75, 76, 77] (by decide +kernel) (by decide +kernel)
set_option maxRecDepth 20000 in
theorem gX5_put_X5_writes : GoodIn wsX5_put (wsV RX5 104 RX5 yX5_writes wsX5_writes) := goodIn_app (goodIn_of _ (by decide +kernel)) ggX5_put_X5_writes
theorem dX5_put_0 : decode cX5_put 0 = .ok (.aload_n 0, 1) := by decide +kernel
theorem dX5_put_1 : decode cX5_put 1 = .ok (.iload_n 1, 1) := by decide +kernel
theorem dX5_put_2 : decode cX5_put 2 = .ok (.iconst 0, 1) := by decide +kernel
theorem dX5_put_3 : decode cX5_put 3 = .ok (.invokevirtual 89, 3) := by decide +kernel
theorem dX5_put_6 : decode cX5_put 6 = .ok (.ifCond .eq 23, 3) := by decide +kernel
theorem dX5_put_9 : decode cX5_put 9 = .ok (.iload_n 2, 1) := by decide +kernel
theorem dX5_put_10 : decode cX5_put 10 = .ok (.iconst 0, 1) := by decide +kernel
theorem dX5_put_11 : decode cX5_put 11 = .ok (.bipush 99, 2) := by decide +kernel
theorem dX5_put_13 : decode cX5_put 13 = .ok (.invokestatic 60, 3) := by decide +kernel
theorem dX5_put_16 : decode cX5_put 16 = .ok (.ifCond .eq 13, 3) := by decide +kernel
theorem dX5_put_19 : decode cX5_put 19 = .ok (.iload_n 3, 1) := by decide +kernel
theorem dX5_put_20 : decode cX5_put 20 = .ok (.iconst 0, 1) := by decide +kernel
theorem dX5_put_21 : decode cX5_put 21 = .ok (.bipush 9, 2) := by decide +kernel
theorem dX5_put_23 : decode cX5_put 23 = .ok (.invokestatic 60, 3) := by decide +kernel
theorem dX5_put_26 : decode cX5_put 26 = .ok (.ifCond .ne 5, 3) := by decide +kernel
theorem dX5_put_29 : decode cX5_put 29 = .ok (.iconst (-1), 1) := by decide +kernel
theorem dX5_put_30 : decode cX5_put 30 = .ok (.ireturn, 1) := by decide +kernel
theorem dX5_put_31 : decode cX5_put 31 = .ok (.aload_n 0, 1) := by decide +kernel
theorem dX5_put_32 : decode cX5_put 32 = .ok (.iload_n 1, 1) := by decide +kernel
theorem dX5_put_33 : decode cX5_put 33 = .ok (.iload_n 2, 1) := by decide +kernel
theorem dX5_put_34 : decode cX5_put 34 = .ok (.iload_n 3, 1) := by decide +kernel
theorem dX5_put_35 : decode cX5_put 35 = .ok (.invokevirtual 93, 3) := by decide +kernel
theorem dX5_put_38 : decode cX5_put 38 = .ok (.istore 5, 2) := by decide +kernel
theorem dX5_put_40 : decode cX5_put 40 = .ok (.iload 5, 2) := by decide +kernel
theorem dX5_put_42 : decode cX5_put 42 = .ok (.ldc 55, 2) := by decide +kernel
theorem dX5_put_44 : decode cX5_put 44 = .ok (.if_icmp .eq 16, 3) := by decide +kernel
theorem dX5_put_47 : decode cX5_put 47 = .ok (.aload_n 0, 1) := by decide +kernel
theorem dX5_put_48 : decode cX5_put 48 = .ok (.iload 5, 2) := by decide +kernel
theorem dX5_put_50 : decode cX5_put 50 = .ok (.invokevirtual 73, 3) := by decide +kernel
theorem dX5_put_53 : decode cX5_put 53 = .ok (.ifCond .eq 7, 3) := by decide +kernel
theorem dX5_put_56 : decode cX5_put 56 = .ok (.iconst 1, 1) := by decide +kernel
theorem dX5_put_57 : decode cX5_put 57 = .ok (.goto 4, 3) := by decide +kernel
theorem dX5_put_60 : decode cX5_put 60 = .ok (.iconst 0, 1) := by decide +kernel
theorem dX5_put_61 : decode cX5_put 61 = .ok (.istore 6, 2) := by decide +kernel
theorem dX5_put_63 : decode cX5_put 63 = .ok (.iload 5, 2) := by decide +kernel
theorem dX5_put_65 : decode cX5_put 65 = .ok (.ldc 55, 2) := by decide +kernel
theorem dX5_put_67 : decode cX5_put 67 = .ok (.if_icmp .ne 19, 3) := by decide +kernel
theorem dX5_put_70 : decode cX5_put 70 = .ok (.aload_n 0, 1) := by decide +kernel
theorem dX5_put_71 : decode cX5_put 71 = .ok (.invokevirtual 97, 3) := by decide +kernel
theorem dX5_put_74 : decode cX5_put 74 = .ok (.istore 5, 2) := by decide +kernel
theorem dX5_put_76 : decode cX5_put 76 = .ok (.iload 5, 2) := by decide +kernel
theorem dX5_put_78 : decode cX5_put 78 = .ok (.ldc 55, 2) := by decide +kernel
theorem dX5_put_80 : decode cX5_put 80 = .ok (.if_icmp .ne 17, 3) := by decide +kernel
theorem dX5_put_83 : decode cX5_put 83 = .ok (.bipush (-3), 2) := by decide +kernel
theorem dX5_put_85 : decode cX5_put 85 = .ok (.ireturn, 1) := by decide +kernel
theorem dX5_put_86 : decode cX5_put 86 = .ok (.iload 6, 2) := by decide +kernel
theorem dX5_put_88 : decode cX5_put 88 = .ok (.ifCond .ne 9, 3) := by decide +kernel
theorem dX5_put_91 : decode cX5_put 91 = .ok (.aload_n 0, 1) := by decide +kernel
theorem dX5_put_92 : decode cX5_put 92 = .ok (.iload 5, 2) := by decide +kernel
theorem dX5_put_94 : decode cX5_put 94 = .ok (.invokevirtual 101, 3) := by decide +kernel
theorem dX5_put_97 : decode cX5_put 97 = .ok (.aload_n 0, 1) := by decide +kernel
theorem dX5_put_98 : decode cX5_put 98 = .ok (.iload 5, 2) := by decide +kernel
theorem dX5_put_100 : decode cX5_put 100 = .ok (.iload_n 1, 1) := by decide +kernel
theorem dX5_put_101 : decode cX5_put 101 = .ok (.iload_n 2, 1) := by decide +kernel
theorem dX5_put_102 : decode cX5_put 102 = .ok (.iload_n 3, 1) := by decide +kernel
theorem dX5_put_103 : decode cX5_put 103 = .ok (.iload 4, 2) := by decide +kernel
theorem dX5_put_105 : decode cX5_put 105 = .ok (.invokevirtual 104, 3) := by decide +kernel
theorem dX5_put_108 : decode cX5_put 108 = .ok (.iload 6, 2) := by decide +kernel
theorem dX5_put_110 : decode cX5_put 110 = .ok (.ifCond .eq 7, 3) := by decide +kernel
theorem dX5_put_113 : decode cX5_put 113 = .ok (.iconst 1, 1) := by decide +kernel
theorem dX5_put_114 : decode cX5_put 114 = .ok (.goto 4, 3) := by decide +kernel
theorem dX5_put_117 : decode cX5_put 117 = .ok (.iconst 0, 1) := by decide +kernel
theorem dX5_put_118 : decode cX5_put 118 = .ok (.ireturn, 1) := by decide +kernel
set_option maxRecDepth 20000 in
theorem ggX5_read_X5_stamps : GoodIn wsX5_read wsX5_stamps := goodIn_r _ [8, 2, 9, 10, 11, 12, 13, 14, 15, 16, 17, 18, 19, 20, 21, 22, 23, 24, 25, 26, 27, 28, 29, 30, 31, 32, 33] (by decide +kernel) (by decide +kernel)
set_option maxRecDepth 20000 in
theorem gX5_read_X5_stamps : GoodIn wsX5_read (wsV RX5 79 RX5 yX5_stamps wsX5_stamps) := goodIn_app (goodIn_of _ (by decide +kernel)) ggX5_read_X5_stamps
theorem dX5_read_0 : decode cX5_read 0 = .ok (.aload_n 0, 1) := by decide +kernel
theorem dX5_read_1 : decode cX5_read 1 = .ok (.getfield 19, 3) := by decide +kernel
theorem dX5_read_4 : decode cX5_read 4 = .ok (.aload_n 0, 1) := by decide +kernel
theorem dX5_read_5 : decode cX5_read 5 = .ok (.getfield 25, 3) := by decide +kernel
theorem dX5_read_8 : decode cX5_read 8 = .ok (.iload_n 1, 1) := by decide +kernel
theorem dX5_read_9 : decode cX5_read 9 = .ok (.iaload, 1) := by decide +kernel
theorem dX5_read_10 : decode cX5_read 10 = .ok (.iaload, 1) := by decide +kernel
theorem dX5_read_11 : decode cX5_read 11 = .ok (.iconst 1, 1) := by decide +kernel
theorem dX5_read_12 : decode cX5_read 12 = .ok (.if_icmp .ne 8, 3) := by decide +kernel
theorem dX5_read_15 : decode cX5_read 15 = .ok (.aload_n 0, 1) := by decide +kernel
theorem dX5_read_16 : decode cX5_read 16 = .ok (.iload_n 1, 1) := by decide +kernel
theorem dX5_read_17 : decode cX5_read 17 = .ok (.invokevirtual 79, 3) := by decide +kernel
theorem dX5_read_20 : decode cX5_read 20 = .ok (.aload_n 0, 1) := by decide +kernel
theorem dX5_read_21 : decode cX5_read 21 = .ok (.getfield 34, 3) := by decide +kernel
theorem dX5_read_24 : decode cX5_read 24 = .ok (.iload_n 1, 1) := by decide +kernel
theorem dX5_read_25 : decode cX5_read 25 = .ok (.iaload, 1) := by decide +kernel
theorem dX5_read_26 : decode cX5_read 26 = .ok (.ireturn, 1) := by decide +kernel
set_option maxRecDepth 20000 in
theorem ggX5_get_X5_isForm : GoodIn wsX5_get wsX5_isForm := goodIn_r _ [6, 7, 8, 9, 10, 5, 11, 12, 13, 14, 15, 46, 47, 48, 49, 50, 51, 52, 53, 54, 55, 56, 57, 58, 59, 60, 61, 62, 63, 64, 65] (by decide +kernel) (by decide +kernel)
set_option maxRecDepth 20000 in
theorem gX5_get_X5_isForm : GoodIn wsX5_get (wsV RX5 89 RX5 yX5_isForm wsX5_isForm) := goodIn_app (goodIn_of _ (by decide +kernel)) ggX5_get_X5_isForm
set_option maxRecDepth 20000 in
theorem ggX5_get_X5_isIn : GoodIn wsX5_get wsX5_isIn := goodIn_r _ [15] (by decide +kernel) (by decide +kernel)
set_option maxRecDepth 20000 in
theorem gX5_get_X5_isIn : GoodIn wsX5_get (va_wsS RX5 60 yX5_isIn wsX5_isIn) := goodIn_app (goodIn_of _ (by decide +kernel)) ggX5_get_X5_isIn
set_option maxRecDepth 20000 in
theorem ggX5_get_X5_find : GoodIn wsX5_get wsX5_find := goodIn_r _ [19, 20, 21, 22, 1, 46, 47, 48, 49, 50, 51, 52, 53, 54, 55, 56, 57, 58, 59, 60, 61, 62, 63, 64, 65] (by decide +kernel) (by decide +kernel)
set_option maxRecDepth 20000 in
theorem gX5_get_X5_find : GoodIn wsX5_get (wsV RX5 93 RX5 yX5_find wsX5_find) := goodIn_app (goodIn_of _ (by decide +kernel)) ggX5_get_X5_find
set_option maxRecDepth 20000 in
theorem ggX5_get_X5_isShown : GoodIn wsX5_get wsX5_isShown := goodIn_r _ [26, 20, 1, 27, 28, 29, 30, 5, 31, 32, 33, 46, 47, 48, 49, 50, 51, 52, 53, 54, 55, 56, 57, 58, 59, 60, 61, 62, 63, 64, 65] (by decide +kernel) (by decide +kernel)
set_option maxRecDepth 20000 in
theorem gX5_get_X5_isShown : GoodIn wsX5_get (wsV RX5 73 RX5 yX5_isShown wsX5_isShown) := goodIn_app (goodIn_of _ (by decide +kernel)) ggX5_get_X5_isShown
set_option maxRecDepth 20000 in
theorem ggX5_get_X5_read : GoodIn wsX5_get wsX5_read := goodIn_r _ [37, 38, 20, 39, 40, 41, 42, 5, 43, 44, 32, 33, 27, 45, 46, 47, 48, 49, 50, 51, 52, 53, 54, 55, 56, 57, 58, 59, 60, 61, 62, 63, 64, 65] (by decide +kernel) (by decide +kernel)
set_option maxRecDepth 20000 in
theorem gX5_get_X5_read : GoodIn wsX5_get (wsV RX5 108 RX5 yX5_read wsX5_read) := goodIn_app (goodIn_of _ (by decide +kernel)) ggX5_get_X5_read
theorem dX5_get_0 : decode cX5_get 0 = .ok (.aload_n 0, 1) := by decide +kernel
theorem dX5_get_1 : decode cX5_get 1 = .ok (.iload_n 1, 1) := by decide +kernel
theorem dX5_get_2 : decode cX5_get 2 = .ok (.iconst 0, 1) := by decide +kernel
theorem dX5_get_3 : decode cX5_get 3 = .ok (.invokevirtual 89, 3) := by decide +kernel
theorem dX5_get_6 : decode cX5_get 6 = .ok (.ifCond .eq 23, 3) := by decide +kernel
theorem dX5_get_9 : decode cX5_get 9 = .ok (.iload_n 2, 1) := by decide +kernel
theorem dX5_get_10 : decode cX5_get 10 = .ok (.iconst 0, 1) := by decide +kernel
theorem dX5_get_11 : decode cX5_get 11 = .ok (.bipush 99, 2) := by decide +kernel
theorem dX5_get_13 : decode cX5_get 13 = .ok (.invokestatic 60, 3) := by decide +kernel
theorem dX5_get_16 : decode cX5_get 16 = .ok (.ifCond .eq 13, 3) := by decide +kernel
theorem dX5_get_19 : decode cX5_get 19 = .ok (.iload_n 3, 1) := by decide +kernel
theorem dX5_get_20 : decode cX5_get 20 = .ok (.iconst 0, 1) := by decide +kernel
theorem dX5_get_21 : decode cX5_get 21 = .ok (.bipush 9, 2) := by decide +kernel
theorem dX5_get_23 : decode cX5_get 23 = .ok (.invokestatic 60, 3) := by decide +kernel
theorem dX5_get_26 : decode cX5_get 26 = .ok (.ifCond .ne 5, 3) := by decide +kernel
theorem dX5_get_29 : decode cX5_get 29 = .ok (.iconst (-1), 1) := by decide +kernel
theorem dX5_get_30 : decode cX5_get 30 = .ok (.ireturn, 1) := by decide +kernel
theorem dX5_get_31 : decode cX5_get 31 = .ok (.aload_n 0, 1) := by decide +kernel
theorem dX5_get_32 : decode cX5_get 32 = .ok (.iload_n 1, 1) := by decide +kernel
theorem dX5_get_33 : decode cX5_get 33 = .ok (.iload_n 2, 1) := by decide +kernel
theorem dX5_get_34 : decode cX5_get 34 = .ok (.iload_n 3, 1) := by decide +kernel
theorem dX5_get_35 : decode cX5_get 35 = .ok (.invokevirtual 93, 3) := by decide +kernel
theorem dX5_get_38 : decode cX5_get 38 = .ok (.istore 4, 2) := by decide +kernel
theorem dX5_get_40 : decode cX5_get 40 = .ok (.iload 4, 2) := by decide +kernel
theorem dX5_get_42 : decode cX5_get 42 = .ok (.ldc 55, 2) := by decide +kernel
theorem dX5_get_44 : decode cX5_get 44 = .ok (.if_icmp .eq 21, 3) := by decide +kernel
theorem dX5_get_47 : decode cX5_get 47 = .ok (.aload_n 0, 1) := by decide +kernel
theorem dX5_get_48 : decode cX5_get 48 = .ok (.iload 4, 2) := by decide +kernel
theorem dX5_get_50 : decode cX5_get 50 = .ok (.invokevirtual 73, 3) := by decide +kernel
theorem dX5_get_53 : decode cX5_get 53 = .ok (.ifCond .eq 12, 3) := by decide +kernel
end
section
theorem dX5_get_56 : decode cX5_get 56 = .ok (.aload_n 0, 1) := by decide +kernel
theorem dX5_get_57 : decode cX5_get 57 = .ok (.iload 4, 2) := by decide +kernel
theorem dX5_get_59 : decode cX5_get 59 = .ok (.invokevirtual 108, 3) := by decide +kernel
theorem dX5_get_62 : decode cX5_get 62 = .ok (.goto 5, 3) := by decide +kernel
theorem dX5_get_65 : decode cX5_get 65 = .ok (.ldc 55, 2) := by decide +kernel
theorem dX5_get_67 : decode cX5_get 67 = .ok (.ireturn, 1) := by decide +kernel
set_option maxRecDepth 20000 in
theorem ggX5_remove_X5_isForm : GoodIn wsX5_remove wsX5_isForm := goodIn_r _ [7, 8, 9, 10, 11, 6, 12, 13, 14, 15, 16, 34, 35, 36, 37, 38, 39, 40, 41, 42, 43, 44, 45, 46, 47, 48, 49, 50, 51, 52, 53] (by decide +kernel) (by decide +kernel)
set_option maxRecDepth 20000 in
theorem gX5_remove_X5_isForm : GoodIn wsX5_remove (wsV RX5 89 RX5 yX5_isForm wsX5_isForm) := goodIn_app (goodIn_of _ (by decide +kernel)) ggX5_remove_X5_isForm
set_option maxRecDepth 20000 in
theorem ggX5_remove_X5_isIn : GoodIn wsX5_remove wsX5_isIn := goodIn_r _ [16] (by decide +kernel) (by decide +kernel)
set_option maxRecDepth 20000 in
theorem gX5_remove_X5_isIn : GoodIn wsX5_remove (va_wsS RX5 60 yX5_isIn wsX5_isIn) := goodIn_app (goodIn_of _ (by decide +kernel)) ggX5_remove_X5_isIn
set_option maxRecDepth 20000 in
theorem ggX5_remove_X5_find : GoodIn wsX5_remove wsX5_find := goodIn_r _ [20, 2, 21, 22, 1, 34, 35, 36, 37, 38, 39, 40, 41, 42, 43, 44, 45, 46, 47, 48, 49, 50, 51, 52, 53] (by decide +kernel) (by decide +kernel)
set_option maxRecDepth 20000 in
theorem gX5_remove_X5_find : GoodIn wsX5_remove (wsV RX5 93 RX5 yX5_find wsX5_find) := goodIn_app (goodIn_of _ (by decide +kernel)) ggX5_remove_X5_find
set_option maxRecDepth 20000 in
theorem ggX5_remove_X5_isShown : GoodIn wsX5_remove wsX5_isShown := goodIn_r _ [26, 2, 1, 27, 28, 29, 30, 6, 31, 32, 33, 34, 35, 36, 37, 38, 39, 40, 41, 42, 43, 44, 45, 46, 47, 48, 49, 50, 51, 52, 53] (by decide +kernel) (by decide +kernel)
set_option maxRecDepth 20000 in
theorem gX5_remove_X5_isShown : GoodIn wsX5_remove (wsV RX5 73 RX5 yX5_isShown wsX5_isShown) := goodIn_app (goodIn_of _ (by decide +kernel)) ggX5_remove_X5_isShown
theorem dX5_remove_0 : decode cX5_remove 0 = .ok (.aload_n 0, 1) := by decide +kernel
theorem dX5_remove_1 : decode cX5_remove 1 = .ok (.iload_n 1, 1) := by decide +kernel
theorem dX5_remove_2 : decode cX5_remove 2 = .ok (.iconst 0, 1) := by decide +kernel
theorem dX5_remove_3 : decode cX5_remove 3 = .ok (.invokevirtual 89, 3) := by decide +kernel
theorem dX5_remove_6 : decode cX5_remove 6 = .ok (.ifCond .eq 23, 3) := by decide +kernel
theorem dX5_remove_9 : decode cX5_remove 9 = .ok (.iload_n 2, 1) := by decide +kernel
theorem dX5_remove_10 : decode cX5_remove 10 = .ok (.iconst 0, 1) := by decide +kernel
theorem dX5_remove_11 : decode cX5_remove 11 = .ok (.bipush 99, 2) := by decide +kernel
theorem dX5_remove_13 : decode cX5_remove 13 = .ok (.invokestatic 60, 3) := by decide +kernel
theorem dX5_remove_16 : decode cX5_remove 16 = .ok (.ifCond .eq 13, 3) := by decide +kernel
theorem dX5_remove_19 : decode cX5_remove 19 = .ok (.iload_n 3, 1) := by decide +kernel
theorem dX5_remove_20 : decode cX5_remove 20 = .ok (.iconst 0, 1) := by decide +kernel
theorem dX5_remove_21 : decode cX5_remove 21 = .ok (.bipush 9, 2) := by decide +kernel
theorem dX5_remove_23 : decode cX5_remove 23 = .ok (.invokestatic 60, 3) := by decide +kernel
theorem dX5_remove_26 : decode cX5_remove 26 = .ok (.ifCond .ne 5, 3) := by decide +kernel
theorem dX5_remove_29 : decode cX5_remove 29 = .ok (.iconst (-1), 1) := by decide +kernel
theorem dX5_remove_30 : decode cX5_remove 30 = .ok (.ireturn, 1) := by decide +kernel
theorem dX5_remove_31 : decode cX5_remove 31 = .ok (.aload_n 0, 1) := by decide +kernel
theorem dX5_remove_32 : decode cX5_remove 32 = .ok (.iload_n 1, 1) := by decide +kernel
theorem dX5_remove_33 : decode cX5_remove 33 = .ok (.iload_n 2, 1) := by decide +kernel
theorem dX5_remove_34 : decode cX5_remove 34 = .ok (.iload_n 3, 1) := by decide +kernel
theorem dX5_remove_35 : decode cX5_remove 35 = .ok (.invokevirtual 93, 3) := by decide +kernel
theorem dX5_remove_38 : decode cX5_remove 38 = .ok (.istore 4, 2) := by decide +kernel
theorem dX5_remove_40 : decode cX5_remove 40 = .ok (.iload 4, 2) := by decide +kernel
theorem dX5_remove_42 : decode cX5_remove 42 = .ok (.ldc 55, 2) := by decide +kernel
theorem dX5_remove_44 : decode cX5_remove 44 = .ok (.if_icmp .ne 6, 3) := by decide +kernel
theorem dX5_remove_47 : decode cX5_remove 47 = .ok (.bipush (-2), 2) := by decide +kernel
theorem dX5_remove_49 : decode cX5_remove 49 = .ok (.ireturn, 1) := by decide +kernel
theorem dX5_remove_50 : decode cX5_remove 50 = .ok (.aload_n 0, 1) := by decide +kernel
theorem dX5_remove_51 : decode cX5_remove 51 = .ok (.iload 4, 2) := by decide +kernel
theorem dX5_remove_53 : decode cX5_remove 53 = .ok (.invokevirtual 73, 3) := by decide +kernel
theorem dX5_remove_56 : decode cX5_remove 56 = .ok (.ifCond .eq 7, 3) := by decide +kernel
theorem dX5_remove_59 : decode cX5_remove 59 = .ok (.iconst 1, 1) := by decide +kernel
theorem dX5_remove_60 : decode cX5_remove 60 = .ok (.goto 4, 3) := by decide +kernel
theorem dX5_remove_63 : decode cX5_remove 63 = .ok (.iconst 0, 1) := by decide +kernel
theorem dX5_remove_64 : decode cX5_remove 64 = .ok (.istore 5, 2) := by decide +kernel
theorem dX5_remove_66 : decode cX5_remove 66 = .ok (.aload_n 0, 1) := by decide +kernel
theorem dX5_remove_67 : decode cX5_remove 67 = .ok (.getfield 25, 3) := by decide +kernel
theorem dX5_remove_70 : decode cX5_remove 70 = .ok (.iload 4, 2) := by decide +kernel
theorem dX5_remove_72 : decode cX5_remove 72 = .ok (.ldc 55, 2) := by decide +kernel
theorem dX5_remove_74 : decode cX5_remove 74 = .ok (.iastore, 1) := by decide +kernel
theorem dX5_remove_75 : decode cX5_remove 75 = .ok (.iload 5, 2) := by decide +kernel
theorem dX5_remove_77 : decode cX5_remove 77 = .ok (.ireturn, 1) := by decide +kernel
set_option maxRecDepth 20000 in
theorem ggX5_add_X5_isForm : GoodIn wsX5_add wsX5_isForm := goodIn_r _ [6, 7, 8, 9, 10, 5, 11, 12, 13, 14, 15, 51, 52, 53, 54, 55, 56, 57, 58, 59, 60, 61, 62, 63, 64, 65, 66, 67, 68, 69, 70] (by decide +kernel) (by decide +kernel)
set_option maxRecDepth 20000 in
theorem gX5_add_X5_isForm : GoodIn wsX5_add (wsV RX5 89 RX5 yX5_isForm wsX5_isForm) := goodIn_app (goodIn_of _ (by decide +kernel)) ggX5_add_X5_isForm
set_option maxRecDepth 20000 in
theorem ggX5_add_X5_isIn : GoodIn wsX5_add wsX5_isIn := goodIn_r _ [15] (by decide +kernel) (by decide +kernel)
set_option maxRecDepth 20000 in
theorem gX5_add_X5_isIn : GoodIn wsX5_add (va_wsS RX5 60 yX5_isIn wsX5_isIn) := goodIn_app (goodIn_of _ (by decide +kernel)) ggX5_add_X5_isIn
set_option maxRecDepth 20000 in
theorem ggX5_add_X5_free : GoodIn wsX5_add wsX5_free := goodIn_r _ [19, 20, 1, 51, 52, 53, 54, 55, 56, 57, 58, 59, 60, 61, 62, 63, 64, 65, 66, 67, 68, 69, 70] (by decide +kernel) (by decide +kernel)
set_option maxRecDepth 20000 in
theorem gX5_add_X5_free : GoodIn wsX5_add (wsV RX5 97 RX5 yX5_free wsX5_free) := goodIn_app (goodIn_of _ (by decide +kernel)) ggX5_add_X5_free
set_option maxRecDepth 20000 in
theorem ggX5_add_X5_writes : GoodIn wsX5_add wsX5_writes := goodIn_r _ [24, 20, 25, 26, 27, 28, 29, 30, 31, 32, 5, 33, 34, 35, 36, 37, 38, 51, 52, 53, 54, 55, 56, 57, 58, 59, 60, 61, 62, 63, 64, 65, 66, 67, 68, 69, 70] (by decide +kernel) (by decide +kernel)
set_option maxRecDepth 20000 in
theorem gX5_add_X5_writes : GoodIn wsX5_add (wsV RX5 104 RX5 yX5_writes wsX5_writes) := goodIn_app (goodIn_of _ (by decide +kernel)) ggX5_add_X5_writes
set_option maxRecDepth 20000 in
theorem ggX5_add_X5_held : GoodIn wsX5_add wsX5_held := goodIn_r _ [42, 20, 25, 8, 9, 10, 5, 11, 12, 13, 14, 15, 43, 44, 45, 46, 1, 37, 47, 48, 49, 50, 35, 36, 51, 52, 53, 54, 55, 56, 57, 58, 59, 60, 61, 62, 63, 64, 65, 66, 67, 68, 69, 70] (by decide +kernel) (by decide +kernel)
set_option maxRecDepth 20000 in
theorem gX5_add_X5_held : GoodIn wsX5_add (wsV RX5 111 RX5 yX5_held wsX5_held) := goodIn_app (goodIn_of _ (by decide +kernel)) ggX5_add_X5_held
theorem dX5_add_0 : decode cX5_add 0 = .ok (.aload_n 0, 1) := by decide +kernel
theorem dX5_add_1 : decode cX5_add 1 = .ok (.iload_n 1, 1) := by decide +kernel
theorem dX5_add_2 : decode cX5_add 2 = .ok (.iconst 1, 1) := by decide +kernel
theorem dX5_add_3 : decode cX5_add 3 = .ok (.invokevirtual 89, 3) := by decide +kernel
theorem dX5_add_6 : decode cX5_add 6 = .ok (.ifCond .eq 13, 3) := by decide +kernel
theorem dX5_add_9 : decode cX5_add 9 = .ok (.iload_n 2, 1) := by decide +kernel
theorem dX5_add_10 : decode cX5_add 10 = .ok (.iconst 0, 1) := by decide +kernel
theorem dX5_add_11 : decode cX5_add 11 = .ok (.bipush 99, 2) := by decide +kernel
theorem dX5_add_13 : decode cX5_add 13 = .ok (.invokestatic 60, 3) := by decide +kernel
theorem dX5_add_16 : decode cX5_add 16 = .ok (.ifCond .ne 5, 3) := by decide +kernel
theorem dX5_add_19 : decode cX5_add 19 = .ok (.iconst (-1), 1) := by decide +kernel
theorem dX5_add_20 : decode cX5_add 20 = .ok (.ireturn, 1) := by decide +kernel
theorem dX5_add_21 : decode cX5_add 21 = .ok (.aload_n 0, 1) := by decide +kernel
theorem dX5_add_22 : decode cX5_add 22 = .ok (.invokevirtual 97, 3) := by decide +kernel
theorem dX5_add_25 : decode cX5_add 25 = .ok (.istore 4, 2) := by decide +kernel
theorem dX5_add_27 : decode cX5_add 27 = .ok (.iload 4, 2) := by decide +kernel
theorem dX5_add_29 : decode cX5_add 29 = .ok (.ldc 55, 2) := by decide +kernel
theorem dX5_add_31 : decode cX5_add 31 = .ok (.if_icmp .ne 6, 3) := by decide +kernel
theorem dX5_add_34 : decode cX5_add 34 = .ok (.bipush (-3), 2) := by decide +kernel
theorem dX5_add_36 : decode cX5_add 36 = .ok (.ireturn, 1) := by decide +kernel
theorem dX5_add_37 : decode cX5_add 37 = .ok (.aload_n 0, 1) := by decide +kernel
theorem dX5_add_38 : decode cX5_add 38 = .ok (.iload 4, 2) := by decide +kernel
theorem dX5_add_40 : decode cX5_add 40 = .ok (.iload_n 1, 1) := by decide +kernel
theorem dX5_add_41 : decode cX5_add 41 = .ok (.iload_n 2, 1) := by decide +kernel
theorem dX5_add_42 : decode cX5_add 42 = .ok (.iconst 0, 1) := by decide +kernel
theorem dX5_add_43 : decode cX5_add 43 = .ok (.iload_n 3, 1) := by decide +kernel
theorem dX5_add_44 : decode cX5_add 44 = .ok (.invokevirtual 104, 3) := by decide +kernel
theorem dX5_add_47 : decode cX5_add 47 = .ok (.aload_n 0, 1) := by decide +kernel
theorem dX5_add_48 : decode cX5_add 48 = .ok (.iload_n 1, 1) := by decide +kernel
theorem dX5_add_49 : decode cX5_add 49 = .ok (.iload_n 2, 1) := by decide +kernel
theorem dX5_add_50 : decode cX5_add 50 = .ok (.iconst 0, 1) := by decide +kernel
theorem dX5_add_51 : decode cX5_add 51 = .ok (.invokevirtual 111, 3) := by decide +kernel
theorem dX5_add_54 : decode cX5_add 54 = .ok (.ireturn, 1) := by decide +kernel
set_option maxRecDepth 20000 in
theorem ggX5_at_X5_isForm : GoodIn wsX5_at wsX5_isForm := goodIn_r _ [6, 7, 8, 9, 10, 5, 11, 12, 13, 14, 15, 46, 47, 48, 49, 50, 51, 52, 53, 54, 55, 56, 57, 58, 59, 60, 61, 62, 63, 64, 65] (by decide +kernel) (by decide +kernel)
set_option maxRecDepth 20000 in
theorem gX5_at_X5_isForm : GoodIn wsX5_at (wsV RX5 89 RX5 yX5_isForm wsX5_isForm) := goodIn_app (goodIn_of _ (by decide +kernel)) ggX5_at_X5_isForm
set_option maxRecDepth 20000 in
theorem ggX5_at_X5_isIn : GoodIn wsX5_at wsX5_isIn := goodIn_r _ [15] (by decide +kernel) (by decide +kernel)
set_option maxRecDepth 20000 in
theorem gX5_at_X5_isIn : GoodIn wsX5_at (va_wsS RX5 60 yX5_isIn wsX5_isIn) := goodIn_app (goodIn_of _ (by decide +kernel)) ggX5_at_X5_isIn
set_option maxRecDepth 20000 in
theorem ggX5_at_X5_findIn : GoodIn wsX5_at wsX5_findIn := goodIn_r _ [19, 1, 20, 21, 22, 23, 24, 25, 5, 26, 27, 28, 29, 30, 31, 32, 33, 46, 47, 48, 49, 50, 51, 52, 53, 54, 55, 56, 57, 58, 59, 60, 61, 62, 63, 64, 65] (by decide +kernel) (by decide +kernel)
set_option maxRecDepth 20000 in
theorem gX5_at_X5_findIn : GoodIn wsX5_at (wsV RX5 115 RX5 yX5_findIn wsX5_findIn) := goodIn_app (goodIn_of _ (by decide +kernel)) ggX5_at_X5_findIn
set_option maxRecDepth 20000 in
theorem ggX5_at_X5_read : GoodIn wsX5_at wsX5_read := goodIn_r _ [37, 38, 20, 39, 40, 41, 42, 5, 43, 44, 32, 33, 27, 45, 46, 47, 48, 49, 50, 51, 52, 53, 54, 55, 56, 57, 58, 59, 60, 61, 62, 63, 64, 65] (by decide +kernel) (by decide +kernel)
set_option maxRecDepth 20000 in
theorem gX5_at_X5_read : GoodIn wsX5_at (wsV RX5 108 RX5 yX5_read wsX5_read) := goodIn_app (goodIn_of _ (by decide +kernel)) ggX5_at_X5_read
theorem dX5_at_0 : decode cX5_at 0 = .ok (.aload_n 0, 1) := by decide +kernel
theorem dX5_at_1 : decode cX5_at 1 = .ok (.iload_n 1, 1) := by decide +kernel
theorem dX5_at_2 : decode cX5_at 2 = .ok (.iconst 1, 1) := by decide +kernel
theorem dX5_at_3 : decode cX5_at 3 = .ok (.invokevirtual 89, 3) := by decide +kernel
theorem dX5_at_6 : decode cX5_at 6 = .ok (.ifCond .eq 13, 3) := by decide +kernel
theorem dX5_at_9 : decode cX5_at 9 = .ok (.iload_n 2, 1) := by decide +kernel
theorem dX5_at_10 : decode cX5_at 10 = .ok (.iconst 0, 1) := by decide +kernel
theorem dX5_at_11 : decode cX5_at 11 = .ok (.bipush 99, 2) := by decide +kernel
theorem dX5_at_13 : decode cX5_at 13 = .ok (.invokestatic 60, 3) := by decide +kernel
theorem dX5_at_16 : decode cX5_at 16 = .ok (.ifCond .ne 5, 3) := by decide +kernel
theorem dX5_at_19 : decode cX5_at 19 = .ok (.iconst (-1), 1) := by decide +kernel
theorem dX5_at_20 : decode cX5_at 20 = .ok (.ireturn, 1) := by decide +kernel
theorem dX5_at_21 : decode cX5_at 21 = .ok (.iload_n 3, 1) := by decide +kernel
theorem dX5_at_22 : decode cX5_at 22 = .ok (.ifCond .lt 10, 3) := by decide +kernel
theorem dX5_at_25 : decode cX5_at 25 = .ok (.iload_n 3, 1) := by decide +kernel
theorem dX5_at_26 : decode cX5_at 26 = .ok (.sipush 200, 3) := by decide +kernel
theorem dX5_at_29 : decode cX5_at 29 = .ok (.if_icmp .lt 8, 3) := by decide +kernel
theorem dX5_at_32 : decode cX5_at 32 = .ok (.ldc 55, 2) := by decide +kernel
theorem dX5_at_34 : decode cX5_at 34 = .ok (.goto 11, 3) := by decide +kernel
theorem dX5_at_37 : decode cX5_at 37 = .ok (.aload_n 0, 1) := by decide +kernel
theorem dX5_at_38 : decode cX5_at 38 = .ok (.iload_n 1, 1) := by decide +kernel
theorem dX5_at_39 : decode cX5_at 39 = .ok (.iload_n 2, 1) := by decide +kernel
theorem dX5_at_40 : decode cX5_at 40 = .ok (.iload_n 3, 1) := by decide +kernel
theorem dX5_at_41 : decode cX5_at 41 = .ok (.iconst 1, 1) := by decide +kernel
theorem dX5_at_42 : decode cX5_at 42 = .ok (.invokevirtual 115, 3) := by decide +kernel
theorem dX5_at_45 : decode cX5_at 45 = .ok (.istore 4, 2) := by decide +kernel
theorem dX5_at_47 : decode cX5_at 47 = .ok (.iload 4, 2) := by decide +kernel
theorem dX5_at_49 : decode cX5_at 49 = .ok (.ldc 55, 2) := by decide +kernel
theorem dX5_at_51 : decode cX5_at 51 = .ok (.if_icmp .ne 8, 3) := by decide +kernel
theorem dX5_at_54 : decode cX5_at 54 = .ok (.ldc 55, 2) := by decide +kernel
theorem dX5_at_56 : decode cX5_at 56 = .ok (.goto 9, 3) := by decide +kernel
theorem dX5_at_59 : decode cX5_at 59 = .ok (.aload_n 0, 1) := by decide +kernel
theorem dX5_at_60 : decode cX5_at 60 = .ok (.iload 4, 2) := by decide +kernel
theorem dX5_at_62 : decode cX5_at 62 = .ok (.invokevirtual 108, 3) := by decide +kernel
theorem dX5_at_65 : decode cX5_at 65 = .ok (.ireturn, 1) := by decide +kernel
set_option maxRecDepth 20000 in
theorem ggX5_clear_X5_isState : GoodIn wsX5_clear wsX5_isState := goodIn_r _ [8, 9, 10, 11, 7, 12, 24, 25, 26, 27, 28, 29, 30, 31, 32, 33, 34, 35, 36, 37, 38, 39, 40, 41, 42, 43] (by decide +kernel) (by decide +kernel)
set_option maxRecDepth 20000 in
theorem gX5_clear_X5_isState : GoodIn wsX5_clear (wsV RX5 64 RX5 yX5_isState wsX5_isState) := goodIn_app (goodIn_of _ (by decide +kernel)) ggX5_clear_X5_isState
set_option maxRecDepth 20000 in
theorem ggX5_clear_X5_isIn : GoodIn wsX5_clear wsX5_isIn := goodIn_r _ [12] (by decide +kernel) (by decide +kernel)
set_option maxRecDepth 20000 in
theorem gX5_clear_X5_isIn : GoodIn wsX5_clear (va_wsS RX5 60 yX5_isIn wsX5_isIn) := goodIn_app (goodIn_of _ (by decide +kernel)) ggX5_clear_X5_isIn
set_option maxRecDepth 20000 in
theorem ggX5_clear_X5_isShown : GoodIn wsX5_clear wsX5_isShown := goodIn_r _ [16, 1, 3, 17, 18, 19, 20, 7, 21, 22, 23, 24, 25, 26, 27, 28, 29, 30, 31, 32, 33, 34, 35, 36, 37, 38, 39, 40, 41, 42, 43] (by decide +kernel) (by decide +kernel)
set_option maxRecDepth 20000 in
theorem gX5_clear_X5_isShown : GoodIn wsX5_clear (wsV RX5 73 RX5 yX5_isShown wsX5_isShown) := goodIn_app (goodIn_of _ (by decide +kernel)) ggX5_clear_X5_isShown
theorem dX5_clear_0 : decode cX5_clear 0 = .ok (.aload_n 0, 1) := by decide +kernel
theorem dX5_clear_1 : decode cX5_clear 1 = .ok (.iload_n 1, 1) := by decide +kernel
theorem dX5_clear_2 : decode cX5_clear 2 = .ok (.invokevirtual 64, 3) := by decide +kernel
theorem dX5_clear_5 : decode cX5_clear 5 = .ok (.ifCond .eq 13, 3) := by decide +kernel
theorem dX5_clear_8 : decode cX5_clear 8 = .ok (.iload_n 2, 1) := by decide +kernel
theorem dX5_clear_9 : decode cX5_clear 9 = .ok (.iconst 0, 1) := by decide +kernel
theorem dX5_clear_10 : decode cX5_clear 10 = .ok (.bipush 99, 2) := by decide +kernel
theorem dX5_clear_12 : decode cX5_clear 12 = .ok (.invokestatic 60, 3) := by decide +kernel
theorem dX5_clear_15 : decode cX5_clear 15 = .ok (.ifCond .ne 5, 3) := by decide +kernel
theorem dX5_clear_18 : decode cX5_clear 18 = .ok (.iconst (-1), 1) := by decide +kernel
theorem dX5_clear_19 : decode cX5_clear 19 = .ok (.ireturn, 1) := by decide +kernel
theorem dX5_clear_20 : decode cX5_clear 20 = .ok (.iconst 0, 1) := by decide +kernel
theorem dX5_clear_21 : decode cX5_clear 21 = .ok (.istore_n 3, 1) := by decide +kernel
theorem dX5_clear_22 : decode cX5_clear 22 = .ok (.iconst 0, 1) := by decide +kernel
theorem dX5_clear_23 : decode cX5_clear 23 = .ok (.istore 4, 2) := by decide +kernel
theorem dX5_clear_25 : decode cX5_clear 25 = .ok (.iload 4, 2) := by decide +kernel
theorem dX5_clear_27 : decode cX5_clear 27 = .ok (.sipush 200, 3) := by decide +kernel
theorem dX5_clear_30 : decode cX5_clear 30 = .ok (.if_icmp .ge 57, 3) := by decide +kernel
theorem dX5_clear_33 : decode cX5_clear 33 = .ok (.aload_n 0, 1) := by decide +kernel
theorem dX5_clear_34 : decode cX5_clear 34 = .ok (.getfield 25, 3) := by decide +kernel
theorem dX5_clear_37 : decode cX5_clear 37 = .ok (.iload 4, 2) := by decide +kernel
theorem dX5_clear_39 : decode cX5_clear 39 = .ok (.iaload, 1) := by decide +kernel
theorem dX5_clear_40 : decode cX5_clear 40 = .ok (.iload_n 1, 1) := by decide +kernel
theorem dX5_clear_41 : decode cX5_clear 41 = .ok (.if_icmp .ne 40, 3) := by decide +kernel
theorem dX5_clear_44 : decode cX5_clear 44 = .ok (.aload_n 0, 1) := by decide +kernel
theorem dX5_clear_45 : decode cX5_clear 45 = .ok (.getfield 28, 3) := by decide +kernel
theorem dX5_clear_48 : decode cX5_clear 48 = .ok (.iload 4, 2) := by decide +kernel
theorem dX5_clear_50 : decode cX5_clear 50 = .ok (.iaload, 1) := by decide +kernel
theorem dX5_clear_51 : decode cX5_clear 51 = .ok (.iload_n 2, 1) := by decide +kernel
theorem dX5_clear_52 : decode cX5_clear 52 = .ok (.if_icmp .ne 29, 3) := by decide +kernel
theorem dX5_clear_55 : decode cX5_clear 55 = .ok (.iload_n 3, 1) := by decide +kernel
theorem dX5_clear_56 : decode cX5_clear 56 = .ok (.aload_n 0, 1) := by decide +kernel
theorem dX5_clear_57 : decode cX5_clear 57 = .ok (.iload 4, 2) := by decide +kernel
theorem dX5_clear_59 : decode cX5_clear 59 = .ok (.invokevirtual 73, 3) := by decide +kernel
theorem dX5_clear_62 : decode cX5_clear 62 = .ok (.ifCond .eq 7, 3) := by decide +kernel
theorem dX5_clear_65 : decode cX5_clear 65 = .ok (.iconst 1, 1) := by decide +kernel
theorem dX5_clear_66 : decode cX5_clear 66 = .ok (.goto 4, 3) := by decide +kernel
theorem dX5_clear_69 : decode cX5_clear 69 = .ok (.iconst 0, 1) := by decide +kernel
theorem dX5_clear_70 : decode cX5_clear 70 = .ok (.iadd, 1) := by decide +kernel
theorem dX5_clear_71 : decode cX5_clear 71 = .ok (.istore_n 3, 1) := by decide +kernel
theorem dX5_clear_72 : decode cX5_clear 72 = .ok (.aload_n 0, 1) := by decide +kernel
theorem dX5_clear_73 : decode cX5_clear 73 = .ok (.getfield 25, 3) := by decide +kernel
theorem dX5_clear_76 : decode cX5_clear 76 = .ok (.iload 4, 2) := by decide +kernel
theorem dX5_clear_78 : decode cX5_clear 78 = .ok (.ldc 55, 2) := by decide +kernel
theorem dX5_clear_80 : decode cX5_clear 80 = .ok (.iastore, 1) := by decide +kernel
theorem dX5_clear_81 : decode cX5_clear 81 = .ok (.iinc 4 1, 3) := by decide +kernel
theorem dX5_clear_84 : decode cX5_clear 84 = .ok (.goto (-59), 3) := by decide +kernel
theorem dX5_clear_87 : decode cX5_clear 87 = .ok (.iload_n 3, 1) := by decide +kernel
theorem dX5_clear_88 : decode cX5_clear 88 = .ok (.ireturn, 1) := by decide +kernel
set_option maxRecDepth 20000 in
theorem ggX5_held_X5_isState : GoodIn wsX5_held wsX5_isState := goodIn_r _ [7, 8, 9, 10, 6, 11, 24, 25, 26, 27, 28, 29, 30, 31, 32, 33, 34, 35, 36, 37, 38, 39, 40, 41, 42, 43] (by decide +kernel) (by decide +kernel)
set_option maxRecDepth 20000 in
theorem gX5_held_X5_isState : GoodIn wsX5_held (wsV RX5 64 RX5 yX5_isState wsX5_isState) := goodIn_app (goodIn_of _ (by decide +kernel)) ggX5_held_X5_isState
set_option maxRecDepth 20000 in
theorem ggX5_held_X5_isIn : GoodIn wsX5_held wsX5_isIn := goodIn_r _ [11] (by decide +kernel) (by decide +kernel)
set_option maxRecDepth 20000 in
theorem gX5_held_X5_isIn : GoodIn wsX5_held (va_wsS RX5 60 yX5_isIn wsX5_isIn) := goodIn_app (goodIn_of _ (by decide +kernel)) ggX5_held_X5_isIn
set_option maxRecDepth 20000 in
theorem ggX5_held_X5_isShown : GoodIn wsX5_held wsX5_isShown := goodIn_r _ [15, 1, 16, 17, 18, 19, 20, 6, 21, 22, 23, 24, 25, 26, 27, 28, 29, 30, 31, 32, 33, 34, 35, 36, 37, 38, 39, 40, 41, 42, 43] (by decide +kernel) (by decide +kernel)
set_option maxRecDepth 20000 in
theorem gX5_held_X5_isShown : GoodIn wsX5_held (wsV RX5 73 RX5 yX5_isShown wsX5_isShown) := goodIn_app (goodIn_of _ (by decide +kernel)) ggX5_held_X5_isShown
theorem dX5_held_0 : decode cX5_held 0 = .ok (.aload_n 0, 1) := by decide +kernel
theorem dX5_held_1 : decode cX5_held 1 = .ok (.iload_n 1, 1) := by decide +kernel
theorem dX5_held_2 : decode cX5_held 2 = .ok (.invokevirtual 64, 3) := by decide +kernel
theorem dX5_held_5 : decode cX5_held 5 = .ok (.ifCond .eq 13, 3) := by decide +kernel
theorem dX5_held_8 : decode cX5_held 8 = .ok (.iload_n 2, 1) := by decide +kernel
theorem dX5_held_9 : decode cX5_held 9 = .ok (.iconst 0, 1) := by decide +kernel
theorem dX5_held_10 : decode cX5_held 10 = .ok (.bipush 99, 2) := by decide +kernel
theorem dX5_held_12 : decode cX5_held 12 = .ok (.invokestatic 60, 3) := by decide +kernel
theorem dX5_held_15 : decode cX5_held 15 = .ok (.ifCond .ne 5, 3) := by decide +kernel
theorem dX5_held_18 : decode cX5_held 18 = .ok (.iconst (-1), 1) := by decide +kernel
theorem dX5_held_19 : decode cX5_held 19 = .ok (.ireturn, 1) := by decide +kernel
theorem dX5_held_20 : decode cX5_held 20 = .ok (.iconst 0, 1) := by decide +kernel
theorem dX5_held_21 : decode cX5_held 21 = .ok (.istore 4, 2) := by decide +kernel
theorem dX5_held_23 : decode cX5_held 23 = .ok (.iconst 0, 1) := by decide +kernel
theorem dX5_held_24 : decode cX5_held 24 = .ok (.istore 5, 2) := by decide +kernel
theorem dX5_held_26 : decode cX5_held 26 = .ok (.iload 5, 2) := by decide +kernel
theorem dX5_held_28 : decode cX5_held 28 = .ok (.sipush 200, 3) := by decide +kernel
theorem dX5_held_31 : decode cX5_held 31 = .ok (.if_icmp .ge 51, 3) := by decide +kernel
theorem dX5_held_34 : decode cX5_held 34 = .ok (.iload 4, 2) := by decide +kernel
theorem dX5_held_36 : decode cX5_held 36 = .ok (.aload_n 0, 1) := by decide +kernel
theorem dX5_held_37 : decode cX5_held 37 = .ok (.getfield 25, 3) := by decide +kernel
theorem dX5_held_40 : decode cX5_held 40 = .ok (.iload 5, 2) := by decide +kernel
theorem dX5_held_42 : decode cX5_held 42 = .ok (.iaload, 1) := by decide +kernel
theorem dX5_held_43 : decode cX5_held 43 = .ok (.iload_n 1, 1) := by decide +kernel
theorem dX5_held_44 : decode cX5_held 44 = .ok (.if_icmp .ne 28, 3) := by decide +kernel
theorem dX5_held_47 : decode cX5_held 47 = .ok (.aload_n 0, 1) := by decide +kernel
theorem dX5_held_48 : decode cX5_held 48 = .ok (.getfield 28, 3) := by decide +kernel
theorem dX5_held_51 : decode cX5_held 51 = .ok (.iload 5, 2) := by decide +kernel
theorem dX5_held_53 : decode cX5_held 53 = .ok (.iaload, 1) := by decide +kernel
theorem dX5_held_54 : decode cX5_held 54 = .ok (.iload_n 2, 1) := by decide +kernel
theorem dX5_held_55 : decode cX5_held 55 = .ok (.if_icmp .ne 17, 3) := by decide +kernel
theorem dX5_held_58 : decode cX5_held 58 = .ok (.aload_n 0, 1) := by decide +kernel
theorem dX5_held_59 : decode cX5_held 59 = .ok (.iload 5, 2) := by decide +kernel
theorem dX5_held_61 : decode cX5_held 61 = .ok (.invokevirtual 73, 3) := by decide +kernel
theorem dX5_held_64 : decode cX5_held 64 = .ok (.iload_n 3, 1) := by decide +kernel
theorem dX5_held_65 : decode cX5_held 65 = .ok (.if_icmp .eq 7, 3) := by decide +kernel
theorem dX5_held_68 : decode cX5_held 68 = .ok (.iconst 1, 1) := by decide +kernel
theorem dX5_held_69 : decode cX5_held 69 = .ok (.goto 4, 3) := by decide +kernel
theorem dX5_held_72 : decode cX5_held 72 = .ok (.iconst 0, 1) := by decide +kernel
theorem dX5_held_73 : decode cX5_held 73 = .ok (.iadd, 1) := by decide +kernel
theorem dX5_held_74 : decode cX5_held 74 = .ok (.istore 4, 2) := by decide +kernel
theorem dX5_held_76 : decode cX5_held 76 = .ok (.iinc 5 1, 3) := by decide +kernel
theorem dX5_held_79 : decode cX5_held 79 = .ok (.goto (-53), 3) := by decide +kernel
theorem dX5_held_82 : decode cX5_held 82 = .ok (.iload 4, 2) := by decide +kernel
theorem dX5_held_84 : decode cX5_held 84 = .ok (.ireturn, 1) := by decide +kernel
set_option maxRecDepth 20000 in
theorem ggX5_isAsked_X5_isState : GoodIn wsX5_isAsked wsX5_isState := goodIn_r _ [6, 7, 8, 9, 5, 10, 11, 12, 13, 14, 15, 16, 17, 18, 19, 20, 21, 22, 23, 24, 25, 26, 27, 28, 29, 30] (by decide +kernel) (by decide +kernel)
set_option maxRecDepth 20000 in
theorem gX5_isAsked_X5_isState : GoodIn wsX5_isAsked (wsV RX5 64 RX5 yX5_isState wsX5_isState) := goodIn_app (goodIn_of _ (by decide +kernel)) ggX5_isAsked_X5_isState
set_option maxRecDepth 20000 in
theorem ggX5_isAsked_X5_isIn : GoodIn wsX5_isAsked wsX5_isIn := goodIn_r _ [10] (by decide +kernel) (by decide +kernel)
set_option maxRecDepth 20000 in
theorem gX5_isAsked_X5_isIn : GoodIn wsX5_isAsked (va_wsS RX5 60 yX5_isIn wsX5_isIn) := goodIn_app (goodIn_of _ (by decide +kernel)) ggX5_isAsked_X5_isIn
theorem dX5_isAsked_0 : decode cX5_isAsked 0 = .ok (.aload_n 0, 1) := by decide +kernel
theorem dX5_isAsked_1 : decode cX5_isAsked 1 = .ok (.iload_n 1, 1) := by decide +kernel
theorem dX5_isAsked_2 : decode cX5_isAsked 2 = .ok (.invokevirtual 64, 3) := by decide +kernel
theorem dX5_isAsked_5 : decode cX5_isAsked 5 = .ok (.ifCond .eq 37, 3) := by decide +kernel
theorem dX5_isAsked_8 : decode cX5_isAsked 8 = .ok (.iload_n 2, 1) := by decide +kernel
theorem dX5_isAsked_9 : decode cX5_isAsked 9 = .ok (.iconst 0, 1) := by decide +kernel
theorem dX5_isAsked_10 : decode cX5_isAsked 10 = .ok (.bipush 99, 2) := by decide +kernel
theorem dX5_isAsked_12 : decode cX5_isAsked 12 = .ok (.invokestatic 60, 3) := by decide +kernel
theorem dX5_isAsked_15 : decode cX5_isAsked 15 = .ok (.ifCond .eq 27, 3) := by decide +kernel
theorem dX5_isAsked_18 : decode cX5_isAsked 18 = .ok (.iload_n 3, 1) := by decide +kernel
theorem dX5_isAsked_19 : decode cX5_isAsked 19 = .ok (.ifCond .lt 23, 3) := by decide +kernel
theorem dX5_isAsked_22 : decode cX5_isAsked 22 = .ok (.aload_n 0, 1) := by decide +kernel
theorem dX5_isAsked_23 : decode cX5_isAsked 23 = .ok (.getfield 7, 3) := by decide +kernel
theorem dX5_isAsked_26 : decode cX5_isAsked 26 = .ok (.iload_n 1, 1) := by decide +kernel
theorem dX5_isAsked_27 : decode cX5_isAsked 27 = .ok (.iaload, 1) := by decide +kernel
theorem dX5_isAsked_28 : decode cX5_isAsked 28 = .ok (.iconst 1, 1) := by decide +kernel
theorem dX5_isAsked_29 : decode cX5_isAsked 29 = .ok (.if_icmp .eq 9, 3) := by decide +kernel
theorem dX5_isAsked_32 : decode cX5_isAsked 32 = .ok (.iload_n 3, 1) := by decide +kernel
theorem dX5_isAsked_33 : decode cX5_isAsked 33 = .ok (.bipush 9, 2) := by decide +kernel
theorem dX5_isAsked_35 : decode cX5_isAsked 35 = .ok (.if_icmp .gt 7, 3) := by decide +kernel
theorem dX5_isAsked_38 : decode cX5_isAsked 38 = .ok (.iconst 1, 1) := by decide +kernel
theorem dX5_isAsked_39 : decode cX5_isAsked 39 = .ok (.goto 4, 3) := by decide +kernel
theorem dX5_isAsked_42 : decode cX5_isAsked 42 = .ok (.iconst 0, 1) := by decide +kernel
theorem dX5_isAsked_43 : decode cX5_isAsked 43 = .ok (.ireturn, 1) := by decide +kernel
set_option maxRecDepth 20000 in
theorem ggX5_asked_X5_find : GoodIn wsX5_asked wsX5_find := goodIn_r _ [7, 8, 9, 10, 2, 27, 28, 29, 30, 31, 32, 33, 34, 35, 36, 37, 38, 39, 40, 41, 42, 43, 44, 45, 46] (by decide +kernel) (by decide +kernel)
set_option maxRecDepth 20000 in
theorem gX5_asked_X5_find : GoodIn wsX5_asked (wsV RX5 93 RX5 yX5_find wsX5_find) := goodIn_app (goodIn_of _ (by decide +kernel)) ggX5_asked_X5_find
set_option maxRecDepth 20000 in
theorem ggX5_asked_X5_findIn : GoodIn wsX5_asked wsX5_findIn := goodIn_r _ [14, 2, 8, 9, 15, 16, 17, 18, 6, 19, 20, 21, 22, 23, 24, 25, 26, 27, 28, 29, 30, 31, 32, 33, 34, 35, 36, 37, 38, 39, 40, 41, 42, 43, 44, 45, 46] (by decide +kernel) (by decide +kernel)
set_option maxRecDepth 20000 in
theorem gX5_asked_X5_findIn : GoodIn wsX5_asked (wsV RX5 115 RX5 yX5_findIn wsX5_findIn) := goodIn_app (goodIn_of _ (by decide +kernel)) ggX5_asked_X5_findIn
theorem dX5_asked_0 : decode cX5_asked 0 = .ok (.aload_n 0, 1) := by decide +kernel
theorem dX5_asked_1 : decode cX5_asked 1 = .ok (.getfield 7, 3) := by decide +kernel
theorem dX5_asked_4 : decode cX5_asked 4 = .ok (.iload_n 1, 1) := by decide +kernel
theorem dX5_asked_5 : decode cX5_asked 5 = .ok (.iaload, 1) := by decide +kernel
theorem dX5_asked_6 : decode cX5_asked 6 = .ok (.ifCond .ne 11, 3) := by decide +kernel
theorem dX5_asked_9 : decode cX5_asked 9 = .ok (.aload_n 0, 1) := by decide +kernel
theorem dX5_asked_10 : decode cX5_asked 10 = .ok (.iload_n 1, 1) := by decide +kernel
theorem dX5_asked_11 : decode cX5_asked 11 = .ok (.iload_n 2, 1) := by decide +kernel
theorem dX5_asked_12 : decode cX5_asked 12 = .ok (.iload_n 3, 1) := by decide +kernel
theorem dX5_asked_13 : decode cX5_asked 13 = .ok (.invokevirtual 93, 3) := by decide +kernel
theorem dX5_asked_16 : decode cX5_asked 16 = .ok (.ireturn, 1) := by decide +kernel
theorem dX5_asked_17 : decode cX5_asked 17 = .ok (.iload_n 3, 1) := by decide +kernel
theorem dX5_asked_18 : decode cX5_asked 18 = .ok (.sipush 200, 3) := by decide +kernel
theorem dX5_asked_21 : decode cX5_asked 21 = .ok (.if_icmp .lt 8, 3) := by decide +kernel
theorem dX5_asked_24 : decode cX5_asked 24 = .ok (.ldc 55, 2) := by decide +kernel
theorem dX5_asked_26 : decode cX5_asked 26 = .ok (.goto 12, 3) := by decide +kernel
theorem dX5_asked_29 : decode cX5_asked 29 = .ok (.aload_n 0, 1) := by decide +kernel
theorem dX5_asked_30 : decode cX5_asked 30 = .ok (.iload_n 1, 1) := by decide +kernel
theorem dX5_asked_31 : decode cX5_asked 31 = .ok (.iload_n 2, 1) := by decide +kernel
theorem dX5_asked_32 : decode cX5_asked 32 = .ok (.iload_n 3, 1) := by decide +kernel
theorem dX5_asked_33 : decode cX5_asked 33 = .ok (.iload 4, 2) := by decide +kernel
theorem dX5_asked_35 : decode cX5_asked 35 = .ok (.invokevirtual 115, 3) := by decide +kernel
theorem dX5_asked_38 : decode cX5_asked 38 = .ok (.ireturn, 1) := by decide +kernel
set_option maxRecDepth 20000 in
theorem ggX5_left_X5_isAsked : GoodIn wsX5_left wsX5_isAsked := goodIn_r _ [7, 8, 9, 10, 11, 6, 12, 13, 14, 15, 16, 43, 44, 45, 46, 47, 48, 49, 50, 51, 52, 53, 54, 55, 56, 57, 58, 59, 60, 61, 62] (by decide +kernel) (by decide +kernel)
set_option maxRecDepth 20000 in
theorem gX5_left_X5_isAsked : GoodIn wsX5_left (wsV RX5 119 RX5 yX5_isAsked wsX5_isAsked) := goodIn_app (goodIn_of _ (by decide +kernel)) ggX5_left_X5_isAsked
set_option maxRecDepth 20000 in
theorem ggX5_left_X5_asked : GoodIn wsX5_left wsX5_asked := goodIn_r _ [20, 8, 1, 21, 22, 23, 6, 24, 25, 26, 27, 28, 29, 30, 31, 32, 33, 34, 35, 36, 2, 37, 38, 39, 40, 41, 42, 43, 44, 45, 46, 47, 48, 49, 50, 51, 52, 53, 54, 55, 56, 57, 58, 59, 60, 61, 62] (by decide +kernel) (by decide +kernel)
set_option maxRecDepth 20000 in
theorem gX5_left_X5_asked : GoodIn wsX5_left (wsV RX5 122 RX5 yX5_asked wsX5_asked) := goodIn_app (goodIn_of _ (by decide +kernel)) ggX5_left_X5_asked
set_option maxRecDepth 20000 in
theorem ggX5_left_X5_isShown : GoodIn wsX5_left wsX5_isShown := goodIn_r _ [36, 25, 1, 2, 37, 38, 39, 6, 40, 41, 42, 43, 44, 45, 46, 47, 48, 49, 50, 51, 52, 53, 54, 55, 56, 57, 58, 59, 60, 61, 62] (by decide +kernel) (by decide +kernel)
set_option maxRecDepth 20000 in
theorem gX5_left_X5_isShown : GoodIn wsX5_left (wsV RX5 73 RX5 yX5_isShown wsX5_isShown) := goodIn_app (goodIn_of _ (by decide +kernel)) ggX5_left_X5_isShown
set_option maxRecDepth 20000 in
theorem ggX5_left_X5_clockOf : GoodIn wsX5_left wsX5_clockOf := goodIn_r _ [40, 41, 42, 25, 43, 44, 45, 46, 47, 48, 49, 50, 51, 52, 53, 54, 55, 56, 57, 58, 59, 60, 61, 62] (by decide +kernel) (by decide +kernel)
set_option maxRecDepth 20000 in
theorem gX5_left_X5_clockOf : GoodIn wsX5_left (wsV RX5 69 RX5 yX5_clockOf wsX5_clockOf) := goodIn_app (goodIn_of _ (by decide +kernel)) ggX5_left_X5_clockOf
theorem dX5_left_0 : decode cX5_left 0 = .ok (.aload_n 0, 1) := by decide +kernel
theorem dX5_left_1 : decode cX5_left 1 = .ok (.iload_n 1, 1) := by decide +kernel
theorem dX5_left_2 : decode cX5_left 2 = .ok (.iload_n 2, 1) := by decide +kernel
theorem dX5_left_3 : decode cX5_left 3 = .ok (.iload_n 3, 1) := by decide +kernel
theorem dX5_left_4 : decode cX5_left 4 = .ok (.invokevirtual 119, 3) := by decide +kernel
theorem dX5_left_7 : decode cX5_left 7 = .ok (.ifCond .ne 5, 3) := by decide +kernel
theorem dX5_left_10 : decode cX5_left 10 = .ok (.iconst (-1), 1) := by decide +kernel
theorem dX5_left_11 : decode cX5_left 11 = .ok (.ireturn, 1) := by decide +kernel
theorem dX5_left_12 : decode cX5_left 12 = .ok (.aload_n 0, 1) := by decide +kernel
theorem dX5_left_13 : decode cX5_left 13 = .ok (.iload_n 1, 1) := by decide +kernel
theorem dX5_left_14 : decode cX5_left 14 = .ok (.iload_n 2, 1) := by decide +kernel
theorem dX5_left_15 : decode cX5_left 15 = .ok (.iload_n 3, 1) := by decide +kernel
theorem dX5_left_16 : decode cX5_left 16 = .ok (.iconst 1, 1) := by decide +kernel
theorem dX5_left_17 : decode cX5_left 17 = .ok (.invokevirtual 122, 3) := by decide +kernel
theorem dX5_left_20 : decode cX5_left 20 = .ok (.istore 4, 2) := by decide +kernel
theorem dX5_left_22 : decode cX5_left 22 = .ok (.iload 4, 2) := by decide +kernel
theorem dX5_left_24 : decode cX5_left 24 = .ok (.ldc 55, 2) := by decide +kernel
theorem dX5_left_26 : decode cX5_left 26 = .ok (.if_icmp .eq 29, 3) := by decide +kernel
theorem dX5_left_29 : decode cX5_left 29 = .ok (.aload_n 0, 1) := by decide +kernel
theorem dX5_left_30 : decode cX5_left 30 = .ok (.iload 4, 2) := by decide +kernel
theorem dX5_left_32 : decode cX5_left 32 = .ok (.invokevirtual 73, 3) := by decide +kernel
theorem dX5_left_35 : decode cX5_left 35 = .ok (.ifCond .eq 20, 3) := by decide +kernel
theorem dX5_left_38 : decode cX5_left 38 = .ok (.aload_n 0, 1) := by decide +kernel
theorem dX5_left_39 : decode cX5_left 39 = .ok (.getfield 40, 3) := by decide +kernel
theorem dX5_left_42 : decode cX5_left 42 = .ok (.iload 4, 2) := by decide +kernel
theorem dX5_left_44 : decode cX5_left 44 = .ok (.iaload, 1) := by decide +kernel
theorem dX5_left_45 : decode cX5_left 45 = .ok (.aload_n 0, 1) := by decide +kernel
theorem dX5_left_46 : decode cX5_left 46 = .ok (.iload 4, 2) := by decide +kernel
theorem dX5_left_48 : decode cX5_left 48 = .ok (.invokevirtual 69, 3) := by decide +kernel
theorem dX5_left_51 : decode cX5_left 51 = .ok (.isub, 1) := by decide +kernel
theorem dX5_left_52 : decode cX5_left 52 = .ok (.goto 5, 3) := by decide +kernel
theorem dX5_left_55 : decode cX5_left 55 = .ok (.ldc 55, 2) := by decide +kernel
theorem dX5_left_57 : decode cX5_left 57 = .ok (.ireturn, 1) := by decide +kernel
set_option maxRecDepth 20000 in
theorem ggX5_place_X5_isAsked : GoodIn wsX5_place wsX5_isAsked := goodIn_r _ [5, 6, 7, 8, 9, 4, 10, 11, 12, 13, 14, 43, 44, 45, 46, 47, 48, 49, 50, 51, 52, 53, 54, 55, 56, 57, 58, 59, 60, 61, 62] (by decide +kernel) (by decide +kernel)
set_option maxRecDepth 20000 in
theorem gX5_place_X5_isAsked : GoodIn wsX5_place (wsV RX5 119 RX5 yX5_isAsked wsX5_isAsked) := goodIn_app (goodIn_of _ (by decide +kernel)) ggX5_place_X5_isAsked
set_option maxRecDepth 20000 in
theorem ggX5_place_X5_asked : GoodIn wsX5_place wsX5_asked := goodIn_r _ [18, 6, 19, 20, 21, 22, 4, 23, 24, 25, 26, 27, 28, 29, 30, 31, 32, 33, 34, 35, 36, 37, 38, 39, 40, 41, 42, 43, 44, 45, 46, 47, 48, 49, 50, 51, 52, 53, 54, 55, 56, 57, 58, 59, 60, 61, 62] (by decide +kernel) (by decide +kernel)
set_option maxRecDepth 20000 in
theorem gX5_place_X5_asked : GoodIn wsX5_place (wsV RX5 122 RX5 yX5_asked wsX5_asked) := goodIn_app (goodIn_of _ (by decide +kernel)) ggX5_place_X5_asked
theorem dX5_place_0 : decode cX5_place 0 = .ok (.aload_n 0, 1) := by decide +kernel
theorem dX5_place_1 : decode cX5_place 1 = .ok (.iload_n 1, 1) := by decide +kernel
theorem dX5_place_2 : decode cX5_place 2 = .ok (.iload_n 2, 1) := by decide +kernel
theorem dX5_place_3 : decode cX5_place 3 = .ok (.iload_n 3, 1) := by decide +kernel
theorem dX5_place_4 : decode cX5_place 4 = .ok (.invokevirtual 119, 3) := by decide +kernel
theorem dX5_place_7 : decode cX5_place 7 = .ok (.ifCond .ne 5, 3) := by decide +kernel
theorem dX5_place_10 : decode cX5_place 10 = .ok (.iconst (-1), 1) := by decide +kernel
theorem dX5_place_11 : decode cX5_place 11 = .ok (.ireturn, 1) := by decide +kernel
theorem dX5_place_12 : decode cX5_place 12 = .ok (.aload_n 0, 1) := by decide +kernel
theorem dX5_place_13 : decode cX5_place 13 = .ok (.iload_n 1, 1) := by decide +kernel
theorem dX5_place_14 : decode cX5_place 14 = .ok (.iload_n 2, 1) := by decide +kernel
theorem dX5_place_15 : decode cX5_place 15 = .ok (.iload_n 3, 1) := by decide +kernel
theorem dX5_place_16 : decode cX5_place 16 = .ok (.iconst 0, 1) := by decide +kernel
theorem dX5_place_17 : decode cX5_place 17 = .ok (.invokevirtual 122, 3) := by decide +kernel
theorem dX5_place_20 : decode cX5_place 20 = .ok (.ireturn, 1) := by decide +kernel
set_option maxRecDepth 20000 in
theorem ggX5_comes_X5_overs : GoodIn wsX5_comes wsX5_overs := goodIn_r _ [6, 7, 8, 9, 5, 10, 11, 12, 13, 14, 15, 16, 17, 1, 18, 19, 20, 21, 22, 23, 24, 25, 26, 27, 28, 29, 30, 31, 32, 33, 34, 35, 36, 37, 38] (by decide +kernel) (by decide +kernel)
set_option maxRecDepth 20000 in
theorem gX5_comes_X5_overs : GoodIn wsX5_comes (wsV RX5 125 RX5 yX5_overs wsX5_overs) := goodIn_app (goodIn_of _ (by decide +kernel)) ggX5_comes_X5_overs
theorem dX5_comes_0 : decode cX5_comes 0 = .ok (.aload_n 0, 1) := by decide +kernel
theorem dX5_comes_1 : decode cX5_comes 1 = .ok (.invokevirtual 125, 3) := by decide +kernel
theorem dX5_comes_4 : decode cX5_comes 4 = .ok (.istore_n 3, 1) := by decide +kernel
theorem dX5_comes_5 : decode cX5_comes 5 = .ok (.aload_n 0, 1) := by decide +kernel
theorem dX5_comes_6 : decode cX5_comes 6 = .ok (.getfield 22, 3) := by decide +kernel
theorem dX5_comes_9 : decode cX5_comes 9 = .ok (.iload_n 1, 1) := by decide +kernel
theorem dX5_comes_10 : decode cX5_comes 10 = .ok (.iload_n 2, 1) := by decide +kernel
theorem dX5_comes_11 : decode cX5_comes 11 = .ok (.iastore, 1) := by decide +kernel
theorem dX5_comes_12 : decode cX5_comes 12 = .ok (.aload_n 0, 1) := by decide +kernel
theorem dX5_comes_13 : decode cX5_comes 13 = .ok (.invokevirtual 125, 3) := by decide +kernel
theorem dX5_comes_16 : decode cX5_comes 16 = .ok (.iload_n 3, 1) := by decide +kernel
theorem dX5_comes_17 : decode cX5_comes 17 = .ok (.isub, 1) := by decide +kernel
theorem dX5_comes_18 : decode cX5_comes 18 = .ok (.ireturn, 1) := by decide +kernel
set_option maxRecDepth 20000 in
theorem ggX5_overs_X5_isOver : GoodIn wsX5_overs wsX5_isOver := goodIn_r _ [5, 6, 7, 8, 9, 10, 11, 4, 12, 13, 14, 15, 16, 17, 18, 19, 20, 21, 22, 23, 24, 25, 26, 27, 28, 29, 30, 31, 32, 33, 34] (by decide +kernel) (by decide +kernel)
set_option maxRecDepth 20000 in
theorem gX5_overs_X5_isOver : GoodIn wsX5_overs (wsV RX5 128 RX5 yX5_isOver wsX5_isOver) := goodIn_app (goodIn_of _ (by decide +kernel)) ggX5_overs_X5_isOver
theorem dX5_overs_0 : decode cX5_overs 0 = .ok (.iconst 0, 1) := by decide +kernel
theorem dX5_overs_1 : decode cX5_overs 1 = .ok (.istore_n 1, 1) := by decide +kernel
theorem dX5_overs_2 : decode cX5_overs 2 = .ok (.iconst 0, 1) := by decide +kernel
theorem dX5_overs_3 : decode cX5_overs 3 = .ok (.istore_n 2, 1) := by decide +kernel
theorem dX5_overs_4 : decode cX5_overs 4 = .ok (.iload_n 2, 1) := by decide +kernel
theorem dX5_overs_5 : decode cX5_overs 5 = .ok (.sipush 200, 3) := by decide +kernel
theorem dX5_overs_8 : decode cX5_overs 8 = .ok (.if_icmp .ge 25, 3) := by decide +kernel
theorem dX5_overs_11 : decode cX5_overs 11 = .ok (.iload_n 1, 1) := by decide +kernel
theorem dX5_overs_12 : decode cX5_overs 12 = .ok (.aload_n 0, 1) := by decide +kernel
theorem dX5_overs_13 : decode cX5_overs 13 = .ok (.iload_n 2, 1) := by decide +kernel
theorem dX5_overs_14 : decode cX5_overs 14 = .ok (.invokevirtual 128, 3) := by decide +kernel
theorem dX5_overs_17 : decode cX5_overs 17 = .ok (.ifCond .eq 7, 3) := by decide +kernel
theorem dX5_overs_20 : decode cX5_overs 20 = .ok (.iconst 1, 1) := by decide +kernel
theorem dX5_overs_21 : decode cX5_overs 21 = .ok (.goto 4, 3) := by decide +kernel
theorem dX5_overs_24 : decode cX5_overs 24 = .ok (.iconst 0, 1) := by decide +kernel
theorem dX5_overs_25 : decode cX5_overs 25 = .ok (.iadd, 1) := by decide +kernel
theorem dX5_overs_26 : decode cX5_overs 26 = .ok (.istore_n 1, 1) := by decide +kernel
theorem dX5_overs_27 : decode cX5_overs 27 = .ok (.iinc 2 1, 3) := by decide +kernel
theorem dX5_overs_30 : decode cX5_overs 30 = .ok (.goto (-26), 3) := by decide +kernel
theorem dX5_overs_33 : decode cX5_overs 33 = .ok (.iload_n 1, 1) := by decide +kernel
theorem dX5_overs_34 : decode cX5_overs 34 = .ok (.ireturn, 1) := by decide +kernel
set_option maxRecDepth 20000 in
theorem ggX5_tick_X5_isIn : GoodIn wsX5_tick wsX5_isIn := goodIn_r _ [7] (by decide +kernel) (by decide +kernel)
set_option maxRecDepth 20000 in
theorem gX5_tick_X5_isIn : GoodIn wsX5_tick (va_wsS RX5 60 yX5_isIn wsX5_isIn) := goodIn_app (goodIn_of _ (by decide +kernel)) ggX5_tick_X5_isIn
set_option maxRecDepth 20000 in
theorem ggX5_tick_X5_comes : GoodIn wsX5_tick wsX5_comes := goodIn_r _ [11, 2, 12, 13, 14, 6, 15, 16, 17, 18, 19, 20, 21, 22, 23, 24, 25, 26, 27, 28, 29, 30, 31, 32, 33, 34, 35, 36, 37, 38, 39, 40, 41, 42, 43, 44, 45, 46, 47] (by decide +kernel) (by decide +kernel)
set_option maxRecDepth 20000 in
theorem gX5_tick_X5_comes : GoodIn wsX5_tick (wsV RX5 132 RX5 yX5_comes wsX5_comes) := goodIn_app (goodIn_of _ (by decide +kernel)) ggX5_tick_X5_comes
theorem dX5_tick_0 : decode cX5_tick 0 = .ok (.iload_n 1, 1) := by decide +kernel
theorem dX5_tick_1 : decode cX5_tick 1 = .ok (.iconst 1, 1) := by decide +kernel
theorem dX5_tick_2 : decode cX5_tick 2 = .ok (.ldc 68, 2) := by decide +kernel
theorem dX5_tick_4 : decode cX5_tick 4 = .ok (.invokestatic 60, 3) := by decide +kernel
theorem dX5_tick_7 : decode cX5_tick 7 = .ok (.ifCond .ne 5, 3) := by decide +kernel
theorem dX5_tick_10 : decode cX5_tick 10 = .ok (.iconst (-1), 1) := by decide +kernel
theorem dX5_tick_11 : decode cX5_tick 11 = .ok (.ireturn, 1) := by decide +kernel
theorem dX5_tick_12 : decode cX5_tick 12 = .ok (.aload_n 0, 1) := by decide +kernel
theorem dX5_tick_13 : decode cX5_tick 13 = .ok (.getfield 22, 3) := by decide +kernel
theorem dX5_tick_16 : decode cX5_tick 16 = .ok (.iconst 0, 1) := by decide +kernel
theorem dX5_tick_17 : decode cX5_tick 17 = .ok (.iaload, 1) := by decide +kernel
theorem dX5_tick_18 : decode cX5_tick 18 = .ok (.iload_n 1, 1) := by decide +kernel
theorem dX5_tick_19 : decode cX5_tick 19 = .ok (.iadd, 1) := by decide +kernel
theorem dX5_tick_20 : decode cX5_tick 20 = .ok (.ldc 131, 2) := by decide +kernel
theorem dX5_tick_22 : decode cX5_tick 22 = .ok (.if_icmp .le 6, 3) := by decide +kernel
theorem dX5_tick_25 : decode cX5_tick 25 = .ok (.bipush (-2), 2) := by decide +kernel
theorem dX5_tick_27 : decode cX5_tick 27 = .ok (.ireturn, 1) := by decide +kernel
theorem dX5_tick_28 : decode cX5_tick 28 = .ok (.aload_n 0, 1) := by decide +kernel
theorem dX5_tick_29 : decode cX5_tick 29 = .ok (.iconst 0, 1) := by decide +kernel
theorem dX5_tick_30 : decode cX5_tick 30 = .ok (.aload_n 0, 1) := by decide +kernel
theorem dX5_tick_31 : decode cX5_tick 31 = .ok (.getfield 22, 3) := by decide +kernel
theorem dX5_tick_34 : decode cX5_tick 34 = .ok (.iconst 0, 1) := by decide +kernel
theorem dX5_tick_35 : decode cX5_tick 35 = .ok (.iaload, 1) := by decide +kernel
theorem dX5_tick_36 : decode cX5_tick 36 = .ok (.iload_n 1, 1) := by decide +kernel
theorem dX5_tick_37 : decode cX5_tick 37 = .ok (.iadd, 1) := by decide +kernel
theorem dX5_tick_38 : decode cX5_tick 38 = .ok (.invokevirtual 132, 3) := by decide +kernel
theorem dX5_tick_41 : decode cX5_tick 41 = .ok (.ireturn, 1) := by decide +kernel
set_option maxRecDepth 20000 in
theorem ggX5_watermark_X5_isIn : GoodIn wsX5_watermark wsX5_isIn := goodIn_r _ [6] (by decide +kernel) (by decide +kernel)
set_option maxRecDepth 20000 in
theorem gX5_watermark_X5_isIn : GoodIn wsX5_watermark (va_wsS RX5 60 yX5_isIn wsX5_isIn) := goodIn_app (goodIn_of _ (by decide +kernel)) ggX5_watermark_X5_isIn
set_option maxRecDepth 20000 in
theorem ggX5_watermark_X5_comes : GoodIn wsX5_watermark wsX5_comes := goodIn_r _ [10, 2, 11, 12, 13, 5, 14, 15, 16, 17, 18, 19, 20, 21, 22, 23, 24, 25, 26, 27, 28, 29, 30, 31, 32, 33, 34, 35, 36, 37, 38, 39, 40, 41, 42, 43, 44, 45, 46] (by decide +kernel) (by decide +kernel)
set_option maxRecDepth 20000 in
theorem gX5_watermark_X5_comes : GoodIn wsX5_watermark (wsV RX5 132 RX5 yX5_comes wsX5_comes) := goodIn_app (goodIn_of _ (by decide +kernel)) ggX5_watermark_X5_comes
theorem dX5_watermark_0 : decode cX5_watermark 0 = .ok (.iload_n 1, 1) := by decide +kernel
theorem dX5_watermark_1 : decode cX5_watermark 1 = .ok (.iconst 0, 1) := by decide +kernel
theorem dX5_watermark_2 : decode cX5_watermark 2 = .ok (.ldc 131, 2) := by decide +kernel
theorem dX5_watermark_4 : decode cX5_watermark 4 = .ok (.invokestatic 60, 3) := by decide +kernel
theorem dX5_watermark_7 : decode cX5_watermark 7 = .ok (.ifCond .ne 5, 3) := by decide +kernel
theorem dX5_watermark_10 : decode cX5_watermark 10 = .ok (.iconst (-1), 1) := by decide +kernel
theorem dX5_watermark_11 : decode cX5_watermark 11 = .ok (.ireturn, 1) := by decide +kernel
theorem dX5_watermark_12 : decode cX5_watermark 12 = .ok (.iload_n 1, 1) := by decide +kernel
theorem dX5_watermark_13 : decode cX5_watermark 13 = .ok (.aload_n 0, 1) := by decide +kernel
theorem dX5_watermark_14 : decode cX5_watermark 14 = .ok (.getfield 22, 3) := by decide +kernel
theorem dX5_watermark_17 : decode cX5_watermark 17 = .ok (.iconst 1, 1) := by decide +kernel
theorem dX5_watermark_18 : decode cX5_watermark 18 = .ok (.iaload, 1) := by decide +kernel
theorem dX5_watermark_19 : decode cX5_watermark 19 = .ok (.if_icmp .ge 6, 3) := by decide +kernel
theorem dX5_watermark_22 : decode cX5_watermark 22 = .ok (.bipush (-2), 2) := by decide +kernel
theorem dX5_watermark_24 : decode cX5_watermark 24 = .ok (.ireturn, 1) := by decide +kernel
theorem dX5_watermark_25 : decode cX5_watermark 25 = .ok (.aload_n 0, 1) := by decide +kernel
theorem dX5_watermark_26 : decode cX5_watermark 26 = .ok (.iconst 1, 1) := by decide +kernel
theorem dX5_watermark_27 : decode cX5_watermark 27 = .ok (.iload_n 1, 1) := by decide +kernel
theorem dX5_watermark_28 : decode cX5_watermark 28 = .ok (.invokevirtual 132, 3) := by decide +kernel
theorem dX5_watermark_31 : decode cX5_watermark 31 = .ok (.ireturn, 1) := by decide +kernel
set_option maxRecDepth 20000 in
theorem ggX5_sweep_X5_isIn : GoodIn wsX5_sweep wsX5_isIn := goodIn_r _ [7] (by decide +kernel) (by decide +kernel)
set_option maxRecDepth 20000 in
theorem gX5_sweep_X5_isIn : GoodIn wsX5_sweep (va_wsS RX5 60 yX5_isIn wsX5_isIn) := goodIn_app (goodIn_of _ (by decide +kernel)) ggX5_sweep_X5_isIn
set_option maxRecDepth 20000 in
theorem ggX5_sweep_X5_isOver : GoodIn wsX5_sweep wsX5_isOver := goodIn_r _ [11, 2, 3, 12, 13, 14, 15, 6, 16, 17, 18, 29, 30, 31, 32, 33, 34, 35, 36, 37, 38, 39, 40, 41, 42, 43, 44, 45, 46, 47, 48] (by decide +kernel) (by decide +kernel)
set_option maxRecDepth 20000 in
theorem gX5_sweep_X5_isOver : GoodIn wsX5_sweep (wsV RX5 128 RX5 yX5_isOver wsX5_isOver) := goodIn_app (goodIn_of _ (by decide +kernel)) ggX5_sweep_X5_isOver
set_option maxRecDepth 20000 in
theorem ggX5_sweep_X5_tells : GoodIn wsX5_sweep wsX5_tells := goodIn_r _ [22, 23, 24, 2, 25, 26, 27, 12, 17, 28, 29, 30, 31, 32, 33, 34, 35, 36, 37, 38, 39, 40, 41, 42, 43, 44, 45, 46, 47, 48] (by decide +kernel) (by decide +kernel)
set_option maxRecDepth 20000 in
theorem gX5_sweep_X5_tells : GoodIn wsX5_sweep (wsV RX5 101 RX5 yX5_tells wsX5_tells) := goodIn_app (goodIn_of _ (by decide +kernel)) ggX5_sweep_X5_tells
theorem dX5_sweep_0 : decode cX5_sweep 0 = .ok (.iload_n 1, 1) := by decide +kernel
theorem dX5_sweep_1 : decode cX5_sweep 1 = .ok (.iconst 1, 1) := by decide +kernel
theorem dX5_sweep_2 : decode cX5_sweep 2 = .ok (.sipush 200, 3) := by decide +kernel
theorem dX5_sweep_5 : decode cX5_sweep 5 = .ok (.invokestatic 60, 3) := by decide +kernel
theorem dX5_sweep_8 : decode cX5_sweep 8 = .ok (.ifCond .ne 5, 3) := by decide +kernel
theorem dX5_sweep_11 : decode cX5_sweep 11 = .ok (.iconst (-1), 1) := by decide +kernel
theorem dX5_sweep_12 : decode cX5_sweep 12 = .ok (.ireturn, 1) := by decide +kernel
theorem dX5_sweep_13 : decode cX5_sweep 13 = .ok (.iconst 0, 1) := by decide +kernel
theorem dX5_sweep_14 : decode cX5_sweep 14 = .ok (.istore_n 2, 1) := by decide +kernel
theorem dX5_sweep_15 : decode cX5_sweep 15 = .ok (.iconst 0, 1) := by decide +kernel
theorem dX5_sweep_16 : decode cX5_sweep 16 = .ok (.istore_n 3, 1) := by decide +kernel
theorem dX5_sweep_17 : decode cX5_sweep 17 = .ok (.iload_n 3, 1) := by decide +kernel
theorem dX5_sweep_18 : decode cX5_sweep 18 = .ok (.iload_n 1, 1) := by decide +kernel
theorem dX5_sweep_19 : decode cX5_sweep 19 = .ok (.if_icmp .ge 66, 3) := by decide +kernel
theorem dX5_sweep_22 : decode cX5_sweep 22 = .ok (.aload_n 0, 1) := by decide +kernel
theorem dX5_sweep_23 : decode cX5_sweep 23 = .ok (.aload_n 0, 1) := by decide +kernel
theorem dX5_sweep_24 : decode cX5_sweep 24 = .ok (.getfield 136, 3) := by decide +kernel
theorem dX5_sweep_27 : decode cX5_sweep 27 = .ok (.invokevirtual 128, 3) := by decide +kernel
theorem dX5_sweep_30 : decode cX5_sweep 30 = .ok (.ifCond .eq 25, 3) := by decide +kernel
theorem dX5_sweep_33 : decode cX5_sweep 33 = .ok (.aload_n 0, 1) := by decide +kernel
theorem dX5_sweep_34 : decode cX5_sweep 34 = .ok (.aload_n 0, 1) := by decide +kernel
theorem dX5_sweep_35 : decode cX5_sweep 35 = .ok (.getfield 136, 3) := by decide +kernel
theorem dX5_sweep_38 : decode cX5_sweep 38 = .ok (.invokevirtual 101, 3) := by decide +kernel
theorem dX5_sweep_41 : decode cX5_sweep 41 = .ok (.aload_n 0, 1) := by decide +kernel
theorem dX5_sweep_42 : decode cX5_sweep 42 = .ok (.getfield 25, 3) := by decide +kernel
theorem dX5_sweep_45 : decode cX5_sweep 45 = .ok (.aload_n 0, 1) := by decide +kernel
theorem dX5_sweep_46 : decode cX5_sweep 46 = .ok (.getfield 136, 3) := by decide +kernel
theorem dX5_sweep_49 : decode cX5_sweep 49 = .ok (.ldc 55, 2) := by decide +kernel
theorem dX5_sweep_51 : decode cX5_sweep 51 = .ok (.iastore, 1) := by decide +kernel
theorem dX5_sweep_52 : decode cX5_sweep 52 = .ok (.iinc 2 1, 3) := by decide +kernel
theorem dX5_sweep_55 : decode cX5_sweep 55 = .ok (.aload_n 0, 1) := by decide +kernel
theorem dX5_sweep_56 : decode cX5_sweep 56 = .ok (.aload_n 0, 1) := by decide +kernel
theorem dX5_sweep_57 : decode cX5_sweep 57 = .ok (.getfield 136, 3) := by decide +kernel
theorem dX5_sweep_60 : decode cX5_sweep 60 = .ok (.sipush 199, 3) := by decide +kernel
theorem dX5_sweep_63 : decode cX5_sweep 63 = .ok (.if_icmp .ne 7, 3) := by decide +kernel
theorem dX5_sweep_66 : decode cX5_sweep 66 = .ok (.iconst 0, 1) := by decide +kernel
theorem dX5_sweep_67 : decode cX5_sweep 67 = .ok (.goto 9, 3) := by decide +kernel
theorem dX5_sweep_70 : decode cX5_sweep 70 = .ok (.aload_n 0, 1) := by decide +kernel
theorem dX5_sweep_71 : decode cX5_sweep 71 = .ok (.getfield 136, 3) := by decide +kernel
theorem dX5_sweep_74 : decode cX5_sweep 74 = .ok (.iconst 1, 1) := by decide +kernel
theorem dX5_sweep_75 : decode cX5_sweep 75 = .ok (.iadd, 1) := by decide +kernel
theorem dX5_sweep_76 : decode cX5_sweep 76 = .ok (.putfield 136, 3) := by decide +kernel
theorem dX5_sweep_79 : decode cX5_sweep 79 = .ok (.iinc 3 1, 3) := by decide +kernel
theorem dX5_sweep_82 : decode cX5_sweep 82 = .ok (.goto (-65), 3) := by decide +kernel
theorem dX5_sweep_85 : decode cX5_sweep 85 = .ok (.iload_n 2, 1) := by decide +kernel
theorem dX5_sweep_86 : decode cX5_sweep 86 = .ok (.ireturn, 1) := by decide +kernel
set_option maxRecDepth 20000 in
theorem ggX5_setting_X5_isState : GoodIn wsX5_setting wsX5_isState := goodIn_r _ [10, 11, 12, 13, 9, 14, 26, 27, 28, 29, 30, 31, 32, 33, 34, 35, 36, 37, 38, 39, 40, 41, 42, 43, 44, 45] (by decide +kernel) (by decide +kernel)
set_option maxRecDepth 20000 in
theorem gX5_setting_X5_isState : GoodIn wsX5_setting (wsV RX5 64 RX5 yX5_isState wsX5_isState) := goodIn_app (goodIn_of _ (by decide +kernel)) ggX5_setting_X5_isState
set_option maxRecDepth 20000 in
theorem ggX5_setting_X5_isIn : GoodIn wsX5_setting wsX5_isIn := goodIn_r _ [14] (by decide +kernel) (by decide +kernel)
set_option maxRecDepth 20000 in
theorem gX5_setting_X5_isIn : GoodIn wsX5_setting (va_wsS RX5 60 yX5_isIn wsX5_isIn) := goodIn_app (goodIn_of _ (by decide +kernel)) ggX5_setting_X5_isIn
set_option maxRecDepth 20000 in
theorem ggX5_setting_X5_isShown : GoodIn wsX5_setting wsX5_isShown := goodIn_r _ [18, 3, 19, 4, 20, 21, 22, 9, 23, 24, 25, 26, 27, 28, 29, 30, 31, 32, 33, 34, 35, 36, 37, 38, 39, 40, 41, 42, 43, 44, 45] (by decide +kernel) (by decide +kernel)
set_option maxRecDepth 20000 in
theorem gX5_setting_X5_isShown : GoodIn wsX5_setting (wsV RX5 73 RX5 yX5_isShown wsX5_isShown) := goodIn_app (goodIn_of _ (by decide +kernel)) ggX5_setting_X5_isShown
theorem dX5_setting_0 : decode cX5_setting 0 = .ok (.aload_n 0, 1) := by decide +kernel
theorem dX5_setting_1 : decode cX5_setting 1 = .ok (.iload_n 1, 1) := by decide +kernel
theorem dX5_setting_2 : decode cX5_setting 2 = .ok (.invokevirtual 64, 3) := by decide +kernel
theorem dX5_setting_5 : decode cX5_setting 5 = .ok (.ifCond .eq 13, 3) := by decide +kernel
theorem dX5_setting_8 : decode cX5_setting 8 = .ok (.iload_n 2, 1) := by decide +kernel
theorem dX5_setting_9 : decode cX5_setting 9 = .ok (.iconst 1, 1) := by decide +kernel
theorem dX5_setting_10 : decode cX5_setting 10 = .ok (.ldc 68, 2) := by decide +kernel
theorem dX5_setting_12 : decode cX5_setting 12 = .ok (.invokestatic 60, 3) := by decide +kernel
theorem dX5_setting_15 : decode cX5_setting 15 = .ok (.ifCond .ne 5, 3) := by decide +kernel
theorem dX5_setting_18 : decode cX5_setting 18 = .ok (.iconst (-1), 1) := by decide +kernel
theorem dX5_setting_19 : decode cX5_setting 19 = .ok (.ireturn, 1) := by decide +kernel
theorem dX5_setting_20 : decode cX5_setting 20 = .ok (.aload_n 0, 1) := by decide +kernel
theorem dX5_setting_21 : decode cX5_setting 21 = .ok (.getfield 16, 3) := by decide +kernel
theorem dX5_setting_24 : decode cX5_setting 24 = .ok (.iload_n 1, 1) := by decide +kernel
theorem dX5_setting_25 : decode cX5_setting 25 = .ok (.iaload, 1) := by decide +kernel
theorem dX5_setting_26 : decode cX5_setting 26 = .ok (.istore 4, 2) := by decide +kernel
theorem dX5_setting_28 : decode cX5_setting 28 = .ok (.aload_n 0, 1) := by decide +kernel
theorem dX5_setting_29 : decode cX5_setting 29 = .ok (.getfield 16, 3) := by decide +kernel
theorem dX5_setting_32 : decode cX5_setting 32 = .ok (.iload_n 1, 1) := by decide +kernel
theorem dX5_setting_33 : decode cX5_setting 33 = .ok (.iload_n 2, 1) := by decide +kernel
theorem dX5_setting_34 : decode cX5_setting 34 = .ok (.iastore, 1) := by decide +kernel
theorem dX5_setting_35 : decode cX5_setting 35 = .ok (.iconst 0, 1) := by decide +kernel
theorem dX5_setting_36 : decode cX5_setting 36 = .ok (.istore 5, 2) := by decide +kernel
theorem dX5_setting_38 : decode cX5_setting 38 = .ok (.iload 5, 2) := by decide +kernel
theorem dX5_setting_40 : decode cX5_setting 40 = .ok (.sipush 200, 3) := by decide +kernel
theorem dX5_setting_43 : decode cX5_setting 43 = .ok (.if_icmp .ge 49, 3) := by decide +kernel
theorem dX5_setting_46 : decode cX5_setting 46 = .ok (.iload_n 3, 1) := by decide +kernel
theorem dX5_setting_47 : decode cX5_setting 47 = .ok (.ifCond .eq 45, 3) := by decide +kernel
theorem dX5_setting_50 : decode cX5_setting 50 = .ok (.aload_n 0, 1) := by decide +kernel
theorem dX5_setting_51 : decode cX5_setting 51 = .ok (.getfield 25, 3) := by decide +kernel
theorem dX5_setting_54 : decode cX5_setting 54 = .ok (.iload 5, 2) := by decide +kernel
theorem dX5_setting_56 : decode cX5_setting 56 = .ok (.iaload, 1) := by decide +kernel
theorem dX5_setting_57 : decode cX5_setting 57 = .ok (.iload_n 1, 1) := by decide +kernel
theorem dX5_setting_58 : decode cX5_setting 58 = .ok (.if_icmp .ne 28, 3) := by decide +kernel
theorem dX5_setting_61 : decode cX5_setting 61 = .ok (.aload_n 0, 1) := by decide +kernel
theorem dX5_setting_62 : decode cX5_setting 62 = .ok (.iload 5, 2) := by decide +kernel
theorem dX5_setting_64 : decode cX5_setting 64 = .ok (.invokevirtual 73, 3) := by decide +kernel
theorem dX5_setting_67 : decode cX5_setting 67 = .ok (.ifCond .eq 19, 3) := by decide +kernel
theorem dX5_setting_70 : decode cX5_setting 70 = .ok (.aload_n 0, 1) := by decide +kernel
theorem dX5_setting_71 : decode cX5_setting 71 = .ok (.getfield 40, 3) := by decide +kernel
theorem dX5_setting_74 : decode cX5_setting 74 = .ok (.iload 5, 2) := by decide +kernel
theorem dX5_setting_76 : decode cX5_setting 76 = .ok (.aload_n 0, 1) := by decide +kernel
theorem dX5_setting_77 : decode cX5_setting 77 = .ok (.getfield 37, 3) := by decide +kernel
theorem dX5_setting_80 : decode cX5_setting 80 = .ok (.iload 5, 2) := by decide +kernel
theorem dX5_setting_82 : decode cX5_setting 82 = .ok (.iaload, 1) := by decide +kernel
theorem dX5_setting_83 : decode cX5_setting 83 = .ok (.iload_n 2, 1) := by decide +kernel
theorem dX5_setting_84 : decode cX5_setting 84 = .ok (.iadd, 1) := by decide +kernel
theorem dX5_setting_85 : decode cX5_setting 85 = .ok (.iastore, 1) := by decide +kernel
theorem dX5_setting_86 : decode cX5_setting 86 = .ok (.iinc 5 1, 3) := by decide +kernel
theorem dX5_setting_89 : decode cX5_setting 89 = .ok (.goto (-51), 3) := by decide +kernel
theorem dX5_setting_92 : decode cX5_setting 92 = .ok (.iload 4, 2) := by decide +kernel
theorem dX5_setting_94 : decode cX5_setting 94 = .ok (.ireturn, 1) := by decide +kernel
set_option maxRecDepth 20000 in
theorem ggX5_mark_X5_isIn : GoodIn wsX5_mark wsX5_isIn := goodIn_r _ [12] (by decide +kernel) (by decide +kernel)
set_option maxRecDepth 20000 in
theorem gX5_mark_X5_isIn : GoodIn wsX5_mark (va_wsS RX5 60 yX5_isIn wsX5_isIn) := goodIn_app (goodIn_of _ (by decide +kernel)) ggX5_mark_X5_isIn
set_option maxRecDepth 20000 in
theorem ggX5_mark_X5_nextKept : GoodIn wsX5_mark wsX5_nextKept := goodIn_r _ [16, 1, 17, 18, 19, 11, 20, 3, 7, 21, 22, 23, 24, 25, 26, 27, 28, 29, 30, 4, 5, 31, 32, 33, 34, 35, 36, 37, 38, 39, 40, 41, 42, 43, 44, 45, 46, 47, 48, 49, 50, 51] (by decide +kernel) (by decide +kernel)
set_option maxRecDepth 20000 in
theorem gX5_mark_X5_nextKept : GoodIn wsX5_mark (wsV RX5 139 RX5 yX5_nextKept wsX5_nextKept) := goodIn_app (goodIn_of _ (by decide +kernel)) ggX5_mark_X5_nextKept
set_option maxRecDepth 20000 in
theorem ggX5_mark_X5_clockOf : GoodIn wsX5_mark wsX5_clockOf := goodIn_r _ [24, 25, 26, 3, 32, 33, 34, 35, 36, 37, 38, 39, 40, 41, 42, 43, 44, 45, 46, 47, 48, 49, 50, 51] (by decide +kernel) (by decide +kernel)
set_option maxRecDepth 20000 in
theorem gX5_mark_X5_clockOf : GoodIn wsX5_mark (wsV RX5 69 RX5 yX5_clockOf wsX5_clockOf) := goodIn_app (goodIn_of _ (by decide +kernel)) ggX5_mark_X5_clockOf
theorem dX5_mark_0 : decode cX5_mark 0 = .ok (.iload_n 1, 1) := by decide +kernel
theorem dX5_mark_1 : decode cX5_mark 1 = .ok (.iconst 0, 1) := by decide +kernel
theorem dX5_mark_2 : decode cX5_mark 2 = .ok (.iconst 2, 1) := by decide +kernel
theorem dX5_mark_3 : decode cX5_mark 3 = .ok (.invokestatic 60, 3) := by decide +kernel
theorem dX5_mark_6 : decode cX5_mark 6 = .ok (.ifCond .ne 5, 3) := by decide +kernel
theorem dX5_mark_9 : decode cX5_mark 9 = .ok (.iconst (-1), 1) := by decide +kernel
theorem dX5_mark_10 : decode cX5_mark 10 = .ok (.ireturn, 1) := by decide +kernel
theorem dX5_mark_11 : decode cX5_mark 11 = .ok (.iconst 0, 1) := by decide +kernel
theorem dX5_mark_12 : decode cX5_mark 12 = .ok (.istore_n 2, 1) := by decide +kernel
theorem dX5_mark_13 : decode cX5_mark 13 = .ok (.aload_n 0, 1) := by decide +kernel
theorem dX5_mark_14 : decode cX5_mark 14 = .ok (.ldc 55, 2) := by decide +kernel
theorem dX5_mark_16 : decode cX5_mark 16 = .ok (.invokevirtual 139, 3) := by decide +kernel
theorem dX5_mark_19 : decode cX5_mark 19 = .ok (.istore_n 3, 1) := by decide +kernel
theorem dX5_mark_20 : decode cX5_mark 20 = .ok (.iload_n 3, 1) := by decide +kernel
theorem dX5_mark_21 : decode cX5_mark 21 = .ok (.ldc 55, 2) := by decide +kernel
theorem dX5_mark_23 : decode cX5_mark 23 = .ok (.if_icmp .eq 105, 3) := by decide +kernel
theorem dX5_mark_26 : decode cX5_mark 26 = .ok (.sipush 1000, 3) := by decide +kernel
theorem dX5_mark_29 : decode cX5_mark 29 = .ok (.iload_n 1, 1) := by decide +kernel
theorem dX5_mark_30 : decode cX5_mark 30 = .ok (.imul, 1) := by decide +kernel
theorem dX5_mark_31 : decode cX5_mark 31 = .ok (.iconst 5, 1) := by decide +kernel
theorem dX5_mark_32 : decode cX5_mark 32 = .ok (.iload_n 2, 1) := by decide +kernel
theorem dX5_mark_33 : decode cX5_mark 33 = .ok (.imul, 1) := by decide +kernel
theorem dX5_mark_34 : decode cX5_mark 34 = .ok (.iadd, 1) := by decide +kernel
theorem dX5_mark_35 : decode cX5_mark 35 = .ok (.istore 4, 2) := by decide +kernel
theorem dX5_mark_37 : decode cX5_mark 37 = .ok (.aload_n 0, 1) := by decide +kernel
theorem dX5_mark_38 : decode cX5_mark 38 = .ok (.getfield 52, 3) := by decide +kernel
theorem dX5_mark_41 : decode cX5_mark 41 = .ok (.iload 4, 2) := by decide +kernel
theorem dX5_mark_43 : decode cX5_mark 43 = .ok (.aload_n 0, 1) := by decide +kernel
theorem dX5_mark_44 : decode cX5_mark 44 = .ok (.getfield 25, 3) := by decide +kernel
theorem dX5_mark_47 : decode cX5_mark 47 = .ok (.iload_n 3, 1) := by decide +kernel
theorem dX5_mark_48 : decode cX5_mark 48 = .ok (.iaload, 1) := by decide +kernel
theorem dX5_mark_49 : decode cX5_mark 49 = .ok (.iastore, 1) := by decide +kernel
theorem dX5_mark_50 : decode cX5_mark 50 = .ok (.aload_n 0, 1) := by decide +kernel
theorem dX5_mark_51 : decode cX5_mark 51 = .ok (.getfield 52, 3) := by decide +kernel
theorem dX5_mark_54 : decode cX5_mark 54 = .ok (.iload 4, 2) := by decide +kernel
theorem dX5_mark_56 : decode cX5_mark 56 = .ok (.iconst 1, 1) := by decide +kernel
theorem dX5_mark_57 : decode cX5_mark 57 = .ok (.iadd, 1) := by decide +kernel
theorem dX5_mark_58 : decode cX5_mark 58 = .ok (.aload_n 0, 1) := by decide +kernel
theorem dX5_mark_59 : decode cX5_mark 59 = .ok (.getfield 28, 3) := by decide +kernel
theorem dX5_mark_62 : decode cX5_mark 62 = .ok (.iload_n 3, 1) := by decide +kernel
theorem dX5_mark_63 : decode cX5_mark 63 = .ok (.iaload, 1) := by decide +kernel
theorem dX5_mark_64 : decode cX5_mark 64 = .ok (.iastore, 1) := by decide +kernel
theorem dX5_mark_65 : decode cX5_mark 65 = .ok (.aload_n 0, 1) := by decide +kernel
theorem dX5_mark_66 : decode cX5_mark 66 = .ok (.getfield 52, 3) := by decide +kernel
theorem dX5_mark_69 : decode cX5_mark 69 = .ok (.iload 4, 2) := by decide +kernel
theorem dX5_mark_71 : decode cX5_mark 71 = .ok (.iconst 2, 1) := by decide +kernel
theorem dX5_mark_72 : decode cX5_mark 72 = .ok (.iadd, 1) := by decide +kernel
theorem dX5_mark_73 : decode cX5_mark 73 = .ok (.aload_n 0, 1) := by decide +kernel
theorem dX5_mark_74 : decode cX5_mark 74 = .ok (.getfield 31, 3) := by decide +kernel
theorem dX5_mark_77 : decode cX5_mark 77 = .ok (.iload_n 3, 1) := by decide +kernel
theorem dX5_mark_78 : decode cX5_mark 78 = .ok (.iaload, 1) := by decide +kernel
theorem dX5_mark_79 : decode cX5_mark 79 = .ok (.iastore, 1) := by decide +kernel
theorem dX5_mark_80 : decode cX5_mark 80 = .ok (.aload_n 0, 1) := by decide +kernel
theorem dX5_mark_81 : decode cX5_mark 81 = .ok (.getfield 52, 3) := by decide +kernel
theorem dX5_mark_84 : decode cX5_mark 84 = .ok (.iload 4, 2) := by decide +kernel
theorem dX5_mark_86 : decode cX5_mark 86 = .ok (.iconst 3, 1) := by decide +kernel
theorem dX5_mark_87 : decode cX5_mark 87 = .ok (.iadd, 1) := by decide +kernel
theorem dX5_mark_88 : decode cX5_mark 88 = .ok (.aload_n 0, 1) := by decide +kernel
theorem dX5_mark_89 : decode cX5_mark 89 = .ok (.getfield 34, 3) := by decide +kernel
theorem dX5_mark_92 : decode cX5_mark 92 = .ok (.iload_n 3, 1) := by decide +kernel
theorem dX5_mark_93 : decode cX5_mark 93 = .ok (.iaload, 1) := by decide +kernel
theorem dX5_mark_94 : decode cX5_mark 94 = .ok (.iastore, 1) := by decide +kernel
theorem dX5_mark_95 : decode cX5_mark 95 = .ok (.aload_n 0, 1) := by decide +kernel
theorem dX5_mark_96 : decode cX5_mark 96 = .ok (.getfield 52, 3) := by decide +kernel
theorem dX5_mark_99 : decode cX5_mark 99 = .ok (.iload 4, 2) := by decide +kernel
theorem dX5_mark_101 : decode cX5_mark 101 = .ok (.iconst 4, 1) := by decide +kernel
theorem dX5_mark_102 : decode cX5_mark 102 = .ok (.iadd, 1) := by decide +kernel
theorem dX5_mark_103 : decode cX5_mark 103 = .ok (.aload_n 0, 1) := by decide +kernel
theorem dX5_mark_104 : decode cX5_mark 104 = .ok (.getfield 40, 3) := by decide +kernel
theorem dX5_mark_107 : decode cX5_mark 107 = .ok (.iload_n 3, 1) := by decide +kernel
theorem dX5_mark_108 : decode cX5_mark 108 = .ok (.iaload, 1) := by decide +kernel
theorem dX5_mark_109 : decode cX5_mark 109 = .ok (.aload_n 0, 1) := by decide +kernel
theorem dX5_mark_110 : decode cX5_mark 110 = .ok (.iload_n 3, 1) := by decide +kernel
theorem dX5_mark_111 : decode cX5_mark 111 = .ok (.invokevirtual 69, 3) := by decide +kernel
theorem dX5_mark_114 : decode cX5_mark 114 = .ok (.isub, 1) := by decide +kernel
theorem dX5_mark_115 : decode cX5_mark 115 = .ok (.iastore, 1) := by decide +kernel
theorem dX5_mark_116 : decode cX5_mark 116 = .ok (.iinc 2 1, 3) := by decide +kernel
theorem dX5_mark_119 : decode cX5_mark 119 = .ok (.aload_n 0, 1) := by decide +kernel
theorem dX5_mark_120 : decode cX5_mark 120 = .ok (.iload_n 3, 1) := by decide +kernel
theorem dX5_mark_121 : decode cX5_mark 121 = .ok (.invokevirtual 139, 3) := by decide +kernel
theorem dX5_mark_124 : decode cX5_mark 124 = .ok (.istore_n 3, 1) := by decide +kernel
theorem dX5_mark_125 : decode cX5_mark 125 = .ok (.goto (-105), 3) := by decide +kernel
theorem dX5_mark_128 : decode cX5_mark 128 = .ok (.aload_n 0, 1) := by decide +kernel
theorem dX5_mark_129 : decode cX5_mark 129 = .ok (.getfield 49, 3) := by decide +kernel
theorem dX5_mark_132 : decode cX5_mark 132 = .ok (.iload_n 1, 1) := by decide +kernel
theorem dX5_mark_133 : decode cX5_mark 133 = .ok (.iload_n 2, 1) := by decide +kernel
theorem dX5_mark_134 : decode cX5_mark 134 = .ok (.iastore, 1) := by decide +kernel
theorem dX5_mark_135 : decode cX5_mark 135 = .ok (.iload_n 2, 1) := by decide +kernel
theorem dX5_mark_136 : decode cX5_mark 136 = .ok (.ireturn, 1) := by decide +kernel
theorem dX5_isAhead_0 : decode cX5_isAhead 0 = .ok (.aload_n 0, 1) := by decide +kernel
theorem dX5_isAhead_1 : decode cX5_isAhead 1 = .ok (.getfield 25, 3) := by decide +kernel
theorem dX5_isAhead_4 : decode cX5_isAhead 4 = .ok (.iload_n 1, 1) := by decide +kernel
theorem dX5_isAhead_5 : decode cX5_isAhead 5 = .ok (.iaload, 1) := by decide +kernel
theorem dX5_isAhead_6 : decode cX5_isAhead 6 = .ok (.aload_n 0, 1) := by decide +kernel
theorem dX5_isAhead_7 : decode cX5_isAhead 7 = .ok (.getfield 25, 3) := by decide +kernel
theorem dX5_isAhead_10 : decode cX5_isAhead 10 = .ok (.iload_n 2, 1) := by decide +kernel
theorem dX5_isAhead_11 : decode cX5_isAhead 11 = .ok (.iaload, 1) := by decide +kernel
theorem dX5_isAhead_12 : decode cX5_isAhead 12 = .ok (.if_icmp .eq 24, 3) := by decide +kernel
theorem dX5_isAhead_15 : decode cX5_isAhead 15 = .ok (.aload_n 0, 1) := by decide +kernel
theorem dX5_isAhead_16 : decode cX5_isAhead 16 = .ok (.getfield 25, 3) := by decide +kernel
theorem dX5_isAhead_19 : decode cX5_isAhead 19 = .ok (.iload_n 1, 1) := by decide +kernel
theorem dX5_isAhead_20 : decode cX5_isAhead 20 = .ok (.iaload, 1) := by decide +kernel
theorem dX5_isAhead_21 : decode cX5_isAhead 21 = .ok (.aload_n 0, 1) := by decide +kernel
theorem dX5_isAhead_22 : decode cX5_isAhead 22 = .ok (.getfield 25, 3) := by decide +kernel
theorem dX5_isAhead_25 : decode cX5_isAhead 25 = .ok (.iload_n 2, 1) := by decide +kernel
theorem dX5_isAhead_26 : decode cX5_isAhead 26 = .ok (.iaload, 1) := by decide +kernel
theorem dX5_isAhead_27 : decode cX5_isAhead 27 = .ok (.if_icmp .ge 7, 3) := by decide +kernel
theorem dX5_isAhead_30 : decode cX5_isAhead 30 = .ok (.iconst 1, 1) := by decide +kernel
theorem dX5_isAhead_31 : decode cX5_isAhead 31 = .ok (.goto 4, 3) := by decide +kernel
theorem dX5_isAhead_34 : decode cX5_isAhead 34 = .ok (.iconst 0, 1) := by decide +kernel
theorem dX5_isAhead_35 : decode cX5_isAhead 35 = .ok (.ireturn, 1) := by decide +kernel
theorem dX5_isAhead_36 : decode cX5_isAhead 36 = .ok (.aload_n 0, 1) := by decide +kernel
theorem dX5_isAhead_37 : decode cX5_isAhead 37 = .ok (.getfield 28, 3) := by decide +kernel
theorem dX5_isAhead_40 : decode cX5_isAhead 40 = .ok (.iload_n 1, 1) := by decide +kernel
theorem dX5_isAhead_41 : decode cX5_isAhead 41 = .ok (.iaload, 1) := by decide +kernel
theorem dX5_isAhead_42 : decode cX5_isAhead 42 = .ok (.aload_n 0, 1) := by decide +kernel
theorem dX5_isAhead_43 : decode cX5_isAhead 43 = .ok (.getfield 28, 3) := by decide +kernel
theorem dX5_isAhead_46 : decode cX5_isAhead 46 = .ok (.iload_n 2, 1) := by decide +kernel
theorem dX5_isAhead_47 : decode cX5_isAhead 47 = .ok (.iaload, 1) := by decide +kernel
theorem dX5_isAhead_48 : decode cX5_isAhead 48 = .ok (.if_icmp .eq 24, 3) := by decide +kernel
theorem dX5_isAhead_51 : decode cX5_isAhead 51 = .ok (.aload_n 0, 1) := by decide +kernel
theorem dX5_isAhead_52 : decode cX5_isAhead 52 = .ok (.getfield 28, 3) := by decide +kernel
theorem dX5_isAhead_55 : decode cX5_isAhead 55 = .ok (.iload_n 1, 1) := by decide +kernel
theorem dX5_isAhead_56 : decode cX5_isAhead 56 = .ok (.iaload, 1) := by decide +kernel
theorem dX5_isAhead_57 : decode cX5_isAhead 57 = .ok (.aload_n 0, 1) := by decide +kernel
theorem dX5_isAhead_58 : decode cX5_isAhead 58 = .ok (.getfield 28, 3) := by decide +kernel
theorem dX5_isAhead_61 : decode cX5_isAhead 61 = .ok (.iload_n 2, 1) := by decide +kernel
theorem dX5_isAhead_62 : decode cX5_isAhead 62 = .ok (.iaload, 1) := by decide +kernel
theorem dX5_isAhead_63 : decode cX5_isAhead 63 = .ok (.if_icmp .ge 7, 3) := by decide +kernel
theorem dX5_isAhead_66 : decode cX5_isAhead 66 = .ok (.iconst 1, 1) := by decide +kernel
theorem dX5_isAhead_67 : decode cX5_isAhead 67 = .ok (.goto 4, 3) := by decide +kernel
theorem dX5_isAhead_70 : decode cX5_isAhead 70 = .ok (.iconst 0, 1) := by decide +kernel
theorem dX5_isAhead_71 : decode cX5_isAhead 71 = .ok (.ireturn, 1) := by decide +kernel
theorem dX5_isAhead_72 : decode cX5_isAhead 72 = .ok (.aload_n 0, 1) := by decide +kernel
theorem dX5_isAhead_73 : decode cX5_isAhead 73 = .ok (.getfield 31, 3) := by decide +kernel
theorem dX5_isAhead_76 : decode cX5_isAhead 76 = .ok (.iload_n 1, 1) := by decide +kernel
theorem dX5_isAhead_77 : decode cX5_isAhead 77 = .ok (.iaload, 1) := by decide +kernel
theorem dX5_isAhead_78 : decode cX5_isAhead 78 = .ok (.aload_n 0, 1) := by decide +kernel
theorem dX5_isAhead_79 : decode cX5_isAhead 79 = .ok (.getfield 31, 3) := by decide +kernel
theorem dX5_isAhead_82 : decode cX5_isAhead 82 = .ok (.iload_n 2, 1) := by decide +kernel
theorem dX5_isAhead_83 : decode cX5_isAhead 83 = .ok (.iaload, 1) := by decide +kernel
theorem dX5_isAhead_84 : decode cX5_isAhead 84 = .ok (.if_icmp .eq 24, 3) := by decide +kernel
theorem dX5_isAhead_87 : decode cX5_isAhead 87 = .ok (.aload_n 0, 1) := by decide +kernel
theorem dX5_isAhead_88 : decode cX5_isAhead 88 = .ok (.getfield 31, 3) := by decide +kernel
theorem dX5_isAhead_91 : decode cX5_isAhead 91 = .ok (.iload_n 1, 1) := by decide +kernel
theorem dX5_isAhead_92 : decode cX5_isAhead 92 = .ok (.iaload, 1) := by decide +kernel
theorem dX5_isAhead_93 : decode cX5_isAhead 93 = .ok (.aload_n 0, 1) := by decide +kernel
theorem dX5_isAhead_94 : decode cX5_isAhead 94 = .ok (.getfield 31, 3) := by decide +kernel
theorem dX5_isAhead_97 : decode cX5_isAhead 97 = .ok (.iload_n 2, 1) := by decide +kernel
theorem dX5_isAhead_98 : decode cX5_isAhead 98 = .ok (.iaload, 1) := by decide +kernel
theorem dX5_isAhead_99 : decode cX5_isAhead 99 = .ok (.if_icmp .ge 7, 3) := by decide +kernel
theorem dX5_isAhead_102 : decode cX5_isAhead 102 = .ok (.iconst 1, 1) := by decide +kernel
theorem dX5_isAhead_103 : decode cX5_isAhead 103 = .ok (.goto 4, 3) := by decide +kernel
theorem dX5_isAhead_106 : decode cX5_isAhead 106 = .ok (.iconst 0, 1) := by decide +kernel
theorem dX5_isAhead_107 : decode cX5_isAhead 107 = .ok (.ireturn, 1) := by decide +kernel
theorem dX5_isAhead_108 : decode cX5_isAhead 108 = .ok (.aload_n 0, 1) := by decide +kernel
theorem dX5_isAhead_109 : decode cX5_isAhead 109 = .ok (.getfield 43, 3) := by decide +kernel
theorem dX5_isAhead_112 : decode cX5_isAhead 112 = .ok (.iload_n 1, 1) := by decide +kernel
theorem dX5_isAhead_113 : decode cX5_isAhead 113 = .ok (.iaload, 1) := by decide +kernel
theorem dX5_isAhead_114 : decode cX5_isAhead 114 = .ok (.aload_n 0, 1) := by decide +kernel
theorem dX5_isAhead_115 : decode cX5_isAhead 115 = .ok (.getfield 43, 3) := by decide +kernel
theorem dX5_isAhead_118 : decode cX5_isAhead 118 = .ok (.iload_n 2, 1) := by decide +kernel
theorem dX5_isAhead_119 : decode cX5_isAhead 119 = .ok (.iaload, 1) := by decide +kernel
theorem dX5_isAhead_120 : decode cX5_isAhead 120 = .ok (.if_icmp .ge 7, 3) := by decide +kernel
theorem dX5_isAhead_123 : decode cX5_isAhead 123 = .ok (.iconst 1, 1) := by decide +kernel
theorem dX5_isAhead_124 : decode cX5_isAhead 124 = .ok (.goto 4, 3) := by decide +kernel
theorem dX5_isAhead_127 : decode cX5_isAhead 127 = .ok (.iconst 0, 1) := by decide +kernel
theorem dX5_isAhead_128 : decode cX5_isAhead 128 = .ok (.ireturn, 1) := by decide +kernel
set_option maxRecDepth 20000 in
theorem ggX5_nextKept_X5_isShown : GoodIn wsX5_nextKept wsX5_isShown := goodIn_r _ [6, 7, 1, 8, 9, 10, 11, 5, 12, 13, 14, 22, 23, 24, 25, 26, 27, 28, 29, 30, 31, 32, 33, 34, 35, 36, 37, 38, 39, 40, 41] (by decide +kernel) (by decide +kernel)
set_option maxRecDepth 20000 in
theorem gX5_nextKept_X5_isShown : GoodIn wsX5_nextKept (wsV RX5 73 RX5 yX5_isShown wsX5_isShown) := goodIn_app (goodIn_of _ (by decide +kernel)) ggX5_nextKept_X5_isShown
set_option maxRecDepth 20000 in
theorem ggX5_nextKept_X5_isAhead : GoodIn wsX5_nextKept wsX5_isAhead := goodIn_r _ [18, 7, 19, 20, 21, 22, 23, 24, 25, 26, 27, 28, 29, 30, 31, 32, 33, 34, 35, 36, 37, 38, 39, 40, 41] (by decide +kernel) (by decide +kernel)
set_option maxRecDepth 20000 in
theorem gX5_nextKept_X5_isAhead : GoodIn wsX5_nextKept (wsV RX5 142 RX5 yX5_isAhead wsX5_isAhead) := goodIn_app (goodIn_of _ (by decide +kernel)) ggX5_nextKept_X5_isAhead
theorem dX5_nextKept_0 : decode cX5_nextKept 0 = .ok (.ldc 55, 2) := by decide +kernel
theorem dX5_nextKept_2 : decode cX5_nextKept 2 = .ok (.istore_n 2, 1) := by decide +kernel
theorem dX5_nextKept_3 : decode cX5_nextKept 3 = .ok (.iconst 0, 1) := by decide +kernel
theorem dX5_nextKept_4 : decode cX5_nextKept 4 = .ok (.istore_n 3, 1) := by decide +kernel
theorem dX5_nextKept_5 : decode cX5_nextKept 5 = .ok (.iload_n 3, 1) := by decide +kernel
theorem dX5_nextKept_6 : decode cX5_nextKept 6 = .ok (.sipush 200, 3) := by decide +kernel
theorem dX5_nextKept_9 : decode cX5_nextKept 9 = .ok (.if_icmp .ge 49, 3) := by decide +kernel
theorem dX5_nextKept_12 : decode cX5_nextKept 12 = .ok (.aload_n 0, 1) := by decide +kernel
theorem dX5_nextKept_13 : decode cX5_nextKept 13 = .ok (.iload_n 3, 1) := by decide +kernel
theorem dX5_nextKept_14 : decode cX5_nextKept 14 = .ok (.invokevirtual 73, 3) := by decide +kernel
theorem dX5_nextKept_17 : decode cX5_nextKept 17 = .ok (.ifCond .eq 35, 3) := by decide +kernel
theorem dX5_nextKept_20 : decode cX5_nextKept 20 = .ok (.iload_n 1, 1) := by decide +kernel
theorem dX5_nextKept_21 : decode cX5_nextKept 21 = .ok (.ldc 55, 2) := by decide +kernel
theorem dX5_nextKept_23 : decode cX5_nextKept 23 = .ok (.if_icmp .eq 12, 3) := by decide +kernel
theorem dX5_nextKept_26 : decode cX5_nextKept 26 = .ok (.aload_n 0, 1) := by decide +kernel
theorem dX5_nextKept_27 : decode cX5_nextKept 27 = .ok (.iload_n 1, 1) := by decide +kernel
theorem dX5_nextKept_28 : decode cX5_nextKept 28 = .ok (.iload_n 3, 1) := by decide +kernel
theorem dX5_nextKept_29 : decode cX5_nextKept 29 = .ok (.invokevirtual 142, 3) := by decide +kernel
theorem dX5_nextKept_32 : decode cX5_nextKept 32 = .ok (.ifCond .eq 20, 3) := by decide +kernel
theorem dX5_nextKept_35 : decode cX5_nextKept 35 = .ok (.iload_n 2, 1) := by decide +kernel
theorem dX5_nextKept_36 : decode cX5_nextKept 36 = .ok (.ldc 55, 2) := by decide +kernel
theorem dX5_nextKept_38 : decode cX5_nextKept 38 = .ok (.if_icmp .eq 12, 3) := by decide +kernel
theorem dX5_nextKept_41 : decode cX5_nextKept 41 = .ok (.aload_n 0, 1) := by decide +kernel
theorem dX5_nextKept_42 : decode cX5_nextKept 42 = .ok (.iload_n 3, 1) := by decide +kernel
theorem dX5_nextKept_43 : decode cX5_nextKept 43 = .ok (.iload_n 2, 1) := by decide +kernel
theorem dX5_nextKept_44 : decode cX5_nextKept 44 = .ok (.invokevirtual 142, 3) := by decide +kernel
theorem dX5_nextKept_47 : decode cX5_nextKept 47 = .ok (.ifCond .eq 5, 3) := by decide +kernel
theorem dX5_nextKept_50 : decode cX5_nextKept 50 = .ok (.iload_n 3, 1) := by decide +kernel
theorem dX5_nextKept_51 : decode cX5_nextKept 51 = .ok (.istore_n 2, 1) := by decide +kernel
theorem dX5_nextKept_52 : decode cX5_nextKept 52 = .ok (.iinc 3 1, 3) := by decide +kernel
theorem dX5_nextKept_55 : decode cX5_nextKept 55 = .ok (.goto (-50), 3) := by decide +kernel
theorem dX5_nextKept_58 : decode cX5_nextKept 58 = .ok (.iload_n 2, 1) := by decide +kernel
theorem dX5_nextKept_59 : decode cX5_nextKept 59 = .ok (.ireturn, 1) := by decide +kernel
set_option maxRecDepth 20000 in
theorem ggX5_restore_X5_isIn : GoodIn wsX5_restore wsX5_isIn := goodIn_r _ [11] (by decide +kernel) (by decide +kernel)
set_option maxRecDepth 20000 in
theorem gX5_restore_X5_isIn : GoodIn wsX5_restore (va_wsS RX5 60 yX5_isIn wsX5_isIn) := goodIn_app (goodIn_of _ (by decide +kernel)) ggX5_restore_X5_isIn
set_option maxRecDepth 20000 in
theorem ggX5_restore_X5_writes : GoodIn wsX5_restore wsX5_writes := goodIn_r _ [15, 3, 16, 17, 18, 19, 20, 21, 22, 23, 10, 24, 6, 25, 26, 5, 27, 28, 29, 30, 31, 32, 33, 34, 35, 36, 37, 38, 39, 40, 41, 42, 43, 44, 45, 46, 47] (by decide +kernel) (by decide +kernel)
set_option maxRecDepth 20000 in
theorem gX5_restore_X5_writes : GoodIn wsX5_restore (wsV RX5 104 RX5 yX5_writes wsX5_writes) := goodIn_app (goodIn_of _ (by decide +kernel)) ggX5_restore_X5_writes
theorem dX5_restore_0 : decode cX5_restore 0 = .ok (.iload_n 1, 1) := by decide +kernel
theorem dX5_restore_1 : decode cX5_restore 1 = .ok (.iconst 0, 1) := by decide +kernel
theorem dX5_restore_2 : decode cX5_restore 2 = .ok (.iconst 2, 1) := by decide +kernel
theorem dX5_restore_3 : decode cX5_restore 3 = .ok (.invokestatic 60, 3) := by decide +kernel
theorem dX5_restore_6 : decode cX5_restore 6 = .ok (.ifCond .ne 5, 3) := by decide +kernel
theorem dX5_restore_9 : decode cX5_restore 9 = .ok (.iconst (-1), 1) := by decide +kernel
theorem dX5_restore_10 : decode cX5_restore 10 = .ok (.ireturn, 1) := by decide +kernel
theorem dX5_restore_11 : decode cX5_restore 11 = .ok (.aload_n 0, 1) := by decide +kernel
theorem dX5_restore_12 : decode cX5_restore 12 = .ok (.getfield 49, 3) := by decide +kernel
theorem dX5_restore_15 : decode cX5_restore 15 = .ok (.iload_n 1, 1) := by decide +kernel
theorem dX5_restore_16 : decode cX5_restore 16 = .ok (.iaload, 1) := by decide +kernel
theorem dX5_restore_17 : decode cX5_restore 17 = .ok (.ldc 55, 2) := by decide +kernel
theorem dX5_restore_19 : decode cX5_restore 19 = .ok (.if_icmp .ne 6, 3) := by decide +kernel
theorem dX5_restore_22 : decode cX5_restore 22 = .ok (.bipush (-2), 2) := by decide +kernel
theorem dX5_restore_24 : decode cX5_restore 24 = .ok (.ireturn, 1) := by decide +kernel
theorem dX5_restore_25 : decode cX5_restore 25 = .ok (.iconst 0, 1) := by decide +kernel
theorem dX5_restore_26 : decode cX5_restore 26 = .ok (.istore_n 2, 1) := by decide +kernel
theorem dX5_restore_27 : decode cX5_restore 27 = .ok (.iload_n 2, 1) := by decide +kernel
theorem dX5_restore_28 : decode cX5_restore 28 = .ok (.sipush 200, 3) := by decide +kernel
theorem dX5_restore_31 : decode cX5_restore 31 = .ok (.if_icmp .ge 17, 3) := by decide +kernel
theorem dX5_restore_34 : decode cX5_restore 34 = .ok (.aload_n 0, 1) := by decide +kernel
theorem dX5_restore_35 : decode cX5_restore 35 = .ok (.getfield 25, 3) := by decide +kernel
theorem dX5_restore_38 : decode cX5_restore 38 = .ok (.iload_n 2, 1) := by decide +kernel
theorem dX5_restore_39 : decode cX5_restore 39 = .ok (.ldc 55, 2) := by decide +kernel
theorem dX5_restore_41 : decode cX5_restore 41 = .ok (.iastore, 1) := by decide +kernel
theorem dX5_restore_42 : decode cX5_restore 42 = .ok (.iinc 2 1, 3) := by decide +kernel
theorem dX5_restore_45 : decode cX5_restore 45 = .ok (.goto (-18), 3) := by decide +kernel
theorem dX5_restore_48 : decode cX5_restore 48 = .ok (.iconst 0, 1) := by decide +kernel
theorem dX5_restore_49 : decode cX5_restore 49 = .ok (.istore_n 2, 1) := by decide +kernel
theorem dX5_restore_50 : decode cX5_restore 50 = .ok (.iload_n 2, 1) := by decide +kernel
theorem dX5_restore_51 : decode cX5_restore 51 = .ok (.aload_n 0, 1) := by decide +kernel
theorem dX5_restore_52 : decode cX5_restore 52 = .ok (.getfield 49, 3) := by decide +kernel
theorem dX5_restore_55 : decode cX5_restore 55 = .ok (.iload_n 1, 1) := by decide +kernel
theorem dX5_restore_56 : decode cX5_restore 56 = .ok (.iaload, 1) := by decide +kernel
theorem dX5_restore_57 : decode cX5_restore 57 = .ok (.if_icmp .ge 75, 3) := by decide +kernel
theorem dX5_restore_60 : decode cX5_restore 60 = .ok (.sipush 1000, 3) := by decide +kernel
theorem dX5_restore_63 : decode cX5_restore 63 = .ok (.iload_n 1, 1) := by decide +kernel
theorem dX5_restore_64 : decode cX5_restore 64 = .ok (.imul, 1) := by decide +kernel
theorem dX5_restore_65 : decode cX5_restore 65 = .ok (.iconst 5, 1) := by decide +kernel
theorem dX5_restore_66 : decode cX5_restore 66 = .ok (.iload_n 2, 1) := by decide +kernel
theorem dX5_restore_67 : decode cX5_restore 67 = .ok (.imul, 1) := by decide +kernel
theorem dX5_restore_68 : decode cX5_restore 68 = .ok (.iadd, 1) := by decide +kernel
theorem dX5_restore_69 : decode cX5_restore 69 = .ok (.istore_n 3, 1) := by decide +kernel
theorem dX5_restore_70 : decode cX5_restore 70 = .ok (.aload_n 0, 1) := by decide +kernel
theorem dX5_restore_71 : decode cX5_restore 71 = .ok (.iload_n 2, 1) := by decide +kernel
theorem dX5_restore_72 : decode cX5_restore 72 = .ok (.aload_n 0, 1) := by decide +kernel
theorem dX5_restore_73 : decode cX5_restore 73 = .ok (.getfield 52, 3) := by decide +kernel
theorem dX5_restore_76 : decode cX5_restore 76 = .ok (.iload_n 3, 1) := by decide +kernel
theorem dX5_restore_77 : decode cX5_restore 77 = .ok (.iaload, 1) := by decide +kernel
theorem dX5_restore_78 : decode cX5_restore 78 = .ok (.aload_n 0, 1) := by decide +kernel
theorem dX5_restore_79 : decode cX5_restore 79 = .ok (.getfield 52, 3) := by decide +kernel
theorem dX5_restore_82 : decode cX5_restore 82 = .ok (.iload_n 3, 1) := by decide +kernel
theorem dX5_restore_83 : decode cX5_restore 83 = .ok (.iconst 1, 1) := by decide +kernel
theorem dX5_restore_84 : decode cX5_restore 84 = .ok (.iadd, 1) := by decide +kernel
theorem dX5_restore_85 : decode cX5_restore 85 = .ok (.iaload, 1) := by decide +kernel
theorem dX5_restore_86 : decode cX5_restore 86 = .ok (.aload_n 0, 1) := by decide +kernel
theorem dX5_restore_87 : decode cX5_restore 87 = .ok (.getfield 52, 3) := by decide +kernel
theorem dX5_restore_90 : decode cX5_restore 90 = .ok (.iload_n 3, 1) := by decide +kernel
theorem dX5_restore_91 : decode cX5_restore 91 = .ok (.iconst 2, 1) := by decide +kernel
theorem dX5_restore_92 : decode cX5_restore 92 = .ok (.iadd, 1) := by decide +kernel
theorem dX5_restore_93 : decode cX5_restore 93 = .ok (.iaload, 1) := by decide +kernel
theorem dX5_restore_94 : decode cX5_restore 94 = .ok (.aload_n 0, 1) := by decide +kernel
theorem dX5_restore_95 : decode cX5_restore 95 = .ok (.getfield 52, 3) := by decide +kernel
theorem dX5_restore_98 : decode cX5_restore 98 = .ok (.iload_n 3, 1) := by decide +kernel
theorem dX5_restore_99 : decode cX5_restore 99 = .ok (.iconst 3, 1) := by decide +kernel
theorem dX5_restore_100 : decode cX5_restore 100 = .ok (.iadd, 1) := by decide +kernel
theorem dX5_restore_101 : decode cX5_restore 101 = .ok (.iaload, 1) := by decide +kernel
theorem dX5_restore_102 : decode cX5_restore 102 = .ok (.invokevirtual 104, 3) := by decide +kernel
theorem dX5_restore_105 : decode cX5_restore 105 = .ok (.aload_n 0, 1) := by decide +kernel
theorem dX5_restore_106 : decode cX5_restore 106 = .ok (.getfield 40, 3) := by decide +kernel
theorem dX5_restore_109 : decode cX5_restore 109 = .ok (.iload_n 2, 1) := by decide +kernel
theorem dX5_restore_110 : decode cX5_restore 110 = .ok (.aload_n 0, 1) := by decide +kernel
theorem dX5_restore_111 : decode cX5_restore 111 = .ok (.getfield 37, 3) := by decide +kernel
theorem dX5_restore_114 : decode cX5_restore 114 = .ok (.iload_n 2, 1) := by decide +kernel
theorem dX5_restore_115 : decode cX5_restore 115 = .ok (.iaload, 1) := by decide +kernel
theorem dX5_restore_116 : decode cX5_restore 116 = .ok (.aload_n 0, 1) := by decide +kernel
theorem dX5_restore_117 : decode cX5_restore 117 = .ok (.getfield 52, 3) := by decide +kernel
theorem dX5_restore_120 : decode cX5_restore 120 = .ok (.iload_n 3, 1) := by decide +kernel
theorem dX5_restore_121 : decode cX5_restore 121 = .ok (.iconst 4, 1) := by decide +kernel
theorem dX5_restore_122 : decode cX5_restore 122 = .ok (.iadd, 1) := by decide +kernel
theorem dX5_restore_123 : decode cX5_restore 123 = .ok (.iaload, 1) := by decide +kernel
theorem dX5_restore_124 : decode cX5_restore 124 = .ok (.iadd, 1) := by decide +kernel
theorem dX5_restore_125 : decode cX5_restore 125 = .ok (.iastore, 1) := by decide +kernel
theorem dX5_restore_126 : decode cX5_restore 126 = .ok (.iinc 2 1, 3) := by decide +kernel
theorem dX5_restore_129 : decode cX5_restore 129 = .ok (.goto (-79), 3) := by decide +kernel
theorem dX5_restore_132 : decode cX5_restore 132 = .ok (.aload_n 0, 1) := by decide +kernel
theorem dX5_restore_133 : decode cX5_restore 133 = .ok (.iconst 0, 1) := by decide +kernel
theorem dX5_restore_134 : decode cX5_restore 134 = .ok (.putfield 136, 3) := by decide +kernel
theorem dX5_restore_137 : decode cX5_restore 137 = .ok (.aload_n 0, 1) := by decide +kernel
theorem dX5_restore_138 : decode cX5_restore 138 = .ok (.getfield 49, 3) := by decide +kernel
theorem dX5_restore_141 : decode cX5_restore 141 = .ok (.iload_n 1, 1) := by decide +kernel
theorem dX5_restore_142 : decode cX5_restore 142 = .ok (.iaload, 1) := by decide +kernel
theorem dX5_restore_143 : decode cX5_restore 143 = .ok (.ireturn, 1) := by decide +kernel
set_option maxRecDepth 20000 in
theorem ggX5_row_X5_isIn : GoodIn wsX5_row wsX5_isIn := goodIn_r _ [7] (by decide +kernel) (by decide +kernel)
set_option maxRecDepth 20000 in
theorem gX5_row_X5_isIn : GoodIn wsX5_row (va_wsS RX5 60 yX5_isIn wsX5_isIn) := goodIn_app (goodIn_of _ (by decide +kernel)) ggX5_row_X5_isIn
theorem dX5_row_0 : decode cX5_row 0 = .ok (.iload_n 1, 1) := by decide +kernel
theorem dX5_row_1 : decode cX5_row 1 = .ok (.iconst 0, 1) := by decide +kernel
theorem dX5_row_2 : decode cX5_row 2 = .ok (.aload_n 0, 1) := by decide +kernel
theorem dX5_row_3 : decode cX5_row 3 = .ok (.getfield 83, 3) := by decide +kernel
theorem dX5_row_6 : decode cX5_row 6 = .ok (.iconst 1, 1) := by decide +kernel
theorem dX5_row_7 : decode cX5_row 7 = .ok (.isub, 1) := by decide +kernel
theorem dX5_row_8 : decode cX5_row 8 = .ok (.invokestatic 60, 3) := by decide +kernel
theorem dX5_row_11 : decode cX5_row 11 = .ok (.ifCond .eq 26, 3) := by decide +kernel
theorem dX5_row_14 : decode cX5_row 14 = .ok (.iload_n 2, 1) := by decide +kernel
theorem dX5_row_15 : decode cX5_row 15 = .ok (.iconst 0, 1) := by decide +kernel
theorem dX5_row_16 : decode cX5_row 16 = .ok (.iconst 5, 1) := by decide +kernel
theorem dX5_row_17 : decode cX5_row 17 = .ok (.invokestatic 60, 3) := by decide +kernel
theorem dX5_row_20 : decode cX5_row 20 = .ok (.ifCond .eq 17, 3) := by decide +kernel
theorem dX5_row_23 : decode cX5_row 23 = .ok (.aload_n 0, 1) := by decide +kernel
theorem dX5_row_24 : decode cX5_row 24 = .ok (.getfield 46, 3) := by decide +kernel
theorem dX5_row_27 : decode cX5_row 27 = .ok (.bipush 6, 2) := by decide +kernel
theorem dX5_row_29 : decode cX5_row 29 = .ok (.iload_n 1, 1) := by decide +kernel
theorem dX5_row_30 : decode cX5_row 30 = .ok (.imul, 1) := by decide +kernel
theorem dX5_row_31 : decode cX5_row 31 = .ok (.iload_n 2, 1) := by decide +kernel
theorem dX5_row_32 : decode cX5_row 32 = .ok (.iadd, 1) := by decide +kernel
theorem dX5_row_33 : decode cX5_row 33 = .ok (.iaload, 1) := by decide +kernel
theorem dX5_row_34 : decode cX5_row 34 = .ok (.goto 5, 3) := by decide +kernel
theorem dX5_row_37 : decode cX5_row 37 = .ok (.ldc 55, 2) := by decide +kernel
theorem dX5_row_39 : decode cX5_row 39 = .ok (.ireturn, 1) := by decide +kernel
set_option maxRecDepth 20000 in
theorem ggX5_next_X5_isState : GoodIn wsX5_next wsX5_isState := goodIn_r _ [8, 9, 10, 11, 7, 12, 23, 24, 25, 26, 27, 28, 29, 30, 31, 32, 33, 34, 35, 36, 37, 38, 39, 40, 41, 42] (by decide +kernel) (by decide +kernel)
set_option maxRecDepth 20000 in
theorem gX5_next_X5_isState : GoodIn wsX5_next (wsV RX5 64 RX5 yX5_isState wsX5_isState) := goodIn_app (goodIn_of _ (by decide +kernel)) ggX5_next_X5_isState
set_option maxRecDepth 20000 in
theorem ggX5_next_X5_isShown : GoodIn wsX5_next wsX5_isShown := goodIn_r _ [16, 2, 1, 3, 17, 18, 19, 7, 20, 21, 22, 23, 24, 25, 26, 27, 28, 29, 30, 31, 32, 33, 34, 35, 36, 37, 38, 39, 40, 41, 42] (by decide +kernel) (by decide +kernel)
set_option maxRecDepth 20000 in
theorem gX5_next_X5_isShown : GoodIn wsX5_next (wsV RX5 73 RX5 yX5_isShown wsX5_isShown) := goodIn_app (goodIn_of _ (by decide +kernel)) ggX5_next_X5_isShown
theorem dX5_next_0 : decode cX5_next 0 = .ok (.aload_n 0, 1) := by decide +kernel
theorem dX5_next_1 : decode cX5_next 1 = .ok (.iload_n 1, 1) := by decide +kernel
theorem dX5_next_2 : decode cX5_next 2 = .ok (.invokevirtual 64, 3) := by decide +kernel
theorem dX5_next_5 : decode cX5_next 5 = .ok (.ifCond .ne 5, 3) := by decide +kernel
theorem dX5_next_8 : decode cX5_next 8 = .ok (.iconst (-1), 1) := by decide +kernel
theorem dX5_next_9 : decode cX5_next 9 = .ok (.ireturn, 1) := by decide +kernel
theorem dX5_next_10 : decode cX5_next 10 = .ok (.ldc 55, 2) := by decide +kernel
theorem dX5_next_12 : decode cX5_next 12 = .ok (.istore_n 2, 1) := by decide +kernel
theorem dX5_next_13 : decode cX5_next 13 = .ok (.iconst 0, 1) := by decide +kernel
theorem dX5_next_14 : decode cX5_next 14 = .ok (.istore_n 3, 1) := by decide +kernel
theorem dX5_next_15 : decode cX5_next 15 = .ok (.iload_n 3, 1) := by decide +kernel
theorem dX5_next_16 : decode cX5_next 16 = .ok (.sipush 200, 3) := by decide +kernel
theorem dX5_next_19 : decode cX5_next 19 = .ok (.if_icmp .ge 54, 3) := by decide +kernel
theorem dX5_next_22 : decode cX5_next 22 = .ok (.aload_n 0, 1) := by decide +kernel
theorem dX5_next_23 : decode cX5_next 23 = .ok (.getfield 25, 3) := by decide +kernel
theorem dX5_next_26 : decode cX5_next 26 = .ok (.iload_n 3, 1) := by decide +kernel
theorem dX5_next_27 : decode cX5_next 27 = .ok (.iaload, 1) := by decide +kernel
theorem dX5_next_28 : decode cX5_next 28 = .ok (.iload_n 1, 1) := by decide +kernel
theorem dX5_next_29 : decode cX5_next 29 = .ok (.if_icmp .ne 38, 3) := by decide +kernel
theorem dX5_next_32 : decode cX5_next 32 = .ok (.aload_n 0, 1) := by decide +kernel
theorem dX5_next_33 : decode cX5_next 33 = .ok (.iload_n 3, 1) := by decide +kernel
theorem dX5_next_34 : decode cX5_next 34 = .ok (.invokevirtual 73, 3) := by decide +kernel
theorem dX5_next_37 : decode cX5_next 37 = .ok (.ifCond .eq 30, 3) := by decide +kernel
theorem dX5_next_40 : decode cX5_next 40 = .ok (.iload_n 2, 1) := by decide +kernel
theorem dX5_next_41 : decode cX5_next 41 = .ok (.ldc 55, 2) := by decide +kernel
theorem dX5_next_43 : decode cX5_next 43 = .ok (.if_icmp .eq 13, 3) := by decide +kernel
theorem dX5_next_46 : decode cX5_next 46 = .ok (.aload_n 0, 1) := by decide +kernel
theorem dX5_next_47 : decode cX5_next 47 = .ok (.getfield 40, 3) := by decide +kernel
theorem dX5_next_50 : decode cX5_next 50 = .ok (.iload_n 3, 1) := by decide +kernel
theorem dX5_next_51 : decode cX5_next 51 = .ok (.iaload, 1) := by decide +kernel
theorem dX5_next_52 : decode cX5_next 52 = .ok (.iload_n 2, 1) := by decide +kernel
theorem dX5_next_53 : decode cX5_next 53 = .ok (.if_icmp .ge 12, 3) := by decide +kernel
theorem dX5_next_56 : decode cX5_next 56 = .ok (.aload_n 0, 1) := by decide +kernel
theorem dX5_next_57 : decode cX5_next 57 = .ok (.getfield 40, 3) := by decide +kernel
theorem dX5_next_60 : decode cX5_next 60 = .ok (.iload_n 3, 1) := by decide +kernel
theorem dX5_next_61 : decode cX5_next 61 = .ok (.iaload, 1) := by decide +kernel
theorem dX5_next_62 : decode cX5_next 62 = .ok (.goto 4, 3) := by decide +kernel
theorem dX5_next_65 : decode cX5_next 65 = .ok (.iload_n 2, 1) := by decide +kernel
theorem dX5_next_66 : decode cX5_next 66 = .ok (.istore_n 2, 1) := by decide +kernel
theorem dX5_next_67 : decode cX5_next 67 = .ok (.iinc 3 1, 3) := by decide +kernel
theorem dX5_next_70 : decode cX5_next 70 = .ok (.goto (-55), 3) := by decide +kernel
theorem dX5_next_73 : decode cX5_next 73 = .ok (.iload_n 2, 1) := by decide +kernel
theorem dX5_next_74 : decode cX5_next 74 = .ok (.ireturn, 1) := by decide +kernel
set_option maxRecDepth 20000 in
theorem ggX5_count_X5_isShown : GoodIn wsX5_count wsX5_isShown := goodIn_r _ [12, 1, 2, 13, 14, 15, 16, 11, 17, 6, 18, 19, 20, 21, 22, 23, 24, 25, 26, 27, 28, 29, 30, 31, 32, 33, 34, 35, 36, 37, 38] (by decide +kernel) (by decide +kernel)
set_option maxRecDepth 20000 in
theorem gX5_count_X5_isShown : GoodIn wsX5_count (wsV RX5 73 RX5 yX5_isShown wsX5_isShown) := goodIn_app (goodIn_of _ (by decide +kernel)) ggX5_count_X5_isShown
theorem dX5_count_0 : decode cX5_count 0 = .ok (.iconst 0, 1) := by decide +kernel
theorem dX5_count_1 : decode cX5_count 1 = .ok (.istore_n 2, 1) := by decide +kernel
theorem dX5_count_2 : decode cX5_count 2 = .ok (.iconst 0, 1) := by decide +kernel
theorem dX5_count_3 : decode cX5_count 3 = .ok (.istore_n 3, 1) := by decide +kernel
theorem dX5_count_4 : decode cX5_count 4 = .ok (.iconst 0, 1) := by decide +kernel
theorem dX5_count_5 : decode cX5_count 5 = .ok (.istore 4, 2) := by decide +kernel
theorem dX5_count_7 : decode cX5_count 7 = .ok (.iload 4, 2) := by decide +kernel
theorem dX5_count_9 : decode cX5_count 9 = .ok (.sipush 200, 3) := by decide +kernel
theorem dX5_count_12 : decode cX5_count 12 = .ok (.if_icmp .ge 46, 3) := by decide +kernel
theorem dX5_count_15 : decode cX5_count 15 = .ok (.iload_n 2, 1) := by decide +kernel
theorem dX5_count_16 : decode cX5_count 16 = .ok (.aload_n 0, 1) := by decide +kernel
theorem dX5_count_17 : decode cX5_count 17 = .ok (.getfield 25, 3) := by decide +kernel
theorem dX5_count_20 : decode cX5_count 20 = .ok (.iload 4, 2) := by decide +kernel
theorem dX5_count_22 : decode cX5_count 22 = .ok (.iaload, 1) := by decide +kernel
theorem dX5_count_23 : decode cX5_count 23 = .ok (.ldc 55, 2) := by decide +kernel
theorem dX5_count_25 : decode cX5_count 25 = .ok (.if_icmp .eq 7, 3) := by decide +kernel
theorem dX5_count_28 : decode cX5_count 28 = .ok (.iconst 1, 1) := by decide +kernel
theorem dX5_count_29 : decode cX5_count 29 = .ok (.goto 4, 3) := by decide +kernel
theorem dX5_count_32 : decode cX5_count 32 = .ok (.iconst 0, 1) := by decide +kernel
theorem dX5_count_33 : decode cX5_count 33 = .ok (.iadd, 1) := by decide +kernel
theorem dX5_count_34 : decode cX5_count 34 = .ok (.istore_n 2, 1) := by decide +kernel
theorem dX5_count_35 : decode cX5_count 35 = .ok (.iload_n 3, 1) := by decide +kernel
theorem dX5_count_36 : decode cX5_count 36 = .ok (.aload_n 0, 1) := by decide +kernel
theorem dX5_count_37 : decode cX5_count 37 = .ok (.iload 4, 2) := by decide +kernel
theorem dX5_count_39 : decode cX5_count 39 = .ok (.invokevirtual 73, 3) := by decide +kernel
theorem dX5_count_42 : decode cX5_count 42 = .ok (.ifCond .eq 7, 3) := by decide +kernel
theorem dX5_count_45 : decode cX5_count 45 = .ok (.iconst 1, 1) := by decide +kernel
theorem dX5_count_46 : decode cX5_count 46 = .ok (.goto 4, 3) := by decide +kernel
theorem dX5_count_49 : decode cX5_count 49 = .ok (.iconst 0, 1) := by decide +kernel
theorem dX5_count_50 : decode cX5_count 50 = .ok (.iadd, 1) := by decide +kernel
theorem dX5_count_51 : decode cX5_count 51 = .ok (.istore_n 3, 1) := by decide +kernel
theorem dX5_count_52 : decode cX5_count 52 = .ok (.iinc 4 1, 3) := by decide +kernel
theorem dX5_count_55 : decode cX5_count 55 = .ok (.goto (-48), 3) := by decide +kernel
theorem dX5_count_58 : decode cX5_count 58 = .ok (.iload_n 1, 1) := by decide +kernel
theorem dX5_count_59 : decode cX5_count 59 = .ok (.tableswitch 83 0 7 #[45, 50, 52, 54, 59, 64, 71, 78], 45) := by decide +kernel
theorem dX5_count_104 : decode cX5_count 104 = .ok (.aload_n 0, 1) := by decide +kernel
theorem dX5_count_105 : decode cX5_count 105 = .ok (.getfield 56, 3) := by decide +kernel
theorem dX5_count_108 : decode cX5_count 108 = .ok (.ireturn, 1) := by decide +kernel
theorem dX5_count_109 : decode cX5_count 109 = .ok (.iload_n 2, 1) := by decide +kernel
theorem dX5_count_110 : decode cX5_count 110 = .ok (.ireturn, 1) := by decide +kernel
theorem dX5_count_111 : decode cX5_count 111 = .ok (.iload_n 3, 1) := by decide +kernel
theorem dX5_count_112 : decode cX5_count 112 = .ok (.ireturn, 1) := by decide +kernel
theorem dX5_count_113 : decode cX5_count 113 = .ok (.aload_n 0, 1) := by decide +kernel
theorem dX5_count_114 : decode cX5_count 114 = .ok (.getfield 83, 3) := by decide +kernel
theorem dX5_count_117 : decode cX5_count 117 = .ok (.ireturn, 1) := by decide +kernel
theorem dX5_count_118 : decode cX5_count 118 = .ok (.aload_n 0, 1) := by decide +kernel
end
section
theorem dX5_count_119 : decode cX5_count 119 = .ok (.getfield 86, 3) := by decide +kernel
theorem dX5_count_122 : decode cX5_count 122 = .ok (.ireturn, 1) := by decide +kernel
theorem dX5_count_123 : decode cX5_count 123 = .ok (.aload_n 0, 1) := by decide +kernel
theorem dX5_count_124 : decode cX5_count 124 = .ok (.getfield 22, 3) := by decide +kernel
theorem dX5_count_127 : decode cX5_count 127 = .ok (.iconst 0, 1) := by decide +kernel
theorem dX5_count_128 : decode cX5_count 128 = .ok (.iaload, 1) := by decide +kernel
theorem dX5_count_129 : decode cX5_count 129 = .ok (.ireturn, 1) := by decide +kernel
theorem dX5_count_130 : decode cX5_count 130 = .ok (.aload_n 0, 1) := by decide +kernel
theorem dX5_count_131 : decode cX5_count 131 = .ok (.getfield 22, 3) := by decide +kernel
theorem dX5_count_134 : decode cX5_count 134 = .ok (.iconst 1, 1) := by decide +kernel
theorem dX5_count_135 : decode cX5_count 135 = .ok (.iaload, 1) := by decide +kernel
theorem dX5_count_136 : decode cX5_count 136 = .ok (.ireturn, 1) := by decide +kernel
theorem dX5_count_137 : decode cX5_count 137 = .ok (.aload_n 0, 1) := by decide +kernel
theorem dX5_count_138 : decode cX5_count 138 = .ok (.getfield 136, 3) := by decide +kernel
theorem dX5_count_141 : decode cX5_count 141 = .ok (.ireturn, 1) := by decide +kernel
theorem dX5_count_142 : decode cX5_count 142 = .ok (.iconst (-1), 1) := by decide +kernel
theorem dX5_count_143 : decode cX5_count 143 = .ok (.ireturn, 1) := by decide +kernel
theorem dJ7_fill_53178_0 : decode cJ7_fill_53178 0 = .ok (.iconst 0, 1) := by decide +kernel
theorem dJ7_fill_53178_1 : decode cJ7_fill_53178 1 = .ok (.istore_n 2, 1) := by decide +kernel
theorem dJ7_fill_53178_2 : decode cJ7_fill_53178 2 = .ok (.aload_n 0, 1) := by decide +kernel
theorem dJ7_fill_53178_3 : decode cJ7_fill_53178 3 = .ok (.arraylength, 1) := by decide +kernel
theorem dJ7_fill_53178_4 : decode cJ7_fill_53178 4 = .ok (.istore_n 3, 1) := by decide +kernel
theorem dJ7_fill_53178_5 : decode cJ7_fill_53178 5 = .ok (.iload_n 2, 1) := by decide +kernel
theorem dJ7_fill_53178_6 : decode cJ7_fill_53178 6 = .ok (.iload_n 3, 1) := by decide +kernel
theorem dJ7_fill_53178_7 : decode cJ7_fill_53178 7 = .ok (.if_icmp .ge 13, 3) := by decide +kernel
theorem dJ7_fill_53178_10 : decode cJ7_fill_53178 10 = .ok (.aload_n 0, 1) := by decide +kernel
theorem dJ7_fill_53178_11 : decode cJ7_fill_53178 11 = .ok (.iload_n 2, 1) := by decide +kernel
theorem dJ7_fill_53178_12 : decode cJ7_fill_53178 12 = .ok (.iload_n 1, 1) := by decide +kernel
theorem dJ7_fill_53178_13 : decode cJ7_fill_53178 13 = .ok (.iastore, 1) := by decide +kernel
theorem dJ7_fill_53178_14 : decode cJ7_fill_53178 14 = .ok (.iinc 2 1, 3) := by decide +kernel
theorem dJ7_fill_53178_17 : decode cJ7_fill_53178 17 = .ok (.goto (-12), 3) := by decide +kernel
theorem dJ7_fill_53178_20 : decode cJ7_fill_53178 20 = .ok (.return_, 1) := by decide +kernel
abbrev vwCl : List vw_C := [(RX0, TX0, 4), (RX1, TX1, 6), (RX2, TX2, 4), (RX3, TX3, 6), (RX4, TX4, 5), (RX5, TX5, 20)]
end
section
/-! numbers: every int of the machine is zI of a whole number -/
def zI (x : Int) : Int32 := Int32.ofInt x
abbrev zn (x : Int) : Prop := -2147483648 ≤ x ∧ x < 2147483648
theorem zI_t {x : Int} (h : zn x) : (zI x).toInt = x := Int32.toInt_ofInt_of_le h.1 h.2
theorem zI_of (x : Int32) : zI x.toInt = x := Int32.ofInt_toInt x
theorem zn_of (x : Int32) : zn x.toInt := ⟨Int32.le_toInt x, Int32.toInt_lt x⟩
theorem zI_n (n : Nat) : zI (n : Int) = nI n := by
  unfold zI nI
  exact Int32.ofInt_eq_ofNat
theorem zI_add (x y : Int) : zI x + zI y = zI (x + y) := (Int32.ofInt_add x y).symm
theorem zI_sub (x y : Int) : zI x - zI y = zI (x - y) := (Int32.ofInt_sub x y).symm
theorem zI_mul (x y : Int) : zI x * zI y = zI (x * y) := (Int32.ofInt_mul x y).symm
theorem zI_lt {x y : Int} (hx : zn x) (hy : zn y) : zI x < zI y ↔ x < y := by
  rw [Int32.lt_iff_toInt_lt, zI_t hx, zI_t hy]
theorem zI_le {x y : Int} (hx : zn x) (hy : zn y) : zI x ≤ zI y ↔ x ≤ y := by
  rw [Int32.le_iff_toInt_le, zI_t hx, zI_t hy]
theorem zI_eq {x y : Int} (hx : zn x) (hy : zn y) : zI x = zI y ↔ x = y := by
  rw [← Int32.toInt_inj, zI_t hx, zI_t hy]
theorem zI_0 : zI 0 = 0 := by decide +kernel
theorem zn_0 : zn 0 := by unfold zn; omega
theorem zI_div {x y : Int} (hx : zn x) (h0 : 0 ≤ x) (hy : zn y) (h1 : 0 < y) : zI x / zI y = zI (x / y) := by
  obtain ⟨a, rfl⟩ := Int.eq_ofNat_of_zero_le h0
  obtain ⟨b, rfl⟩ := Int.eq_ofNat_of_zero_le (Int.le_of_lt h1)
  unfold zn at hx hy
  rw [zI_n, zI_n, pk_div (by omega) (by omega) (by omega), ← zI_n]
  rfl
theorem zI_rem {x y : Int} (hx : zn x) (h0 : 0 ≤ x) (hy : zn y) (h1 : 0 < y) : zI x - zI x / zI y * zI y = zI (x % y) := by
  rw [zI_div hx h0 hy h1, zI_mul, zI_sub]
  congr 1
  have := Int.emod_add_mul_ediv x y
  rw [Int.mul_comm (x / y) y]
  omega
theorem zI_in {x : Int} {n : Nat} (h0 : 0 ≤ x) (h1 : x < n) (hn : n < 2147483648) : vp_in (zI x) n := by
  rw [vp_in_iff, zI_t ⟨by omega, by omega⟩]
  exact ⟨h0, h1⟩
theorem zI_clamp {x : Int} (h0 : 0 ≤ x) (h1 : x < 2147483648) : (zI x).toNatClampNeg = x.toNat := by
  show (zI x).toInt.toNat = x.toNat
  rw [zI_t ⟨by omega, h1⟩]
/-! the state of a world: registers r, each a row of numbers -/
abbrev zs_V : Type := Nat → Int → Int
def zs_put (v : zs_V) (r : Nat) (k x : Int) : zs_V := fun r' k' => if r' = r then (if k' = k then x else v r' k') else v r' k'
abbrev zs_A : Type := Int ⊕ Nat
abbrev zs_F : Type := Option (Nat ⊕ Nat)
abbrev zs_C : Type := (Nat × List zs_F) ⊕ (Nat × Nat)
def zs_v (a : Nat → Nat) : zs_A → Value
  | .inl x => .int (zI x)
  | .inr k => .ref (a k)
def zs_fv (a : Nat → Nat) (v : zs_V) : zs_F → Value
  | none => .null
  | some (.inl c) => .ref (a c)
  | some (.inr r) => .int (zI (v r 0))
def zs_ce (cA : ClassId) (a : Nat → Nat) (v : zs_V) : zs_C → va_E
  | .inl o => .inr (o.1, o.2.map (zs_fv a v))
  | .inr q => .inl (cA, q.2, .inl (fun j : Nat => zI (v q.1 (j : Int))))
def zs_w (cA : ClassId) (a : Nat → Nat) (v : zs_V) (sh : List zs_C) : va_W := sh.mapIdx (fun i c => (a i, zs_ce cA a v c))
theorem zs_w_at {cA : ClassId} {a : Nat → Nat} {v : zs_V} {sh : List zs_C} {q : Nat} {cx : zs_C} (hs : sh[q]? = some cx) : (zs_w cA a v sh)[q]? = some (a q, zs_ce cA a v cx) := by
  simp [zs_w, List.getElem?_mapIdx, hs]
/-- does a cell speak of register r? -/
def zs_mf (r : Nat) : zs_F → Bool
  | some (.inr r') => r' == r
  | _ => false
def zs_mc (r : Nat) : zs_C → Bool
  | .inl o => o.2.any (zs_mf r)
  | .inr q => q.1 == r
def zs_men (r : Nat) (sh : List zs_C) : Bool := sh.any (zs_mc r)
theorem zs_fv_put {a : Nat → Nat} {v : zs_V} {r : Nat} {i x : Int} {f : zs_F} (h : zs_mf r f = false) : zs_fv a (zs_put v r i x) f = zs_fv a v f := by
  match f, h with
  | none, _ => rfl
  | some (.inl c), _ => rfl
  | some (.inr r'), h =>
    have hr : r' ≠ r := by simpa [zs_mf] using h
    simp [zs_fv, zs_put, hr]
theorem zs_ce_put {cA : ClassId} {a : Nat → Nat} {v : zs_V} {r : Nat} {i x : Int} {c : zs_C} (h : zs_mc r c = false) : zs_ce cA a (zs_put v r i x) c = zs_ce cA a v c := by
  match c, h with
  | .inl o, h =>
    simp only [zs_ce]
    congr 2
    apply List.map_congr_left
    intro f hf
    apply zs_fv_put
    simp only [zs_mc, List.any_eq_false] at h
    exact by simpa using h f hf
  | .inr q, h =>
    have hr : q.1 ≠ r := by simpa [zs_mc] using h
    simp [zs_ce, zs_put, hr]
theorem zs_w_put {cA : ClassId} {a : Nat → Nat} {v : zs_V} {sh : List zs_C} {q r : Nat} {i x : Int} {cx cb : zs_C} {E : va_E} (hm : zs_men r (sh.set q cb) = false) (hs : sh[q]? = some cx) (he : zs_ce cA a (zs_put v r i x) cx = E) : (zs_w cA a v sh).set q (a q, E) = zs_w cA a (zs_put v r i x) sh := by
  have hq : q < sh.length := (List.getElem?_eq_some_iff.mp hs).1
  apply List.ext_getElem?
  intro j
  by_cases hj : j = q
  · subst hj
    rw [zs_w_at hs, he, List.getElem?_set_self]
    simpa [zs_w] using hq
  · rw [List.getElem?_set_ne (fun h => hj h.symm)]
    unfold zs_w
    rw [List.getElem?_mapIdx, List.getElem?_mapIdx]
    cases hc : sh[j]? with
    | none => rfl
    | some c =>
      have hmem : c ∈ sh.set q cb := by
        apply List.mem_of_getElem? (i := j)
        rw [List.getElem?_set_ne (fun h => hj h.symm)]
        exact hc
      have h1 : zs_mc r c = false := by
        simp only [zs_men, List.any_eq_false] at hm
        simpa using hm c hmem
      simp [zs_ce_put h1]
theorem zs_ce_arr {cA : ClassId} {a : Nat → Nat} {v : zs_V} {r n : Nat} {k x : Int} (h0 : 0 ≤ k) (h1 : k < 2147483648) : zs_ce cA a (zs_put v r k x) (.inr (r, n)) = .inl (cA, n, .inl (upd (fun j : Nat => zI (v r (j : Int))) (zI k).toNatClampNeg (zI x))) := by
  simp only [zs_ce, zs_put, if_true]
  congr 3
  congr 1
  funext j
  rw [zI_clamp h0 h1]
  unfold upd
  by_cases hj : j = k.toNat
  · subst hj
    rw [if_pos rfl, if_pos (by omega)]
  · rw [if_neg hj, if_neg (by omega)]
theorem zs_ce_fld {cA : ClassId} {a : Nat → Nat} {v : zs_V} {r ci j : Nat} {fs : List zs_F} {x : Int} (hf : fs[j]? = some (some (.inr r))) (hm : zs_mc r (.inl (ci, fs.set j none)) = false) : zs_ce cA a (zs_put v r 0 x) (.inl (ci, fs)) = .inr (ci, (fs.map (zs_fv a v)).set j (.int (zI x))) := by
  have hj : j < fs.length := (List.getElem?_eq_some_iff.mp hf).1
  simp only [zs_ce]
  congr 2
  apply List.ext_getElem?
  intro i
  by_cases hi : i = j
  · subst hi
    rw [List.getElem?_set_self (by simpa using hj), List.getElem?_map, hf]
    simp [zs_fv, zs_put]
  · rw [List.getElem?_set_ne (fun h => hi h.symm), List.getElem?_map, List.getElem?_map]
    cases hc : fs[i]? with
    | none => rfl
    | some f =>
      have hmem : f ∈ fs.set j none := by
        apply List.mem_of_getElem? (i := i)
        rw [List.getElem?_set_ne (fun h => hi h.symm)]
        exact hc
      have h1 : zs_mf r f = false := by
        simp only [zs_mc, List.any_eq_false] at hm
        simpa using hm f hmem
      simp [zs_fv_put h1]
/-! locals -/
def zs_L (a : Nat → Nat) (ls : Array Slot) (nL : Nat) (lv : List (Option zs_A)) : Prop := ls.size = nL ∧ lv_wf ls ∧ ∀ (i : Nat) (x : zs_A), lv[i]? = some (some x) → ls[i]? = some (.val (zs_v a x))
def zs_prs (a : Nat → Nat) (lv : List (Option zs_A)) : List (Nat × Value) := lv.zipIdx.filterMap (fun q => q.1.map (fun x => (q.2, zs_v a x)))
theorem zs_cat (a : Nat → Nat) (x : zs_A) : (zs_v a x).category = 1 := by
  cases x <;> rfl
theorem zs_prs_mem {a : Nat → Nat} {lv : List (Option zs_A)} {q : Nat × Value} (h : q ∈ zs_prs a lv) : ∃ x, lv[q.1]? = some (some x) ∧ q.2 = zs_v a x := by
  obtain ⟨y, hy, hq⟩ := List.mem_filterMap.mp h
  obtain ⟨o, i⟩ := y
  have h1 := List.mem_zipIdx_iff_getElem?.mp hy
  cases o with
  | none => simp at hq
  | some x =>
    simp at hq
    subst hq
    exact ⟨x, h1, rfl⟩
theorem zs_mem_prs {a : Nat → Nat} {lv : List (Option zs_A)} {i : Nat} {x : zs_A} (h : lv[i]? = some (some x)) : (i, zs_v a x) ∈ zs_prs a lv := by
  apply List.mem_filterMap.mpr
  exact ⟨(some x, i), List.mem_zipIdx_iff_getElem?.mpr h, rfl⟩
theorem zs_L_has {a : Nat → Nat} {ls : Array Slot} {nL : Nat} {lv : List (Option zs_A)} (h : zs_L a ls nL lv) : lv_has ls nL (zs_prs a lv) := by
  refine ⟨h.1, h.2.1, fun q hq => ?_⟩
  obtain ⟨x, h1, h2⟩ := zs_prs_mem hq
  rw [h2]
  exact h.2.2 _ _ h1
theorem zs_L_set {a : Nat → Nat} {ls : Array Slot} {nL : Nat} {lv : List (Option zs_A)} {j : Nat} {x : zs_A} {w : Value} (hw : w = zs_v a x) (h : lv_has ls nL ((j, w) :: (zs_prs a lv).filter (fun q => !(q.1 == j) && !(q.1 + 1 == j && q.2.category == 2)))) : zs_L a ls nL (lv.set j (some x)) := by
  refine ⟨h.1, h.2.1, fun i y hy => ?_⟩
  by_cases hi : i = j
  · subst hi
    have : y = x := by
      have hl : i < (lv.set i (some x)).length := (List.getElem?_eq_some_iff.mp hy).1
      rw [List.getElem?_set_self (by simpa using hl)] at hy
      simpa using hy.symm
    subst this
    rw [← hw]
    exact h.2.2 (i, w) List.mem_cons_self
  · rw [List.getElem?_set_ne (fun h => hi h.symm)] at hy
    refine h.2.2 (i, zs_v a y) (List.mem_cons_of_mem _ (List.mem_filter.mpr ⟨zs_mem_prs hy, ?_⟩))
    simp [hi, zs_cat]
def zs_ent (nL : Nat) (As : List zs_A) : List (Option zs_A) := As.map some ++ List.replicate (nL - As.length) none
theorem zs_lv_args (a : Nat → Nat) : ∀ (As : List zs_A) (k i : Nat) (x : zs_A), As[i]? = some x → (k + i, zs_v a x) ∈ lv_args k (As.map (zs_v a))
  | [], k, i, x, h => by simp at h
  | y :: As, k, 0, x, h => by
    simp at h
    subst h
    simp [lv_args]
  | y :: As, k, i + 1, x, h => by
    have := zs_lv_args a As (k + 1) i x (by simpa using h)
    simp only [List.map_cons, lv_args, zs_cat]
    rw [if_neg (by decide)]
    refine List.mem_cons_of_mem _ ?_
    rw [show k + (i + 1) = k + 1 + i by omega]
    exact this
theorem zs_lg_sl (a : Nat → Nat) (As : List zs_A) : (lg_sl (As.map (zs_v a))).length = As.length := by
  induction As with
  | nil => rfl
  | cons x As ih =>
    have : lg_sl ((x :: As).map (zs_v a)) = .val (zs_v a x) :: lg_sl (As.map (zs_v a)) := by
      simp [lg_sl, zs_cat]
    rw [this]
    simp [ih]
theorem zs_L_ent {a : Nat → Nat} {As : List zs_A} {nL : Nat} (h : As.length ≤ nL) : zs_L a ((lg_sl (As.map (zs_v a)) ++ List.replicate (nL - (lg_sl (As.map (zs_v a))).length) Slot.unset).toArray) nL (zs_ent nL As) := by
  have h1 := lv_entry (As.map (zs_v a)) (n := nL) (by rw [zs_lg_sl]; exact h)
  refine ⟨h1.1, h1.2.1, fun i x hx => ?_⟩
  have hA : As[i]? = some x := by
    unfold zs_ent at hx
    by_cases hi : i < As.length
    · rw [List.getElem?_append_left (by simpa using hi), List.getElem?_map] at hx
      cases hc : As[i]? with
      | none => rw [hc] at hx; simp at hx
      | some y => rw [hc] at hx; simpa using hx
    · rw [List.getElem?_append_right (by simpa using hi)] at hx
      have := List.eq_of_mem_replicate (List.mem_of_getElem? hx)
      cases this
  have := zs_lv_args a As 0 i x hA
  rw [Nat.zero_add] at this
  exact h1.2.2 _ this
end
section
/-! a method: its own name, bytes, words, locals, answer, room -/
abbrev zs_M : Type := String × ByteArray × List Cond × Nat × Option FieldType × Room
def zs_B (dC : Nat → ClassId) (dI : Nat → Nat → Nat) (cA : ClassId) (a : Nat → Nat) (A : Nat → Prop) (sh : List zs_C) (v : zs_V) (t : State) : Prop := va_P (dC, dI) vwCl (zs_w cA a v sh) t.heap ∧ va_K (dC, dI) vwCl [(cA, .int)] t ∧ va_D A (zs_w cA a v sh)
def zs_Q (ret : Option FieldType) (post : Int → zs_V → Prop) (B : zs_V → State → Prop) (A : Nat → Prop) : Array Value → State → Outcome → State → Prop := match ret with
  | none => va_Qv (fun u => post 0 u) B A
  | some _ => va_Qi (fun r u => ∃ x, r = zI x ∧ post x u) B A
/-- from pc, with locals lv and stack st, in the world sh with the state v, the method comes to its end with post -/
def zs_R (M : zs_M) (k n : Nat) (sh : List zs_C) (post : Int → zs_V → Prop) (v : zs_V) (pc : Nat) (lv : List (Option zs_A)) (st : List zs_A) : Prop :=
  ∀ (p : Program) (l : Launch) (e : Env) (s : State) (m : MethodId) (args : Array Value) (below : List Frame) (meth : Method) (c : Code) (dC : Nat → ClassId) (dI : Nat → Nat → Nat) (cA : ClassId) (a : Nat → Nat) (A : Nat → Prop) (H : Heap) (locs : List Loc) (ls : Array Slot),
    CallFix p m c M.2.1 M.2.2.2.1 s args M.2.2.1 M.1 → meth.sig.returnType = M.2.2.2.2.1 → meth.locks = false → va_K (dC, dI) vwCl [(cA, .int)] s → (∀ q : Nat, s.heap.size ≤ q → A q) →
    zs_L a ls M.2.2.2.1 lv → va_P (dC, dI) vwCl (zs_w cA a v sh) H → va_D A (zs_w cA a v sh) → va_S A s.heap H locs →
    W p l e M.2.2.2.2.2 s m args below meth c H locs k n (MQ below (zs_Q M.2.2.2.2.1 post (zs_B dC dI cA a A sh) A) args s k n A) (F0 m pc ls (st.map (zs_v a)))
section ZR
variable {M : zs_M} {k n : Nat} {sh : List zs_C} {post : Int → zs_V → Prop} {v : zs_V} {pc : Nat} {lv lv' : List (Option zs_A)} {st : List zs_A}
theorem zs_iconst {i x : Int} (hd : decode M.2.1 pc = .ok (.iconst i, 1)) (hx : Int32.ofInt i = zI x) (kk : zs_R M k n sh post v (pc + 1) lv (.inl x :: st)) : zs_R M k n sh post v pc lv st := by
  intro p l e s m args below meth c dC dI cA a A H locs ls hF hr hlk hK hA hL hP hD hS
  exact lv_iconst hF.1 hF.2.1 hd hx (kk p l e s m args below meth c dC dI cA a A H locs ls hF hr hlk hK hA hL hP hD hS)
theorem zs_bipush {i x : Int} (hd : decode M.2.1 pc = .ok (.bipush i, 2)) (hx : (Int8.ofInt i).toInt32 = zI x) (kk : zs_R M k n sh post v (pc + 2) lv (.inl x :: st)) : zs_R M k n sh post v pc lv st := by
  intro p l e s m args below meth c dC dI cA a A H locs ls hF hr hlk hK hA hL hP hD hS
  exact lv_bipush hF.1 hF.2.1 hd hx (kk p l e s m args below meth c dC dI cA a A H locs ls hF hr hlk hK hA hL hP hD hS)
theorem zs_sipush {i x : Int} (hd : decode M.2.1 pc = .ok (.sipush i, 3)) (hx : (Int16.ofInt i).toInt32 = zI x) (kk : zs_R M k n sh post v (pc + 3) lv (.inl x :: st)) : zs_R M k n sh post v pc lv st := by
  intro p l e s m args below meth c dC dI cA a A H locs ls hF hr hlk hK hA hL hP hD hS
  exact lv_sipush hF.1 hF.2.1 hd hx (kk p l e s m args below meth c dC dI cA a A H locs ls hF hr hlk hK hA hL hP hD hS)
theorem zs_ldc {i : Nat} {x : Int} {w : Int32} (hd : decode M.2.1 pc = .ok (.ldc i, 2)) (hc : Cond.constant M.1 i w ∈ M.2.2.1) (hx : w = zI x) (kk : zs_R M k n sh post v (pc + 2) lv (.inl x :: st)) : zs_R M k n sh post v pc lv st := by
  intro p l e s m args below meth c dC dI cA a A H locs ls hF hr hlk hK hA hL hP hD hS
  subst hx
  exact lv_ldc hF.1 hF.2.1 hF.2.2.2.1 (hF.2.2.2.2 _ hc) hd (kk p l e s m args below meth c dC dI cA a A H locs ls hF hr hlk hK hA hL hP hD hS)
theorem zs_iload_n {j : Fin 4} {x : Int} (hd : decode M.2.1 pc = .ok (.iload_n j, 1)) (hl : lv[(j : Nat)]? = some (some (.inl x))) (kk : zs_R M k n sh post v (pc + 1) lv (.inl x :: st)) : zs_R M k n sh post v pc lv st := by
  intro p l e s m args below meth c dC dI cA a A H locs ls hF hr hlk hK hA hL hP hD hS
  exact lv_iload_n hF.1 hF.2.1 hd rfl (hL.2.2 _ _ hl) (kk p l e s m args below meth c dC dI cA a A H locs ls hF hr hlk hK hA hL hP hD hS)
theorem zs_iload {j : Nat} {x : Int} (hd : decode M.2.1 pc = .ok (.iload j, 2)) (hl : lv[j]? = some (some (.inl x))) (kk : zs_R M k n sh post v (pc + 2) lv (.inl x :: st)) : zs_R M k n sh post v pc lv st := by
  intro p l e s m args below meth c dC dI cA a A H locs ls hF hr hlk hK hA hL hP hD hS
  exact lv_iload hF.1 hF.2.1 hd (hL.2.2 _ _ hl) (kk p l e s m args below meth c dC dI cA a A H locs ls hF hr hlk hK hA hL hP hD hS)
theorem zs_aload_n {j : Fin 4} {x : Nat} (hd : decode M.2.1 pc = .ok (.aload_n j, 1)) (hl : lv[(j : Nat)]? = some (some (.inr x))) (kk : zs_R M k n sh post v (pc + 1) lv (.inr x :: st)) : zs_R M k n sh post v pc lv st := by
  intro p l e s m args below meth c dC dI cA a A H locs ls hF hr hlk hK hA hL hP hD hS
  exact lv_aload_n hF.1 hF.2.1 hd rfl (hL.2.2 _ _ hl) (kk p l e s m args below meth c dC dI cA a A H locs ls hF hr hlk hK hA hL hP hD hS)
theorem zs_aload {j : Nat} {x : Nat} (hd : decode M.2.1 pc = .ok (.aload j, 2)) (hl : lv[j]? = some (some (.inr x))) (kk : zs_R M k n sh post v (pc + 2) lv (.inr x :: st)) : zs_R M k n sh post v pc lv st := by
  intro p l e s m args below meth c dC dI cA a A H locs ls hF hr hlk hK hA hL hP hD hS
  exact lv_aload hF.1 hF.2.1 hd (hL.2.2 _ _ hl) (kk p l e s m args below meth c dC dI cA a A H locs ls hF hr hlk hK hA hL hP hD hS)
theorem zs_istore_n {j : Fin 4} {x : Int} (hd : decode M.2.1 pc = .ok (.istore_n j, 1)) (hj : (j : Nat) < M.2.2.2.1) (hv : lv.set j (some (.inl x)) = lv') (kk : zs_R M k n sh post v (pc + 1) lv' st) : zs_R M k n sh post v pc lv (.inl x :: st) := by
  intro p l e s m args below meth c dC dI cA a A H locs ls hF hr hlk hK hA hL hP hD hS
  exact lv_istore_n hF.1 hF.2.1 hd rfl (zs_L_has hL) hj rfl (fun ls2 hl2 => kk p l e s m args below meth c dC dI cA a A H locs ls2 hF hr hlk hK hA (hv ▸ zs_L_set (x := .inl x) rfl hl2) hP hD hS)
theorem zs_istore {j : Nat} {x : Int} (hd : decode M.2.1 pc = .ok (.istore j, 2)) (hj : (j : Nat) < M.2.2.2.1) (hv : lv.set j (some (.inl x)) = lv') (kk : zs_R M k n sh post v (pc + 2) lv' st) : zs_R M k n sh post v pc lv (.inl x :: st) := by
  intro p l e s m args below meth c dC dI cA a A H locs ls hF hr hlk hK hA hL hP hD hS
  exact lv_istore hF.1 hF.2.1 hd (zs_L_has hL) hj rfl (fun ls2 hl2 => kk p l e s m args below meth c dC dI cA a A H locs ls2 hF hr hlk hK hA (hv ▸ zs_L_set (x := .inl x) rfl hl2) hP hD hS)
theorem zs_iinc {j : Nat} {i x : Int} (hd : decode M.2.1 pc = .ok (.iinc j i, 3)) (hl : lv[j]? = some (some (.inl x))) (hj : j < M.2.2.2.1) (hv : lv.set j (some (.inl (x + i))) = lv') (kk : zs_R M k n sh post v (pc + 3) lv' st) : zs_R M k n sh post v pc lv st := by
  intro p l e s m args below meth c dC dI cA a A H locs ls hF hr hlk hK hA hL hP hD hS
  obtain ⟨k0, hk0⟩ := List.getElem?_of_mem (zs_mem_prs (a := a) hl)
  exact lv_iinc (v := zI (x + i)) hF.1 hF.2.1 hd (zs_L_has hL) hk0 (zI_add x i) hj rfl (fun ls2 hl2 => kk p l e s m args below meth c dC dI cA a A H locs ls2 hF hr hlk hK hA (hv ▸ zs_L_set (x := .inl (x + i)) rfl hl2) hP hD hS)
theorem zs_iadd {x y : Int} (hd : decode M.2.1 pc = .ok (.iadd, 1)) (kk : zs_R M k n sh post v (pc + 1) lv (.inl (x + y) :: st)) : zs_R M k n sh post v pc lv (.inl y :: .inl x :: st) := by
  intro p l e s m args below meth c dC dI cA a A H locs ls hF hr hlk hK hA hL hP hD hS
  have h := kk p l e s m args below meth c dC dI cA a A H locs ls hF hr hlk hK hA hL hP hD hS
  refine lv_iadd hF.1 hF.2.1 hd ?_
  rw [zI_add]
  exact h
theorem zs_isub {x y : Int} (hd : decode M.2.1 pc = .ok (.isub, 1)) (kk : zs_R M k n sh post v (pc + 1) lv (.inl (x - y) :: st)) : zs_R M k n sh post v pc lv (.inl y :: .inl x :: st) := by
  intro p l e s m args below meth c dC dI cA a A H locs ls hF hr hlk hK hA hL hP hD hS
  have h := kk p l e s m args below meth c dC dI cA a A H locs ls hF hr hlk hK hA hL hP hD hS
  refine lv_isub hF.1 hF.2.1 hd ?_
  rw [zI_sub]
  exact h
theorem zs_imul {x y : Int} (hd : decode M.2.1 pc = .ok (.imul, 1)) (kk : zs_R M k n sh post v (pc + 1) lv (.inl (x * y) :: st)) : zs_R M k n sh post v pc lv (.inl y :: .inl x :: st) := by
  intro p l e s m args below meth c dC dI cA a A H locs ls hF hr hlk hK hA hL hP hD hS
  have h := kk p l e s m args below meth c dC dI cA a A H locs ls hF hr hlk hK hA hL hP hD hS
  refine lv_imul hF.1 hF.2.1 hd ?_
  rw [zI_mul]
  exact h
theorem zs_idiv {x y : Int} (hd : decode M.2.1 pc = .ok (.idiv, 1)) (hx : 0 ≤ x ∧ x < 2147483648) (hy : 0 < y ∧ y < 2147483648) (kk : zs_R M k n sh post v (pc + 1) lv (.inl (x / y) :: st)) : zs_R M k n sh post v pc lv (.inl y :: .inl x :: st) := by
  intro p l e s m args below meth c dC dI cA a A H locs ls hF hr hlk hK hA hL hP hD hS
  have h := kk p l e s m args below meth c dC dI cA a A H locs ls hF hr hlk hK hA hL hP hD hS
  have hx' : zn x := ⟨by omega, hx.2⟩
  have hy' : zn y := ⟨by omega, hy.2⟩
  refine lv_idiv hF.1 hF.2.1 hd (fun q => by rw [← zI_0, zI_eq hy' zn_0] at q; omega) ?_
  rw [zI_div hx' hx.1 hy' hy.1]
  exact h
theorem zs_irem {x y : Int} (hd : decode M.2.1 pc = .ok (.irem, 1)) (hx : 0 ≤ x ∧ x < 2147483648) (hy : 0 < y ∧ y < 2147483648) (kk : zs_R M k n sh post v (pc + 1) lv (.inl (x % y) :: st)) : zs_R M k n sh post v pc lv (.inl y :: .inl x :: st) := by
  intro p l e s m args below meth c dC dI cA a A H locs ls hF hr hlk hK hA hL hP hD hS
  have h := kk p l e s m args below meth c dC dI cA a A H locs ls hF hr hlk hK hA hL hP hD hS
  have hx' : zn x := ⟨by omega, hx.2⟩
  have hy' : zn y := ⟨by omega, hy.2⟩
  refine lv_irem hF.1 hF.2.1 hd (fun q => by rw [← zI_0, zI_eq hy' zn_0] at q; omega) ?_
  rw [zI_rem hx' hx.1 hy' hy.1]
  exact h
theorem zs_dup {x : zs_A} (hd : decode M.2.1 pc = .ok (.dup, 1)) (kk : zs_R M k n sh post v (pc + 1) lv (x :: x :: st)) : zs_R M k n sh post v pc lv (x :: st) := by
  intro p l e s m args below meth c dC dI cA a A H locs ls hF hr hlk hK hA hL hP hD hS
  exact lv_dup hF.1 hF.2.1 hd (zs_cat a x) (kk p l e s m args below meth c dC dI cA a A H locs ls hF hr hlk hK hA hL hP hD hS)
theorem zs_dup2 {x y : zs_A} (hd : decode M.2.1 pc = .ok (.dup2, 1)) (kk : zs_R M k n sh post v (pc + 1) lv (x :: y :: x :: y :: st)) : zs_R M k n sh post v pc lv (x :: y :: st) := by
  intro p l e s m args below meth c dC dI cA a A H locs ls hF hr hlk hK hA hL hP hD hS
  exact lv_dup2_11 hF.1 hF.2.1 hd (zs_cat a x) (zs_cat a y) (kk p l e s m args below meth c dC dI cA a A H locs ls hF hr hlk hK hA hL hP hD hS)
theorem zs_goto {off : Int} {tgt : Nat} (hd : decode M.2.1 pc = .ok (.goto off, 3)) (ht : (pc : Int) + off = (tgt : Int)) (kk : zs_R M k n sh post v tgt lv st) : zs_R M k n sh post v pc lv st := by
  intro p l e s m args below meth c dC dI cA a A H locs ls hF hr hlk hK hA hL hP hD hS
  exact lv_goto hF.1 hF.2.1 hd ht (kk p l e s m args below meth c dC dI cA a A H locs ls hF hr hlk hK hA hL hP hD hS)
theorem zs_icmp_eq {x y : Int} {off : Int} {tgt : Nat} (hd : decode M.2.1 pc = .ok (.if_icmp .eq off, 3)) (ht : (pc : Int) + off = (tgt : Int)) (hx : zn x) (hy : zn y) (kt : x = y → zs_R M k n sh post v tgt lv st) (kf : ¬ x = y → zs_R M k n sh post v (pc + 3) lv st) : zs_R M k n sh post v pc lv (.inl y :: .inl x :: st) := by
  intro p l e s m args below meth c dC dI cA a A H locs ls hF hr hlk hK hA hL hP hD hS
  exact lv_icmp_eq hF.1 hF.2.1 hd ht (fun h => kt ((zI_eq hx hy).mp h) p l e s m args below meth c dC dI cA a A H locs ls hF hr hlk hK hA hL hP hD hS) (fun h => kf (fun q => h ((zI_eq hx hy).mpr q)) p l e s m args below meth c dC dI cA a A H locs ls hF hr hlk hK hA hL hP hD hS)
theorem zs_icmp_ne {x y : Int} {off : Int} {tgt : Nat} (hd : decode M.2.1 pc = .ok (.if_icmp .ne off, 3)) (ht : (pc : Int) + off = (tgt : Int)) (hx : zn x) (hy : zn y) (kt : ¬ x = y → zs_R M k n sh post v tgt lv st) (kf : x = y → zs_R M k n sh post v (pc + 3) lv st) : zs_R M k n sh post v pc lv (.inl y :: .inl x :: st) := by
  intro p l e s m args below meth c dC dI cA a A H locs ls hF hr hlk hK hA hL hP hD hS
  exact lv_icmp_ne hF.1 hF.2.1 hd ht (fun h => kt (fun q => h ((zI_eq hx hy).mpr q)) p l e s m args below meth c dC dI cA a A H locs ls hF hr hlk hK hA hL hP hD hS) (fun h => kf ((zI_eq hx hy).mp h) p l e s m args below meth c dC dI cA a A H locs ls hF hr hlk hK hA hL hP hD hS)
theorem zs_icmp_lt {x y : Int} {off : Int} {tgt : Nat} (hd : decode M.2.1 pc = .ok (.if_icmp .lt off, 3)) (ht : (pc : Int) + off = (tgt : Int)) (hx : zn x) (hy : zn y) (kt : x < y → zs_R M k n sh post v tgt lv st) (kf : ¬ x < y → zs_R M k n sh post v (pc + 3) lv st) : zs_R M k n sh post v pc lv (.inl y :: .inl x :: st) := by
  intro p l e s m args below meth c dC dI cA a A H locs ls hF hr hlk hK hA hL hP hD hS
  exact lv_icmp_lt hF.1 hF.2.1 hd ht (fun h => kt ((zI_lt hx hy).mp h) p l e s m args below meth c dC dI cA a A H locs ls hF hr hlk hK hA hL hP hD hS) (fun h => kf (fun q => h ((zI_lt hx hy).mpr q)) p l e s m args below meth c dC dI cA a A H locs ls hF hr hlk hK hA hL hP hD hS)
theorem zs_icmp_ge {x y : Int} {off : Int} {tgt : Nat} (hd : decode M.2.1 pc = .ok (.if_icmp .ge off, 3)) (ht : (pc : Int) + off = (tgt : Int)) (hx : zn x) (hy : zn y) (kt : y ≤ x → zs_R M k n sh post v tgt lv st) (kf : ¬ y ≤ x → zs_R M k n sh post v (pc + 3) lv st) : zs_R M k n sh post v pc lv (.inl y :: .inl x :: st) := by
  intro p l e s m args below meth c dC dI cA a A H locs ls hF hr hlk hK hA hL hP hD hS
  exact lv_icmp_ge hF.1 hF.2.1 hd ht (fun h => kt ((zI_le hy hx).mp h) p l e s m args below meth c dC dI cA a A H locs ls hF hr hlk hK hA hL hP hD hS) (fun h => kf (fun q => h ((zI_le hy hx).mpr q)) p l e s m args below meth c dC dI cA a A H locs ls hF hr hlk hK hA hL hP hD hS)
theorem zs_icmp_gt {x y : Int} {off : Int} {tgt : Nat} (hd : decode M.2.1 pc = .ok (.if_icmp .gt off, 3)) (ht : (pc : Int) + off = (tgt : Int)) (hx : zn x) (hy : zn y) (kt : y < x → zs_R M k n sh post v tgt lv st) (kf : ¬ y < x → zs_R M k n sh post v (pc + 3) lv st) : zs_R M k n sh post v pc lv (.inl y :: .inl x :: st) := by
  intro p l e s m args below meth c dC dI cA a A H locs ls hF hr hlk hK hA hL hP hD hS
  exact lv_icmp_gt hF.1 hF.2.1 hd ht (fun h => kt ((zI_lt hy hx).mp h) p l e s m args below meth c dC dI cA a A H locs ls hF hr hlk hK hA hL hP hD hS) (fun h => kf (fun q => h ((zI_lt hy hx).mpr q)) p l e s m args below meth c dC dI cA a A H locs ls hF hr hlk hK hA hL hP hD hS)
theorem zs_icmp_le {x y : Int} {off : Int} {tgt : Nat} (hd : decode M.2.1 pc = .ok (.if_icmp .le off, 3)) (ht : (pc : Int) + off = (tgt : Int)) (hx : zn x) (hy : zn y) (kt : x ≤ y → zs_R M k n sh post v tgt lv st) (kf : ¬ x ≤ y → zs_R M k n sh post v (pc + 3) lv st) : zs_R M k n sh post v pc lv (.inl y :: .inl x :: st) := by
  intro p l e s m args below meth c dC dI cA a A H locs ls hF hr hlk hK hA hL hP hD hS
  exact lv_icmp_le hF.1 hF.2.1 hd ht (fun h => kt ((zI_le hx hy).mp h) p l e s m args below meth c dC dI cA a A H locs ls hF hr hlk hK hA hL hP hD hS) (fun h => kf (fun q => h ((zI_le hx hy).mpr q)) p l e s m args below meth c dC dI cA a A H locs ls hF hr hlk hK hA hL hP hD hS)
theorem zs_if_eq {x : Int} {off : Int} {tgt : Nat} (hd : decode M.2.1 pc = .ok (.ifCond .eq off, 3)) (ht : (pc : Int) + off = (tgt : Int)) (hx : zn x) (kt : x = 0 → zs_R M k n sh post v tgt lv st) (kf : ¬ x = 0 → zs_R M k n sh post v (pc + 3) lv st) : zs_R M k n sh post v pc lv (.inl x :: st) := by
  intro p l e s m args below meth c dC dI cA a A H locs ls hF hr hlk hK hA hL hP hD hS
  exact lv_if_eq hF.1 hF.2.1 hd ht (fun h => kt ((zI_eq hx zn_0).mp (by rw [zI_0]; exact h)) p l e s m args below meth c dC dI cA a A H locs ls hF hr hlk hK hA hL hP hD hS) (fun h => kf (fun q => h (by have q2 := (zI_eq hx zn_0).mpr q; rw [zI_0] at q2; exact q2)) p l e s m args below meth c dC dI cA a A H locs ls hF hr hlk hK hA hL hP hD hS)
theorem zs_if_ne {x : Int} {off : Int} {tgt : Nat} (hd : decode M.2.1 pc = .ok (.ifCond .ne off, 3)) (ht : (pc : Int) + off = (tgt : Int)) (hx : zn x) (kt : ¬ x = 0 → zs_R M k n sh post v tgt lv st) (kf : x = 0 → zs_R M k n sh post v (pc + 3) lv st) : zs_R M k n sh post v pc lv (.inl x :: st) := by
  intro p l e s m args below meth c dC dI cA a A H locs ls hF hr hlk hK hA hL hP hD hS
  exact lv_if_ne hF.1 hF.2.1 hd ht (fun h => kt (fun q => h (q ▸ zI_0)) p l e s m args below meth c dC dI cA a A H locs ls hF hr hlk hK hA hL hP hD hS) (fun h => kf ((zI_eq hx zn_0).mp (h.trans zI_0.symm)) p l e s m args below meth c dC dI cA a A H locs ls hF hr hlk hK hA hL hP hD hS)
theorem zs_if_lt {x : Int} {off : Int} {tgt : Nat} (hd : decode M.2.1 pc = .ok (.ifCond .lt off, 3)) (ht : (pc : Int) + off = (tgt : Int)) (hx : zn x) (kt : x < 0 → zs_R M k n sh post v tgt lv st) (kf : ¬ x < 0 → zs_R M k n sh post v (pc + 3) lv st) : zs_R M k n sh post v pc lv (.inl x :: st) := by
  intro p l e s m args below meth c dC dI cA a A H locs ls hF hr hlk hK hA hL hP hD hS
  exact lv_if_lt hF.1 hF.2.1 hd ht (fun h => kt ((zI_lt hx zn_0).mp (by rw [zI_0]; exact h)) p l e s m args below meth c dC dI cA a A H locs ls hF hr hlk hK hA hL hP hD hS) (fun h => kf (fun q => h (by have q2 := (zI_lt hx zn_0).mpr q; rw [zI_0] at q2; exact q2)) p l e s m args below meth c dC dI cA a A H locs ls hF hr hlk hK hA hL hP hD hS)
theorem zs_if_ge {x : Int} {off : Int} {tgt : Nat} (hd : decode M.2.1 pc = .ok (.ifCond .ge off, 3)) (ht : (pc : Int) + off = (tgt : Int)) (hx : zn x) (kt : 0 ≤ x → zs_R M k n sh post v tgt lv st) (kf : ¬ 0 ≤ x → zs_R M k n sh post v (pc + 3) lv st) : zs_R M k n sh post v pc lv (.inl x :: st) := by
  intro p l e s m args below meth c dC dI cA a A H locs ls hF hr hlk hK hA hL hP hD hS
  exact lv_if_ge hF.1 hF.2.1 hd ht (fun h => kt ((zI_le zn_0 hx).mp (by rw [zI_0]; exact h)) p l e s m args below meth c dC dI cA a A H locs ls hF hr hlk hK hA hL hP hD hS) (fun h => kf (fun q => h (by have q2 := (zI_le zn_0 hx).mpr q; rw [zI_0] at q2; exact q2)) p l e s m args below meth c dC dI cA a A H locs ls hF hr hlk hK hA hL hP hD hS)
theorem zs_if_gt {x : Int} {off : Int} {tgt : Nat} (hd : decode M.2.1 pc = .ok (.ifCond .gt off, 3)) (ht : (pc : Int) + off = (tgt : Int)) (hx : zn x) (kt : 0 < x → zs_R M k n sh post v tgt lv st) (kf : ¬ 0 < x → zs_R M k n sh post v (pc + 3) lv st) : zs_R M k n sh post v pc lv (.inl x :: st) := by
  intro p l e s m args below meth c dC dI cA a A H locs ls hF hr hlk hK hA hL hP hD hS
  exact lv_if_gt hF.1 hF.2.1 hd ht (fun h => kt ((zI_lt zn_0 hx).mp (by rw [zI_0]; exact h)) p l e s m args below meth c dC dI cA a A H locs ls hF hr hlk hK hA hL hP hD hS) (fun h => kf (fun q => h (by have q2 := (zI_lt zn_0 hx).mpr q; rw [zI_0] at q2; exact q2)) p l e s m args below meth c dC dI cA a A H locs ls hF hr hlk hK hA hL hP hD hS)
theorem zs_if_le {x : Int} {off : Int} {tgt : Nat} (hd : decode M.2.1 pc = .ok (.ifCond .le off, 3)) (ht : (pc : Int) + off = (tgt : Int)) (hx : zn x) (kt : x ≤ 0 → zs_R M k n sh post v tgt lv st) (kf : ¬ x ≤ 0 → zs_R M k n sh post v (pc + 3) lv st) : zs_R M k n sh post v pc lv (.inl x :: st) := by
  intro p l e s m args below meth c dC dI cA a A H locs ls hF hr hlk hK hA hL hP hD hS
  exact lv_if_le hF.1 hF.2.1 hd ht (fun h => kt ((zI_le hx zn_0).mp (by rw [zI_0]; exact h)) p l e s m args below meth c dC dI cA a A H locs ls hF hr hlk hK hA hL hP hD hS) (fun h => kf (fun q => h (by have q2 := (zI_le hx zn_0).mpr q; rw [zI_0] at q2; exact q2)) p l e s m args below meth c dC dI cA a A H locs ls hF hr hlk hK hA hL hP hD hS)
theorem zs_swIn {dflt lo hi : Int} {offs : Array Int} {len : Nat} {x : Int} {off : Int} {tgt : Nat} (hd : decode M.2.1 pc = .ok (.tableswitch dflt lo hi offs, len)) (hx : zn x) (h1 : ¬ x < lo) (h2 : ¬ hi < x) (ho : offs[(x - lo).toNat]? = some off) (ht : (pc : Int) + off = (tgt : Int)) (kk : zs_R M k n sh post v tgt lv st) : zs_R M k n sh post v pc lv (.inl x :: st) := by
  intro p l e s m args below meth c dC dI cA a A H locs ls hF hr hlk hK hA hL hP hD hS
  exact lv_tableIn hF.1 hF.2.1 hd (by rw [zI_t hx]; exact h1) (by rw [zI_t hx]; exact h2) (by rw [zI_t hx]; exact ho) ht (kk p l e s m args below meth c dC dI cA a A H locs ls hF hr hlk hK hA hL hP hD hS)
theorem zs_swOut {dflt lo hi : Int} {offs : Array Int} {len : Nat} {x : Int} {tgt : Nat} (hd : decode M.2.1 pc = .ok (.tableswitch dflt lo hi offs, len)) (hx : zn x) (h : x < lo ∨ hi < x) (ht : (pc : Int) + dflt = (tgt : Int)) (kk : zs_R M k n sh post v tgt lv st) : zs_R M k n sh post v pc lv (.inl x :: st) := by
  intro p l e s m args below meth c dC dI cA a A H locs ls hF hr hlk hK hA hL hP hD hS
  exact lv_tableOut hF.1 hF.2.1 hd (by rw [zI_t hx]; exact h) ht (kk p l e s m args below meth c dC dI cA a A H locs ls hF hr hlk hK hA hL hP hD hS)
theorem zs_geti {q ci j r i : Nat} {fs : List zs_F} {C : String} {T : u_T} {N : Nat} (hd : decode M.2.1 pc = .ok (.getfield i, 3)) (hs : sh[q]? = some (.inl (ci, fs))) (hf : fs[j]? = some (some (.inr r))) (hc : vwCl[ci]? = some (C, T, N)) (hj : j < N) (hin : ∀ w ∈ u_ws C T N, w ∈ M.2.2.1) (hlk : Cond.fieldLink M.1 i (T j).1 (T j).2.1 (T j).2.2.1 ∈ M.2.2.1) (kk : zs_R M k n sh post v (pc + 3) lv (.inl (v r 0) :: st)) : zs_R M k n sh post v pc lv (.inr q :: st) := by
  have hlk1 := hlk
  intro p l e s m args below meth c dC dI cA a A H locs ls hF hr hlk hK hA hL hP hD hS
  exact va_get hF.1 hF.2.1 hF.2.2.2.2 hin hF.2.2.2.1 hK hP q (zs_w_at hs) hc j hj (hF.2.2.2.2 _ hlk1) (fun _ h9 => h9) (v := .int (zI (v r 0))) (by rw [List.getElem?_map, hf]; rfl) hd (kk p l e s m args below meth c dC dI cA a A H locs ls hF hr hlk hK hA hL hP hD hS)
theorem zs_getr {q ci j d i : Nat} {fs : List zs_F} {C : String} {T : u_T} {N : Nat} (hd : decode M.2.1 pc = .ok (.getfield i, 3)) (hs : sh[q]? = some (.inl (ci, fs))) (hf : fs[j]? = some (some (.inl d))) (hc : vwCl[ci]? = some (C, T, N)) (hj : j < N) (hin : ∀ w ∈ u_ws C T N, w ∈ M.2.2.1) (hlk : Cond.fieldLink M.1 i (T j).1 (T j).2.1 (T j).2.2.1 ∈ M.2.2.1) (kk : zs_R M k n sh post v (pc + 3) lv (.inr d :: st)) : zs_R M k n sh post v pc lv (.inr q :: st) := by
  have hlk1 := hlk
  intro p l e s m args below meth c dC dI cA a A H locs ls hF hr hlk hK hA hL hP hD hS
  exact va_get hF.1 hF.2.1 hF.2.2.2.2 hin hF.2.2.2.1 hK hP q (zs_w_at hs) hc j hj (hF.2.2.2.2 _ hlk1) (fun _ h9 => h9) (v := .ref (a d)) (by rw [List.getElem?_map, hf]; rfl) hd (kk p l e s m args below meth c dC dI cA a A H locs ls hF hr hlk hK hA hL hP hD hS)
theorem zs_puti {q ci j r i : Nat} {fs : List zs_F} {C : String} {T : u_T} {N : Nat} {x : Int} (hd : decode M.2.1 pc = .ok (.putfield i, 3)) (hs : sh[q]? = some (.inl (ci, fs))) (hf : fs[j]? = some (some (.inr r))) (hm : zs_men r (sh.set q (.inl (ci, fs.set j none))) = false) (hc : vwCl[ci]? = some (C, T, N)) (hj : j < N) (hin : ∀ w ∈ u_ws C T N, w ∈ M.2.2.1) (ty0 : Nat → FieldType) (hty : ∀ k, k < N → parseFieldDescriptor (T k).2.2.1 = some (ty0 k)) (hnm : ∀ a, a < N → ∀ b, b < N → a ≠ b → (T a).2.1 ≠ (T b).2.1) (hfin : (T j).2.2.2 = false) (htj : parseFieldDescriptor (T j).2.2.1 = some .int) (hlk : Cond.fieldLink M.1 i (T j).1 (T j).2.1 (T j).2.2.1 ∈ M.2.2.1) (kk : zs_R M k n sh post (zs_put v r 0 x) (pc + 3) lv st) : zs_R M k n sh post v pc lv (.inl x :: .inr q :: st) := by
  have hlk1 := hlk
  intro p l e s m args below meth c dC dI cA a A H locs ls hF hr hlk hK hA hL hP hD hS
  have hmc : zs_mc r (.inl (ci, fs.set j none)) = false := by
    simp only [zs_men, List.any_eq_false] at hm
    have hq : q < sh.length := (List.getElem?_eq_some_iff.mp hs).1
    simpa using hm _ (List.mem_of_getElem? (i := q) (List.getElem?_set_self hq))
  have hE := zs_w_put (cA := cA) (a := a) (v := v) (i := 0) (x := x) hm hs (zs_ce_fld (cA := cA) (a := a) (v := v) (x := x) hf hmc)
  refine va_put hF.1 hF.2.1 hF.2.2.2.2 hin ty0 hty hnm hF.2.2.2.1 hK hP hD hS q (zs_w_at hs) hc j hj (hF.2.2.2.2 _ hlk1) (fun _ h9 => h9) hfin htj rfl rfl (by simpa using (List.getElem?_eq_some_iff.mp hf).1) hd (fun H1 locs1 hP1 hD1 hS1 => ?_)
  have hP1 : va_P (dC, dI) vwCl (zs_w cA a (zs_put v r 0 x) sh) H1 := hE ▸ hP1
  have hD1 : va_D A (zs_w cA a (zs_put v r 0 x) sh) := hE ▸ hD1
  exact kk p l e s m args below meth c dC dI cA a A H1 locs1 ls hF hr hlk hK hA hL hP1 hD1 hS1
theorem zs_iaload {q r N : Nat} {i : Int} (hd : decode M.2.1 pc = .ok (.iaload, 1)) (hs : sh[q]? = some (.inr (r, N))) (hN : N < 2147483648) (h0 : 0 ≤ i) (h1 : i < N) (kk : zs_R M k n sh post v (pc + 1) lv (.inl (v r i) :: st)) : zs_R M k n sh post v pc lv (.inl i :: .inr q :: st) := by
  intro p l e s m args below meth c dC dI cA a A H locs ls hF hr hlk hK hA hL hP hD hS
  have h := kk p l e s m args below meth c dC dI cA a A H locs ls hF hr hlk hK hA hL hP hD hS
  refine va_iald hF.1 hF.2.1 hK hP q 0 (zs_w_at hs) rfl (zI_in h0 h1 hN) hd ?_
  rw [zI_clamp h0 (by omega)]
  rw [show ((i.toNat : Int)) = i by omega]
  exact h
theorem zs_iastore {q r N : Nat} {i x : Int} (hd : decode M.2.1 pc = .ok (.iastore, 1)) (hs : sh[q]? = some (.inr (r, N))) (hm : zs_men r (sh.set q (.inl (0, []))) = false) (hN : N < 2147483648) (h0 : 0 ≤ i) (h1 : i < N) (kk : zs_R M k n sh post (zs_put v r i x) (pc + 1) lv st) : zs_R M k n sh post v pc lv (.inl x :: .inl i :: .inr q :: st) := by
  intro p l e s m args below meth c dC dI cA a A H locs ls hF hr hlk hK hA hL hP hD hS
  have hE := zs_w_put (cA := cA) (a := a) (v := v) (i := i) (x := x) hm hs (zs_ce_arr (cA := cA) (a := a) (v := v) (n := N) (x := x) h0 (by omega))
  refine va_iast hF.1 hF.2.1 hK hP hD hS q 0 (zs_w_at hs) rfl (zI_in h0 h1 hN) hd (fun H1 locs1 hP1 hD1 hS1 => ?_)
  rw [hE] at hP1 hD1
  exact kk p l e s m args below meth c dC dI cA a A H1 locs1 ls hF hr hlk hK hA hL hP1 hD1 hS1
theorem zs_alen {q r N : Nat} (hd : decode M.2.1 pc = .ok (.arraylength, 1)) (hs : sh[q]? = some (.inr (r, N))) (kk : zs_R M k n sh post v (pc + 1) lv (.inl (N : Int) :: st)) : zs_R M k n sh post v pc lv (.inr q :: st) := by
  intro p l e s m args below meth c dC dI cA a A H locs ls hF hr hlk hK hA hL hP hD hS
  have h := kk p l e s m args below meth c dC dI cA a A H locs ls hF hr hlk hK hA hL hP hD hS
  exact va_alen hF.1 hF.2.1 hK hP q 0 (zs_w_at hs) rfl (v := zI (N : Int)) (zI_n N).symm hd h
theorem zs_ret {x : Int} {ty : FieldType} (hd : decode M.2.1 pc = .ok (.ireturn, 1)) (ht : M.2.2.2.2.1 = some ty) (hn : narrow ty (.int (zI x)) = .int (zI x)) (hp : post x v) : zs_R M k n sh post v pc lv [.inl x] := by
  intro p l e s m args below meth c dC dI cA a A H locs ls hF hr hlk hK hA hL hP hD hS
  rw [ht] at hr ⊢
  exact W.zret hF.1 hF.2.1 hr hn (fun t htt hW => ⟨⟨zI x, v, rfl, ⟨x, rfl, hp⟩, by rw [htt]; exact hP, va_K.moved hW.alike hK, hD⟩, hS.F htt⟩) hS.2.2 hd hlk
theorem zs_iret {x : Int} (hd : decode M.2.1 pc = .ok (.ireturn, 1)) (ht : M.2.2.2.2.1 = some .int) (hp : post x v) : zs_R M k n sh post v pc lv [.inl x] := zs_ret hd ht rfl hp
theorem zs_z0 : narrow .boolean (.int (zI 0)) = .int (zI 0) := by decide +kernel
theorem zs_z1 : narrow .boolean (.int (zI 1)) = .int (zI 1) := by decide +kernel
theorem zs_zret {x : Int} (hd : decode M.2.1 pc = .ok (.ireturn, 1)) (ht : M.2.2.2.2.1 = some .boolean) (hx : x = 0 ∨ x = 1) (hp : post x v) : zs_R M k n sh post v pc lv [.inl x] := by
  refine zs_ret hd ht ?_ hp
  rcases hx with rfl | rfl
  · exact zs_z0
  · exact zs_z1
theorem zs_vret (hd : decode M.2.1 pc = .ok (.return_, 1)) (ht : M.2.2.2.2.1 = none) (hp : post 0 v) : zs_R M k n sh post v pc lv [] := by
  intro p l e s m args below meth c dC dI cA a A H locs ls hF hr hlk hK hA hL hP hD hS
  rw [ht] at hr ⊢
  exact W.vret hF.1 hF.2.1 hr (fun t htt hW => ⟨⟨v, rfl, hp, by rw [htt]; exact hP, va_K.moved hW.alike hK, hD⟩, hS.F htt⟩) hS.2.2 hd hlk
end ZR
end
section
def zs_Pre (dC : Nat → ClassId) (dI : Nat → Nat → Nat) (cA : ClassId) (a : Nat → Nat) (v : zs_V) (sh : List zs_C) (sz : Nat) (U : State) : Prop := U.heap.size = sz ∧ va_P (dC, dI) vwCl (zs_w cA a v sh) U.heap ∧ va_K (dC, dI) vwCl [(cA, .int)] U ∧ va_D (fun _ => True) (zs_w cA a v sh)
/-- what a call takes of the method called -/
def zs_Y (M : zs_M) (y : MethodName) (np : Nat) : Prop := (∃ ws', M.2.2.1 = Cond.code y M.2.1 M.2.2.2.1 M.2.2.2.2.1 :: ws') ∧ M.1 = y.cls ∧ plainName y.cls = true ∧ (y.cls ≠ "java/lang/invoke/MethodHandle" ∧ y.cls ≠ "java/lang/invoke/VarHandle" ∧ (parseMethodDescriptor y.desc).map (fun d => d.parameters.length) = some np) ∧ M.2.2.2.2.2.cells = 0 ∧ M.2.2.2.2.2.slots = 0
theorem zs_met {M : zs_M} {sh : List zs_C} {post : Int → zs_V → Prop} {v : zs_V} {y : MethodName} {np : Nat} (hY : zs_Y M y np) {As : List zs_A} (hn : As.length ≤ M.2.2.2.1) (h : zs_R M 0 0 sh post v 0 (zs_ent M.2.2.2.1 As) []) (l : Launch) (dC : Nat → ClassId) (dI : Nat → Nat → Nat) (cA : ClassId) (a : Nat → Nat) (sz : Nat) :
    Met l y M.2.2.1 M.2.2.2.2.2 (va_Pc (As.map (zs_v a)) (zs_Pre dC dI cA a v sh sz)) (zs_Q M.2.2.2.2.1 post (zs_B dC dI cA a (va_A (zs_w cA a v sh) sz) sh) (va_A (zs_w cA a v sh) sz)) 0 0 (va_A (zs_w cA a v sh) sz) := by
  obtain ⟨⟨ws', hw⟩, ho, hy, -, -, -⟩ := hY
  refine Met.ofW (cc := M.2.1) (maxL := M.2.2.2.1) (ret := M.2.2.2.2.1) hy hw ?_
  intro p e s m args below meth c s₁ B hml hv
  obtain ⟨rfl, hsz, hP, hK, hD0⟩ := hv
  have hts := atoms_spec (ws := M.2.2.1) B.pre
  have hown : s.vm.findClass y.cls = some m.cls := findClass_of_methodNamed B.named
  subst hsz
  have hD := hD0.self (sz := s.heap.size)
  rw [lg_entry_eq]
  exact h p l e s m _ below meth c dC dI cA a _ s.heap [] _ ⟨B.exec, B.bytes, hml, by rw [ho]; exact hown, hts⟩ B.returns B.notSynchronized hK (fun q h => Or.inr h) (zs_L_ent hn) hP hD va_S.rf
theorem zs_cats (a : Nat → Nat) (st : List zs_A) : ((st.map (zs_v a)).map fun v => v.category).sum = st.length := by
  induction st with
  | nil => rfl
  | cons x st ih =>
    simp only [List.map_cons, List.sum_cons, List.length_cons, zs_cat]
    rw [ih]
    omega
theorem zs_blind {dC : Nat → ClassId} {dI : Nat → Nat → Nat} {cA : ClassId} {a : Nat → Nat} {v : zs_V} {sh : List zs_C} {sz : Nat} {av : List Value} : FrameBlind (va_Pc av (zs_Pre dC dI cA a v sh sz)) := by
  intro a U g mk q
  obtain ⟨q0, q1, qP, qK, qD⟩ := q
  exact ⟨q0, q1, qP, va_K.moved (u := U) (U := U.calling g mk a) (Vm.Alike.refl U.vm) qK, qD⟩
section ZC
variable {M M' : zs_M} {k n : Nat} {sh : List zs_C} {post post' : Int → zs_V → Prop} {v : zs_V} {pc : Nat} {lv : List (Option zs_A)} {st : List zs_A} {y : MethodName} {np q ci i : Nat} {fs : List zs_F} {C : String} {T : u_T} {N : Nat} {As rest : List zs_A}
theorem zs_callV {ty : FieldType} (hd : decode M.2.1 pc = .ok (.invokevirtual i, 3)) (hst : st = As.reverse ++ .inr q :: rest) (hlen : rest.length ≤ 8) (hs : sh[q]? = some (.inl (ci, fs))) (hc : vwCl[ci]? = some (C, T, N)) (hY : zs_Y M' y np) (hC : y.cls = C) (hnp : As.length = np) (hnl : As.length + 1 ≤ M'.2.2.2.1) (hG : GoodIn M.2.2.1 (wsV M.1 i C y M'.2.2.1)) (hR : M'.2.2.2.2.2.frames + 1 ≤ M.2.2.2.2.2.frames ∧ 8 + (M'.2.2.2.1 + 11) + M'.2.2.2.2.2.locals ≤ M.2.2.2.2.2.locals) (hkn : k ≤ M.2.2.2.2.2.cells ∧ n ≤ M.2.2.2.2.2.slots) (hret : M'.2.2.2.2.1 = some ty) (hM : zs_R M' 0 0 sh post' v 0 (zs_ent M'.2.2.2.1 (.inr q :: As)) [])
    (kk : ∀ r v', post' r v' → zs_R M k n sh post v' (pc + 3) lv (.inl r :: rest)) : zs_R M k n sh post v pc lv st := by
  intro p l e s m args below meth c dC dI cA a A H locs ls hF hr hlk hK hA hL hP hD hS
  have hMet := zs_met hY (As := .inr q :: As) (by simpa using hnl) hM l dC dI cA a H.size
  rw [hret] at hMet
  obtain ⟨⟨ws', hw⟩, ho, hy, hdc, hrc, hrs⟩ := hY
  have hFc : ∀ q, va_A (zs_w cA a v sh) H.size q → A q := by
    rintro q (⟨k, e, h⟩ | h)
    · exact hD.2 k _ h
    · exact hA q (Nat.le_trans hS.1 h)
  refine va_calli (va_runV (As := As.map (zs_v a)) (rest := rest.map (zs_v a)) (b := a q) hF hMet (cwV np hF.2.2.2.2 hG hw hrc hrs ⟨hC, hdc⟩ hR) ⟨zs_blind, va_recv hK hP hc (zs_w_at hs), fun U hU hW => ⟨rfl, by rw [hU], by rw [hU]; exact hP, va_K.moved hW.alike hK, hD.weaken (fun _ _ _ _ => trivial)⟩⟩ rfl (by simpa using hnp) hL.1 (by rw [hst]; simp [zs_v]) (lv_room (by rw [zs_cats]; exact hlen)) hd ⟨hkn.1, hkn.2⟩) hS (fun q _ h => hFc q h) hFc (fun r u t H1 locs1 ht hvm hw1 hB hz1 hk1 hS1 => ?_)
  obtain ⟨x, rfl, hx⟩ := hw1
  obtain ⟨hP1, hK1, hD1⟩ := hB
  rw [ht] at hP1
  exact kk x u hx p l e s m args below meth c dC dI cA a A H1 locs1 ls hF hr hlk hK hA hL hP1 (hD1.weaken (fun _ q _ h => hFc q.1 h)) hS1
theorem zs_callVv (hd : decode M.2.1 pc = .ok (.invokevirtual i, 3)) (hst : st = As.reverse ++ .inr q :: rest) (hlen : rest.length ≤ 8) (hs : sh[q]? = some (.inl (ci, fs))) (hc : vwCl[ci]? = some (C, T, N)) (hY : zs_Y M' y np) (hC : y.cls = C) (hnp : As.length = np) (hnl : As.length + 1 ≤ M'.2.2.2.1) (hG : GoodIn M.2.2.1 (wsV M.1 i C y M'.2.2.1)) (hR : M'.2.2.2.2.2.frames + 1 ≤ M.2.2.2.2.2.frames ∧ 8 + (M'.2.2.2.1 + 11) + M'.2.2.2.2.2.locals ≤ M.2.2.2.2.2.locals) (hkn : k ≤ M.2.2.2.2.2.cells ∧ n ≤ M.2.2.2.2.2.slots) (hret : M'.2.2.2.2.1 = none) (hM : zs_R M' 0 0 sh post' v 0 (zs_ent M'.2.2.2.1 (.inr q :: As)) [])
    (kk : ∀ v', post' 0 v' → zs_R M k n sh post v' (pc + 3) lv rest) : zs_R M k n sh post v pc lv st := by
  intro p l e s m args below meth c dC dI cA a A H locs ls hF hr hlk hK hA hL hP hD hS
  have hMet := zs_met hY (As := .inr q :: As) (by simpa using hnl) hM l dC dI cA a H.size
  rw [hret] at hMet
  obtain ⟨⟨ws', hw⟩, ho, hy, hdc, hrc, hrs⟩ := hY
  have hFc : ∀ q, va_A (zs_w cA a v sh) H.size q → A q := by
    rintro q (⟨k, e, h⟩ | h)
    · exact hD.2 k _ h
    · exact hA q (Nat.le_trans hS.1 h)
  refine va_callv (va_runV (As := As.map (zs_v a)) (rest := rest.map (zs_v a)) (b := a q) hF hMet (cwV np hF.2.2.2.2 hG hw hrc hrs ⟨hC, hdc⟩ hR) ⟨zs_blind, va_recv hK hP hc (zs_w_at hs), fun U hU hW => ⟨rfl, by rw [hU], by rw [hU]; exact hP, va_K.moved hW.alike hK, hD.weaken (fun _ _ _ _ => trivial)⟩⟩ rfl (by simpa using hnp) hL.1 (by rw [hst]; simp [zs_v]) (lv_room (by rw [zs_cats]; exact hlen)) hd ⟨hkn.1, hkn.2⟩) hS (fun q _ h => hFc q h) hFc (fun u t H1 locs1 ht hvm hw1 hB hz1 hk1 hS1 => ?_)
  obtain ⟨hP1, hK1, hD1⟩ := hB
  rw [ht] at hP1
  exact kk u hw1 p l e s m args below meth c dC dI cA a A H1 locs1 ls hF hr hlk hK hA hL hP1 (hD1.weaken (fun _ q _ h => hFc q.1 h)) hS1
theorem zs_callS {ty : FieldType} (hd : decode M.2.1 pc = .ok (.invokestatic i, 3)) (hst : st = As.reverse ++ rest) (hlen : rest.length ≤ 8) (hY : zs_Y M' y np) (hnp : As.length = np) (hnl : As.length ≤ M'.2.2.2.1) (hG : GoodIn M.2.2.1 (va_wsS M.1 i y M'.2.2.1)) (hR : M'.2.2.2.2.2.frames + 1 ≤ M.2.2.2.2.2.frames ∧ 8 + (M'.2.2.2.1 + 11) + M'.2.2.2.2.2.locals ≤ M.2.2.2.2.2.locals) (hkn : k ≤ M.2.2.2.2.2.cells ∧ n ≤ M.2.2.2.2.2.slots) (hret : M'.2.2.2.2.1 = some ty) (hM : zs_R M' 0 0 sh post' v 0 (zs_ent M'.2.2.2.1 As) [])
    (kk : ∀ r v', post' r v' → zs_R M k n sh post v' (pc + 3) lv (.inl r :: rest)) : zs_R M k n sh post v pc lv st := by
  intro p l e s m args below meth c dC dI cA a A H locs ls hF hr hlk hK hA hL hP hD hS
  have hMet := zs_met hY (As := As) hnl hM l dC dI cA a H.size
  rw [hret] at hMet
  obtain ⟨⟨ws', hw⟩, ho, hy, hdc, hrc, hrs⟩ := hY
  have hFc : ∀ q, va_A (zs_w cA a v sh) H.size q → A q := by
    rintro q (⟨k, e, h⟩ | h)
    · exact hD.2 k _ h
    · exact hA q (Nat.le_trans hS.1 h)
  refine va_calli (va_runS (As := As.map (zs_v a)) (rest := rest.map (zs_v a)) hF hMet (va_cwS np hF.2.2.2.2 hG hw hrc hrs hdc hR) ⟨zs_blind, fun U hU hW => ⟨rfl, by rw [hU], by rw [hU]; exact hP, va_K.moved hW.alike hK, hD.weaken (fun _ _ _ _ => trivial)⟩⟩ rfl (by simpa using hnp) hL.1 (by rw [hst]; simp) (lv_room (by rw [zs_cats]; exact hlen)) hd ⟨hkn.1, hkn.2⟩) hS (fun q _ h => hFc q h) hFc (fun r u t H1 locs1 ht hvm hw1 hB hz1 hk1 hS1 => ?_)
  obtain ⟨x, rfl, hx⟩ := hw1
  obtain ⟨hP1, hK1, hD1⟩ := hB
  rw [ht] at hP1
  exact kk x u hx p l e s m args below meth c dC dI cA a A H1 locs1 ls hF hr hlk hK hA hL hP1 (hD1.weaken (fun _ q _ h => hFc q.1 h)) hS1
theorem zs_callSv (hd : decode M.2.1 pc = .ok (.invokestatic i, 3)) (hst : st = As.reverse ++ rest) (hlen : rest.length ≤ 8) (hY : zs_Y M' y np) (hnp : As.length = np) (hnl : As.length ≤ M'.2.2.2.1) (hG : GoodIn M.2.2.1 (va_wsS M.1 i y M'.2.2.1)) (hR : M'.2.2.2.2.2.frames + 1 ≤ M.2.2.2.2.2.frames ∧ 8 + (M'.2.2.2.1 + 11) + M'.2.2.2.2.2.locals ≤ M.2.2.2.2.2.locals) (hkn : k ≤ M.2.2.2.2.2.cells ∧ n ≤ M.2.2.2.2.2.slots) (hret : M'.2.2.2.2.1 = none) (hM : zs_R M' 0 0 sh post' v 0 (zs_ent M'.2.2.2.1 As) [])
    (kk : ∀ v', post' 0 v' → zs_R M k n sh post v' (pc + 3) lv rest) : zs_R M k n sh post v pc lv st := by
  intro p l e s m args below meth c dC dI cA a A H locs ls hF hr hlk hK hA hL hP hD hS
  have hMet := zs_met hY (As := As) hnl hM l dC dI cA a H.size
  rw [hret] at hMet
  obtain ⟨⟨ws', hw⟩, ho, hy, hdc, hrc, hrs⟩ := hY
  have hFc : ∀ q, va_A (zs_w cA a v sh) H.size q → A q := by
    rintro q (⟨k, e, h⟩ | h)
    · exact hD.2 k _ h
    · exact hA q (Nat.le_trans hS.1 h)
  refine va_callv (va_runS (As := As.map (zs_v a)) (rest := rest.map (zs_v a)) hF hMet (va_cwS np hF.2.2.2.2 hG hw hrc hrs hdc hR) ⟨zs_blind, fun U hU hW => ⟨rfl, by rw [hU], by rw [hU]; exact hP, va_K.moved hW.alike hK, hD.weaken (fun _ _ _ _ => trivial)⟩⟩ rfl (by simpa using hnp) hL.1 (by rw [hst]; simp) (lv_room (by rw [zs_cats]; exact hlen)) hd ⟨hkn.1, hkn.2⟩) hS (fun q _ h => hFc q h) hFc (fun u t H1 locs1 ht hvm hw1 hB hz1 hk1 hS1 => ?_)
  obtain ⟨hP1, hK1, hD1⟩ := hB
  rw [ht] at hP1
  exact kk u hw1 p l e s m args below meth c dC dI cA a A H1 locs1 ls hF hr hlk hK hA hL hP1 (hD1.weaken (fun _ q _ h => hFc q.1 h)) hS1
end ZC
end
section
def shX : List zs_C := [.inl (4, [some (.inl 1), some (.inl 7), some (.inl 13), some (.inl 15), some (.inr 20)]), .inl (3, [some (.inl 2), some (.inl 3), some (.inl 4), some (.inl 5), some (.inl 6), some (.inr 15)]), .inr (0, 6), .inr (1, 6), .inr (2, 6), .inr (3, 6), .inr (4, 2), .inl (1, [some (.inl 8), some (.inl 9), some (.inl 10), some (.inl 11), some (.inl 12), some (.inr 16)]), .inr (5, 200), .inr (6, 200), .inr (7, 200), .inr (8, 200), .inr (9, 200), .inl (2, [some (.inl 14), some (.inr 17), some (.inr 18), some (.inr 19)]), .inr (10, 900), .inl (0, [some (.inl 16), some (.inl 17), some (.inl 18), some (.inl 19)]), .inr (11, 600), .inr (12, 600), .inr (13, 600), .inr (14, 3)]
def shM : List zs_C := [.inl (5, [some (.inr 15), some (.inl 1), some (.inl 2), some (.inl 3), some (.inl 4), some (.inl 5), some (.inl 6), some (.inl 7), some (.inl 8), some (.inl 9), some (.inl 10), some (.inl 11), some (.inl 12), some (.inr 16), some (.inr 17), some (.inl 13), some (.inr 18), some (.inr 19), some (.inl 14), some (.inl 15)]), .inr (0, 6), .inr (1, 6), .inr (2, 6), .inr (3, 6), .inr (4, 2), .inr (5, 200), .inr (6, 200), .inr (7, 200), .inr (8, 200), .inr (9, 200), .inr (10, 200), .inr (11, 200), .inr (12, 900), .inr (13, 3), .inr (14, 3000)]
def mJ7_fill_53178 : zs_M := (RJ7, cJ7_fill_53178, wsJ7_fill_53178, 4, none, { frames := 0, cells := 0, slots := 0, locals := 0 })
theorem YJ7_fill_53178 : zs_Y mJ7_fill_53178 yJ7_fill_53178 2 := ⟨⟨_, rfl⟩, rfl, by decide +kernel, ⟨by decide +kernel, by decide +kernel, by decide +kernel⟩, rfl, rfl⟩
def mX0_begin : zs_M := (RX0, cX0_begin, wsX0_begin, 2, none, { frames := 0, cells := 0, slots := 0, locals := 0 })
theorem YX0_begin : zs_Y mX0_begin yX0_begin 1 := ⟨⟨_, rfl⟩, rfl, by decide +kernel, ⟨by decide +kernel, by decide +kernel, by decide +kernel⟩, rfl, rfl⟩
set_option maxRecDepth 20000 in
theorem nX0_begin_X0 : ∀ w ∈ u_ws RX0 TX0 4, w ∈ mX0_begin.2.2.1 := by decide +kernel
set_option maxRecDepth 20000 in
theorem fX0_begin_21 : Cond.fieldLink mX0_begin.1 21 (TX0 3).1 (TX0 3).2.1 (TX0 3).2.2.1 ∈ mX0_begin.2.2.1 := by decide +kernel
def mX0_indexOf : zs_M := (RX0, cX0_indexOf, wsX0_indexOf, 3, (some .int), { frames := 0, cells := 0, slots := 0, locals := 0 })
theorem YX0_indexOf : zs_Y mX0_indexOf yX0_indexOf 2 := ⟨⟨_, rfl⟩, rfl, by decide +kernel, ⟨by decide +kernel, by decide +kernel, by decide +kernel⟩, rfl, rfl⟩
def mX0_keep : zs_M := (RX0, cX0_keep, wsX0_keep, 6, none, { frames := 1, cells := 0, slots := 0, locals := 40 })
theorem YX0_keep : zs_Y mX0_keep yX0_keep 4 := ⟨⟨_, rfl⟩, rfl, by decide +kernel, ⟨by decide +kernel, by decide +kernel, by decide +kernel⟩, rfl, rfl⟩
set_option maxRecDepth 20000 in
theorem nX0_keep_X0 : ∀ w ∈ u_ws RX0 TX0 4, w ∈ mX0_keep.2.2.1 := by decide +kernel
set_option maxRecDepth 20000 in
theorem fX0_keep_21 : Cond.fieldLink mX0_keep.1 21 (TX0 3).1 (TX0 3).2.1 (TX0 3).2.2.1 ∈ mX0_keep.2.2.1 := by decide +kernel
set_option maxRecDepth 20000 in
theorem fX0_keep_9 : Cond.fieldLink mX0_keep.1 9 (TX0 0).1 (TX0 0).2.1 (TX0 0).2.2.1 ∈ mX0_keep.2.2.1 := by decide +kernel
set_option maxRecDepth 20000 in
theorem fX0_keep_15 : Cond.fieldLink mX0_keep.1 15 (TX0 1).1 (TX0 1).2.1 (TX0 1).2.2.1 ∈ mX0_keep.2.2.1 := by decide +kernel
set_option maxRecDepth 20000 in
theorem fX0_keep_18 : Cond.fieldLink mX0_keep.1 18 (TX0 2).1 (TX0 2).2.1 (TX0 2).2.2.1 ∈ mX0_keep.2.2.1 := by decide +kernel
def mX1_isTaken : zs_M := (RX1, cX1_isTaken, wsX1_isTaken, 2, (some .boolean), { frames := 0, cells := 0, slots := 0, locals := 0 })
theorem YX1_isTaken : zs_Y mX1_isTaken yX1_isTaken 1 := ⟨⟨_, rfl⟩, rfl, by decide +kernel, ⟨by decide +kernel, by decide +kernel, by decide +kernel⟩, rfl, rfl⟩
set_option maxRecDepth 20000 in
theorem nX1_isTaken_X1 : ∀ w ∈ u_ws RX1 TX1 6, w ∈ mX1_isTaken.2.2.1 := by decide +kernel
set_option maxRecDepth 20000 in
theorem fX1_isTaken_9 : Cond.fieldLink mX1_isTaken.1 9 (TX1 0).1 (TX1 0).2.1 (TX1 0).2.2.1 ∈ mX1_isTaken.2.2.1 := by decide +kernel
def mX1_stateAt : zs_M := (RX1, cX1_stateAt, wsX1_stateAt, 2, (some .int), { frames := 0, cells := 0, slots := 0, locals := 0 })
theorem YX1_stateAt : zs_Y mX1_stateAt yX1_stateAt 1 := ⟨⟨_, rfl⟩, rfl, by decide +kernel, ⟨by decide +kernel, by decide +kernel, by decide +kernel⟩, rfl, rfl⟩
set_option maxRecDepth 20000 in
theorem nX1_stateAt_X1 : ∀ w ∈ u_ws RX1 TX1 6, w ∈ mX1_stateAt.2.2.1 := by decide +kernel
set_option maxRecDepth 20000 in
theorem fX1_stateAt_9 : Cond.fieldLink mX1_stateAt.1 9 (TX1 0).1 (TX1 0).2.1 (TX1 0).2.2.1 ∈ mX1_stateAt.2.2.1 := by decide +kernel
def mX1_keyAt : zs_M := (RX1, cX1_keyAt, wsX1_keyAt, 2, (some .int), { frames := 0, cells := 0, slots := 0, locals := 0 })
theorem YX1_keyAt : zs_Y mX1_keyAt yX1_keyAt 1 := ⟨⟨_, rfl⟩, rfl, by decide +kernel, ⟨by decide +kernel, by decide +kernel, by decide +kernel⟩, rfl, rfl⟩
set_option maxRecDepth 20000 in
theorem nX1_keyAt_X1 : ∀ w ∈ u_ws RX1 TX1 6, w ∈ mX1_keyAt.2.2.1 := by decide +kernel
set_option maxRecDepth 20000 in
theorem fX1_keyAt_9 : Cond.fieldLink mX1_keyAt.1 9 (TX1 0).1 (TX1 0).2.1 (TX1 0).2.2.1 ∈ mX1_keyAt.2.2.1 := by decide +kernel
def mX1_memberAt : zs_M := (RX1, cX1_memberAt, wsX1_memberAt, 2, (some .int), { frames := 0, cells := 0, slots := 0, locals := 0 })
theorem YX1_memberAt : zs_Y mX1_memberAt yX1_memberAt 1 := ⟨⟨_, rfl⟩, rfl, by decide +kernel, ⟨by decide +kernel, by decide +kernel, by decide +kernel⟩, rfl, rfl⟩
set_option maxRecDepth 20000 in
theorem nX1_memberAt_X1 : ∀ w ∈ u_ws RX1 TX1 6, w ∈ mX1_memberAt.2.2.1 := by decide +kernel
set_option maxRecDepth 20000 in
theorem fX1_memberAt_9 : Cond.fieldLink mX1_memberAt.1 9 (TX1 0).1 (TX1 0).2.1 (TX1 0).2.2.1 ∈ mX1_memberAt.2.2.1 := by decide +kernel
def mX1_leastFree : zs_M := (RX1, cX1_leastFree, wsX1_leastFree, 2, (some .int), { frames := 1, cells := 0, slots := 0, locals := 40 })
theorem YX1_leastFree : zs_Y mX1_leastFree yX1_leastFree 0 := ⟨⟨_, rfl⟩, rfl, by decide +kernel, ⟨by decide +kernel, by decide +kernel, by decide +kernel⟩, rfl, rfl⟩
def mX1_take : zs_M := (RX1, cX1_take, wsX1_take, 4, none, { frames := 0, cells := 0, slots := 0, locals := 0 })
theorem YX1_take : zs_Y mX1_take yX1_take 2 := ⟨⟨_, rfl⟩, rfl, by decide +kernel, ⟨by decide +kernel, by decide +kernel, by decide +kernel⟩, rfl, rfl⟩
set_option maxRecDepth 20000 in
theorem nX1_take_X1 : ∀ w ∈ u_ws RX1 TX1 6, w ∈ mX1_take.2.2.1 := by decide +kernel
set_option maxRecDepth 20000 in
theorem fX1_take_9 : Cond.fieldLink mX1_take.1 9 (TX1 0).1 (TX1 0).2.1 (TX1 0).2.2.1 ∈ mX1_take.2.2.1 := by decide +kernel
set_option maxRecDepth 20000 in
theorem fX1_take_27 : Cond.fieldLink mX1_take.1 27 (TX1 5).1 (TX1 5).2.1 (TX1 5).2.2.1 ∈ mX1_take.2.2.1 := by decide +kernel
set_option maxRecDepth 20000 in
theorem fX1_take_24 : Cond.fieldLink mX1_take.1 24 (TX1 4).1 (TX1 4).2.1 (TX1 4).2.2.1 ∈ mX1_take.2.2.1 := by decide +kernel
def mX1_vacate : zs_M := (RX1, cX1_vacate, wsX1_vacate, 4, none, { frames := 0, cells := 0, slots := 0, locals := 0 })
theorem YX1_vacate : zs_Y mX1_vacate yX1_vacate 1 := ⟨⟨_, rfl⟩, rfl, by decide +kernel, ⟨by decide +kernel, by decide +kernel, by decide +kernel⟩, rfl, rfl⟩
set_option maxRecDepth 20000 in
theorem nX1_vacate_X1 : ∀ w ∈ u_ws RX1 TX1 6, w ∈ mX1_vacate.2.2.1 := by decide +kernel
set_option maxRecDepth 20000 in
theorem fX1_vacate_9 : Cond.fieldLink mX1_vacate.1 9 (TX1 0).1 (TX1 0).2.1 (TX1 0).2.2.1 ∈ mX1_vacate.2.2.1 := by decide +kernel
set_option maxRecDepth 20000 in
theorem fX1_vacate_27 : Cond.fieldLink mX1_vacate.1 27 (TX1 5).1 (TX1 5).2.1 (TX1 5).2.2.1 ∈ mX1_vacate.2.2.1 := by decide +kernel
set_option maxRecDepth 20000 in
theorem fX1_vacate_24 : Cond.fieldLink mX1_vacate.1 24 (TX1 4).1 (TX1 4).2.1 (TX1 4).2.2.1 ∈ mX1_vacate.2.2.1 := by decide +kernel
def mX1_vacateAll : zs_M := (RX1, cX1_vacateAll, wsX1_vacateAll, 1, none, { frames := 1, cells := 0, slots := 0, locals := 40 })
theorem YX1_vacateAll : zs_Y mX1_vacateAll yX1_vacateAll 0 := ⟨⟨_, rfl⟩, rfl, by decide +kernel, ⟨by decide +kernel, by decide +kernel, by decide +kernel⟩, rfl, rfl⟩
set_option maxRecDepth 20000 in
theorem nX1_vacateAll_X1 : ∀ w ∈ u_ws RX1 TX1 6, w ∈ mX1_vacateAll.2.2.1 := by decide +kernel
set_option maxRecDepth 20000 in
theorem fX1_vacateAll_9 : Cond.fieldLink mX1_vacateAll.1 9 (TX1 0).1 (TX1 0).2.1 (TX1 0).2.2.1 ∈ mX1_vacateAll.2.2.1 := by decide +kernel
set_option maxRecDepth 20000 in
theorem fX1_vacateAll_27 : Cond.fieldLink mX1_vacateAll.1 27 (TX1 5).1 (TX1 5).2.1 (TX1 5).2.2.1 ∈ mX1_vacateAll.2.2.1 := by decide +kernel
def mX2_indexOf : zs_M := (RX2, cX2_indexOf, wsX2_indexOf, 2, (some .int), { frames := 0, cells := 0, slots := 0, locals := 0 })
theorem YX2_indexOf : zs_Y mX2_indexOf yX2_indexOf 1 := ⟨⟨_, rfl⟩, rfl, by decide +kernel, ⟨by decide +kernel, by decide +kernel, by decide +kernel⟩, rfl, rfl⟩
set_option maxRecDepth 20000 in
theorem nX2_indexOf_X2 : ∀ w ∈ u_ws RX2 TX2 4, w ∈ mX2_indexOf.2.2.1 := by decide +kernel
set_option maxRecDepth 20000 in
theorem fX2_indexOf_15 : Cond.fieldLink mX2_indexOf.1 15 (TX2 1).1 (TX2 1).2.1 (TX2 1).2.2.1 ∈ mX2_indexOf.2.2.1 := by decide +kernel
def mX2_begin : zs_M := (RX2, cX2_begin, wsX2_begin, 1, (some .int), { frames := 1, cells := 0, slots := 0, locals := 40 })
theorem YX2_begin : zs_Y mX2_begin yX2_begin 0 := ⟨⟨_, rfl⟩, rfl, by decide +kernel, ⟨by decide +kernel, by decide +kernel, by decide +kernel⟩, rfl, rfl⟩
set_option maxRecDepth 20000 in
theorem nX2_begin_X2 : ∀ w ∈ u_ws RX2 TX2 4, w ∈ mX2_begin.2.2.1 := by decide +kernel
set_option maxRecDepth 20000 in
theorem fX2_begin_19 : Cond.fieldLink mX2_begin.1 19 (TX2 2).1 (TX2 2).2.1 (TX2 2).2.2.1 ∈ mX2_begin.2.2.1 := by decide +kernel
set_option maxRecDepth 20000 in
theorem fX2_begin_15 : Cond.fieldLink mX2_begin.1 15 (TX2 1).1 (TX2 1).2.1 (TX2 1).2.2.1 ∈ mX2_begin.2.2.1 := by decide +kernel
set_option maxRecDepth 20000 in
theorem fX2_begin_22 : Cond.fieldLink mX2_begin.1 22 (TX2 3).1 (TX2 3).2.1 (TX2 3).2.2.1 ∈ mX2_begin.2.2.1 := by decide +kernel
def mX2_cell : zs_M := (RX2, cX2_cell, wsX2_cell, 3, (some .int), { frames := 1, cells := 0, slots := 0, locals := 40 })
theorem YX2_cell : zs_Y mX2_cell yX2_cell 2 := ⟨⟨_, rfl⟩, rfl, by decide +kernel, ⟨by decide +kernel, by decide +kernel, by decide +kernel⟩, rfl, rfl⟩
set_option maxRecDepth 20000 in
theorem nX2_cell_X2 : ∀ w ∈ u_ws RX2 TX2 4, w ∈ mX2_cell.2.2.1 := by decide +kernel
set_option maxRecDepth 20000 in
theorem fX2_cell_9 : Cond.fieldLink mX2_cell.1 9 (TX2 0).1 (TX2 0).2.1 (TX2 0).2.2.1 ∈ mX2_cell.2.2.1 := by decide +kernel
def mX3_make : zs_M := (RX3, cX3_make, wsX3_make, 6, (some .int), { frames := 0, cells := 0, slots := 0, locals := 0 })
theorem YX3_make : zs_Y mX3_make yX3_make 4 := ⟨⟨_, rfl⟩, rfl, by decide +kernel, ⟨by decide +kernel, by decide +kernel, by decide +kernel⟩, rfl, rfl⟩
set_option maxRecDepth 20000 in
theorem nX3_make_X3 : ∀ w ∈ u_ws RX3 TX3 6, w ∈ mX3_make.2.2.1 := by decide +kernel
set_option maxRecDepth 20000 in
theorem fX3_make_27 : Cond.fieldLink mX3_make.1 27 (TX3 5).1 (TX3 5).2.1 (TX3 5).2.2.1 ∈ mX3_make.2.2.1 := by decide +kernel
set_option maxRecDepth 20000 in
theorem fX3_make_9 : Cond.fieldLink mX3_make.1 9 (TX3 0).1 (TX3 0).2.1 (TX3 0).2.2.1 ∈ mX3_make.2.2.1 := by decide +kernel
set_option maxRecDepth 20000 in
theorem fX3_make_15 : Cond.fieldLink mX3_make.1 15 (TX3 1).1 (TX3 1).2.1 (TX3 1).2.2.1 ∈ mX3_make.2.2.1 := by decide +kernel
set_option maxRecDepth 20000 in
theorem fX3_make_18 : Cond.fieldLink mX3_make.1 18 (TX3 2).1 (TX3 2).2.1 (TX3 2).2.2.1 ∈ mX3_make.2.2.1 := by decide +kernel
set_option maxRecDepth 20000 in
theorem fX3_make_21 : Cond.fieldLink mX3_make.1 21 (TX3 3).1 (TX3 3).2.1 (TX3 3).2.2.1 ∈ mX3_make.2.2.1 := by decide +kernel
def mX3_has : zs_M := (RX3, cX3_has, wsX3_has, 2, (some .boolean), { frames := 0, cells := 0, slots := 0, locals := 0 })
theorem YX3_has : zs_Y mX3_has yX3_has 1 := ⟨⟨_, rfl⟩, rfl, by decide +kernel, ⟨by decide +kernel, by decide +kernel, by decide +kernel⟩, rfl, rfl⟩
set_option maxRecDepth 20000 in
theorem nX3_has_X3 : ∀ w ∈ u_ws RX3 TX3 6, w ∈ mX3_has.2.2.1 := by decide +kernel
set_option maxRecDepth 20000 in
theorem fX3_has_27 : Cond.fieldLink mX3_has.1 27 (TX3 5).1 (TX3 5).2.1 (TX3 5).2.2.1 ∈ mX3_has.2.2.1 := by decide +kernel
def mX3_isList : zs_M := (RX3, cX3_isList, wsX3_isList, 2, (some .boolean), { frames := 0, cells := 0, slots := 0, locals := 0 })
theorem YX3_isList : zs_Y mX3_isList yX3_isList 1 := ⟨⟨_, rfl⟩, rfl, by decide +kernel, ⟨by decide +kernel, by decide +kernel, by decide +kernel⟩, rfl, rfl⟩
set_option maxRecDepth 20000 in
theorem nX3_isList_X3 : ∀ w ∈ u_ws RX3 TX3 6, w ∈ mX3_isList.2.2.1 := by decide +kernel
set_option maxRecDepth 20000 in
theorem fX3_isList_9 : Cond.fieldLink mX3_isList.1 9 (TX3 0).1 (TX3 0).2.1 (TX3 0).2.2.1 ∈ mX3_isList.2.2.1 := by decide +kernel
def mX3_isStampedByReads : zs_M := (RX3, cX3_isStampedByReads, wsX3_isStampedByReads, 2, (some .boolean), { frames := 0, cells := 0, slots := 0, locals := 0 })
theorem YX3_isStampedByReads : zs_Y mX3_isStampedByReads yX3_isStampedByReads 1 := ⟨⟨_, rfl⟩, rfl, by decide +kernel, ⟨by decide +kernel, by decide +kernel, by decide +kernel⟩, rfl, rfl⟩
set_option maxRecDepth 20000 in
theorem nX3_isStampedByReads_X3 : ∀ w ∈ u_ws RX3 TX3 6, w ∈ mX3_isStampedByReads.2.2.1 := by decide +kernel
set_option maxRecDepth 20000 in
theorem fX3_isStampedByReads_21 : Cond.fieldLink mX3_isStampedByReads.1 21 (TX3 3).1 (TX3 3).2.1 (TX3 3).2.2.1 ∈ mX3_isStampedByReads.2.2.1 := by decide +kernel
def mX3_timeOf : zs_M := (RX3, cX3_timeOf, wsX3_timeOf, 2, (some .int), { frames := 0, cells := 0, slots := 0, locals := 0 })
theorem YX3_timeOf : zs_Y mX3_timeOf yX3_timeOf 1 := ⟨⟨_, rfl⟩, rfl, by decide +kernel, ⟨by decide +kernel, by decide +kernel, by decide +kernel⟩, rfl, rfl⟩
set_option maxRecDepth 20000 in
theorem nX3_timeOf_X3 : ∀ w ∈ u_ws RX3 TX3 6, w ∈ mX3_timeOf.2.2.1 := by decide +kernel
set_option maxRecDepth 20000 in
theorem fX3_timeOf_24 : Cond.fieldLink mX3_timeOf.1 24 (TX3 4).1 (TX3 4).2.1 (TX3 4).2.2.1 ∈ mX3_timeOf.2.2.1 := by decide +kernel
set_option maxRecDepth 20000 in
theorem fX3_timeOf_15 : Cond.fieldLink mX3_timeOf.1 15 (TX3 1).1 (TX3 1).2.1 (TX3 1).2.2.1 ∈ mX3_timeOf.2.2.1 := by decide +kernel
def mX4_isZeroOrOne : zs_M := (RX4, cX4_isZeroOrOne, wsX4_isZeroOrOne, 1, (some .boolean), { frames := 0, cells := 0, slots := 0, locals := 0 })
theorem YX4_isZeroOrOne : zs_Y mX4_isZeroOrOne yX4_isZeroOrOne 1 := ⟨⟨_, rfl⟩, rfl, by decide +kernel, ⟨by decide +kernel, by decide +kernel, by decide +kernel⟩, rfl, rfl⟩
def mX4_isSpan : zs_M := (RX4, cX4_isSpan, wsX4_isSpan, 1, (some .boolean), { frames := 0, cells := 0, slots := 0, locals := 0 })
theorem YX4_isSpan : zs_Y mX4_isSpan yX4_isSpan 1 := ⟨⟨_, rfl⟩, rfl, by decide +kernel, ⟨by decide +kernel, by decide +kernel, by decide +kernel⟩, rfl, rfl⟩
set_option maxRecDepth 20000 in
theorem kX4_isSpan_118 : Cond.constant mX4_isSpan.1 118 (100000) ∈ mX4_isSpan.2.2.1 := by decide +kernel
def mX4_state : zs_M := (RX4, cX4_state, wsX4_state, 5, (some .int), { frames := 1, cells := 0, slots := 0, locals := 40 })
theorem YX4_state : zs_Y mX4_state yX4_state 4 := ⟨⟨_, rfl⟩, rfl, by decide +kernel, ⟨by decide +kernel, by decide +kernel, by decide +kernel⟩, rfl, rfl⟩
set_option maxRecDepth 20000 in
theorem nX4_state_X4 : ∀ w ∈ u_ws RX4 TX4 5, w ∈ mX4_state.2.2.1 := by decide +kernel
set_option maxRecDepth 20000 in
theorem fX4_state_12 : Cond.fieldLink mX4_state.1 12 (TX4 0).1 (TX4 0).2.1 (TX4 0).2.2.1 ∈ mX4_state.2.2.1 := by decide +kernel
set_option maxRecDepth 20000 in
theorem nX4_state_X3 : ∀ w ∈ u_ws RX3 TX3 6, w ∈ mX4_state.2.2.1 := by decide +kernel
set_option maxRecDepth 20000 in
theorem fX4_state_48 : Cond.fieldLink mX4_state.1 48 (TX3 5).1 (TX3 5).2.1 (TX3 5).2.2.1 ∈ mX4_state.2.2.1 := by decide +kernel
def mX4_isStateAndKey : zs_M := (RX4, cX4_isStateAndKey, wsX4_isStateAndKey, 3, (some .boolean), { frames := 1, cells := 0, slots := 0, locals := 40 })
theorem YX4_isStateAndKey : zs_Y mX4_isStateAndKey yX4_isStateAndKey 2 := ⟨⟨_, rfl⟩, rfl, by decide +kernel, ⟨by decide +kernel, by decide +kernel, by decide +kernel⟩, rfl, rfl⟩
set_option maxRecDepth 20000 in
theorem nX4_isStateAndKey_X4 : ∀ w ∈ u_ws RX4 TX4 5, w ∈ mX4_isStateAndKey.2.2.1 := by decide +kernel
set_option maxRecDepth 20000 in
theorem fX4_isStateAndKey_12 : Cond.fieldLink mX4_isStateAndKey.1 12 (TX4 0).1 (TX4 0).2.1 (TX4 0).2.2.1 ∈ mX4_isStateAndKey.2.2.1 := by decide +kernel
def mX4_isMember : zs_M := (RX4, cX4_isMember, wsX4_isMember, 1, (some .boolean), { frames := 0, cells := 0, slots := 0, locals := 0 })
theorem YX4_isMember : zs_Y mX4_isMember yX4_isMember 1 := ⟨⟨_, rfl⟩, rfl, by decide +kernel, ⟨by decide +kernel, by decide +kernel, by decide +kernel⟩, rfl, rfl⟩
def mX4_isNumberFor : zs_M := (RX4, cX4_isNumberFor, wsX4_isNumberFor, 4, (some .boolean), { frames := 2, cells := 0, slots := 0, locals := 80 })
theorem YX4_isNumberFor : zs_Y mX4_isNumberFor yX4_isNumberFor 3 := ⟨⟨_, rfl⟩, rfl, by decide +kernel, ⟨by decide +kernel, by decide +kernel, by decide +kernel⟩, rfl, rfl⟩
set_option maxRecDepth 20000 in
theorem nX4_isNumberFor_X4 : ∀ w ∈ u_ws RX4 TX4 5, w ∈ mX4_isNumberFor.2.2.1 := by decide +kernel
set_option maxRecDepth 20000 in
theorem fX4_isNumberFor_12 : Cond.fieldLink mX4_isNumberFor.1 12 (TX4 0).1 (TX4 0).2.1 (TX4 0).2.2.1 ∈ mX4_isNumberFor.2.2.1 := by decide +kernel
def mX4_slotOf : zs_M := (RX4, cX4_slotOf, wsX4_slotOf, 3, (some .int), { frames := 0, cells := 0, slots := 0, locals := 0 })
theorem YX4_slotOf : zs_Y mX4_slotOf yX4_slotOf 3 := ⟨⟨_, rfl⟩, rfl, by decide +kernel, ⟨by decide +kernel, by decide +kernel, by decide +kernel⟩, rfl, rfl⟩
def mX4_leftOf : zs_M := (RX4, cX4_leftOf, wsX4_leftOf, 2, (some .int), { frames := 1, cells := 0, slots := 0, locals := 40 })
theorem YX4_leftOf : zs_Y mX4_leftOf yX4_leftOf 1 := ⟨⟨_, rfl⟩, rfl, by decide +kernel, ⟨by decide +kernel, by decide +kernel, by decide +kernel⟩, rfl, rfl⟩
set_option maxRecDepth 20000 in
theorem nX4_leftOf_X4 : ∀ w ∈ u_ws RX4 TX4 5, w ∈ mX4_leftOf.2.2.1 := by decide +kernel
set_option maxRecDepth 20000 in
theorem fX4_leftOf_19 : Cond.fieldLink mX4_leftOf.1 19 (TX4 1).1 (TX4 1).2.1 (TX4 1).2.2.1 ∈ mX4_leftOf.2.2.1 := by decide +kernel
set_option maxRecDepth 20000 in
theorem nX4_leftOf_X1 : ∀ w ∈ u_ws RX1 TX1 6, w ∈ mX4_leftOf.2.2.1 := by decide +kernel
set_option maxRecDepth 20000 in
theorem fX4_leftOf_187 : Cond.fieldLink mX4_leftOf.1 187 (TX1 3).1 (TX1 3).2.1 (TX1 3).2.2.1 ∈ mX4_leftOf.2.2.1 := by decide +kernel
set_option maxRecDepth 20000 in
theorem fX4_leftOf_12 : Cond.fieldLink mX4_leftOf.1 12 (TX4 0).1 (TX4 0).2.1 (TX4 0).2.2.1 ∈ mX4_leftOf.2.2.1 := by decide +kernel
def mX4_isShown : zs_M := (RX4, cX4_isShown, wsX4_isShown, 2, (some .boolean), { frames := 2, cells := 0, slots := 0, locals := 80 })
theorem YX4_isShown : zs_Y mX4_isShown yX4_isShown 1 := ⟨⟨_, rfl⟩, rfl, by decide +kernel, ⟨by decide +kernel, by decide +kernel, by decide +kernel⟩, rfl, rfl⟩
def mX4_placeOf : zs_M := (RX4, cX4_placeOf, wsX4_placeOf, 7, (some .int), { frames := 3, cells := 0, slots := 0, locals := 120 })
theorem YX4_placeOf : zs_Y mX4_placeOf yX4_placeOf 3 := ⟨⟨_, rfl⟩, rfl, by decide +kernel, ⟨by decide +kernel, by decide +kernel, by decide +kernel⟩, rfl, rfl⟩
set_option maxRecDepth 20000 in
theorem nX4_placeOf_X4 : ∀ w ∈ u_ws RX4 TX4 5, w ∈ mX4_placeOf.2.2.1 := by decide +kernel
set_option maxRecDepth 20000 in
theorem fX4_placeOf_19 : Cond.fieldLink mX4_placeOf.1 19 (TX4 1).1 (TX4 1).2.1 (TX4 1).2.2.1 ∈ mX4_placeOf.2.2.1 := by decide +kernel
set_option maxRecDepth 20000 in
theorem nX4_placeOf_X1 : ∀ w ∈ u_ws RX1 TX1 6, w ∈ mX4_placeOf.2.2.1 := by decide +kernel
set_option maxRecDepth 20000 in
theorem fX4_placeOf_142 : Cond.fieldLink mX4_placeOf.1 142 (TX1 5).1 (TX1 5).2.1 (TX1 5).2.2.1 ∈ mX4_placeOf.2.2.1 := by decide +kernel
set_option maxRecDepth 20000 in
theorem fX4_placeOf_145 : Cond.fieldLink mX4_placeOf.1 145 (TX1 4).1 (TX1 4).2.1 (TX1 4).2.2.1 ∈ mX4_placeOf.2.2.1 := by decide +kernel
set_option maxRecDepth 20000 in
theorem fX4_placeOf_148 : Cond.fieldLink mX4_placeOf.1 148 (TX1 0).1 (TX1 0).2.1 (TX1 0).2.2.1 ∈ mX4_placeOf.2.2.1 := by decide +kernel
def mX4_stamp : zs_M := (RX4, cX4_stamp, wsX4_stamp, 4, none, { frames := 1, cells := 0, slots := 0, locals := 40 })
theorem YX4_stamp : zs_Y mX4_stamp yX4_stamp 2 := ⟨⟨_, rfl⟩, rfl, by decide +kernel, ⟨by decide +kernel, by decide +kernel, by decide +kernel⟩, rfl, rfl⟩
set_option maxRecDepth 20000 in
theorem nX4_stamp_X4 : ∀ w ∈ u_ws RX4 TX4 5, w ∈ mX4_stamp.2.2.1 := by decide +kernel
set_option maxRecDepth 20000 in
theorem fX4_stamp_12 : Cond.fieldLink mX4_stamp.1 12 (TX4 0).1 (TX4 0).2.1 (TX4 0).2.2.1 ∈ mX4_stamp.2.2.1 := by decide +kernel
set_option maxRecDepth 20000 in
theorem fX4_stamp_19 : Cond.fieldLink mX4_stamp.1 19 (TX4 1).1 (TX4 1).2.1 (TX4 1).2.2.1 ∈ mX4_stamp.2.2.1 := by decide +kernel
set_option maxRecDepth 20000 in
theorem nX4_stamp_X1 : ∀ w ∈ u_ws RX1 TX1 6, w ∈ mX4_stamp.2.2.1 := by decide +kernel
set_option maxRecDepth 20000 in
theorem fX4_stamp_212 : Cond.fieldLink mX4_stamp.1 212 (TX1 2).1 (TX1 2).2.1 (TX1 2).2.2.1 ∈ mX4_stamp.2.2.1 := by decide +kernel
set_option maxRecDepth 20000 in
theorem fX4_stamp_187 : Cond.fieldLink mX4_stamp.1 187 (TX1 3).1 (TX1 3).2.1 (TX1 3).2.2.1 ∈ mX4_stamp.2.2.1 := by decide +kernel
def mX4_write : zs_M := (RX4, cX4_write, wsX4_write, 3, none, { frames := 2, cells := 0, slots := 0, locals := 80 })
theorem YX4_write : zs_Y mX4_write yX4_write 2 := ⟨⟨_, rfl⟩, rfl, by decide +kernel, ⟨by decide +kernel, by decide +kernel, by decide +kernel⟩, rfl, rfl⟩
set_option maxRecDepth 20000 in
theorem nX4_write_X4 : ∀ w ∈ u_ws RX4 TX4 5, w ∈ mX4_write.2.2.1 := by decide +kernel
set_option maxRecDepth 20000 in
theorem fX4_write_19 : Cond.fieldLink mX4_write.1 19 (TX4 1).1 (TX4 1).2.1 (TX4 1).2.2.1 ∈ mX4_write.2.2.1 := by decide +kernel
set_option maxRecDepth 20000 in
theorem nX4_write_X1 : ∀ w ∈ u_ws RX1 TX1 6, w ∈ mX4_write.2.2.1 := by decide +kernel
set_option maxRecDepth 20000 in
theorem fX4_write_151 : Cond.fieldLink mX4_write.1 151 (TX1 1).1 (TX1 1).2.1 (TX1 1).2.2.1 ∈ mX4_write.2.2.1 := by decide +kernel
set_option maxRecDepth 20000 in
theorem fX4_write_12 : Cond.fieldLink mX4_write.1 12 (TX4 0).1 (TX4 0).2.1 (TX4 0).2.2.1 ∈ mX4_write.2.2.1 := by decide +kernel
set_option maxRecDepth 20000 in
theorem nX4_write_X3 : ∀ w ∈ u_ws RX3 TX3 6, w ∈ mX4_write.2.2.1 := by decide +kernel
set_option maxRecDepth 20000 in
theorem fX4_write_130 : Cond.fieldLink mX4_write.1 130 (TX3 2).1 (TX3 2).2.1 (TX3 2).2.2.1 ∈ mX4_write.2.2.1 := by decide +kernel
def mX4_bring : zs_M := (RX4, cX4_bring, wsX4_bring, 4, (some .boolean), { frames := 3, cells := 0, slots := 0, locals := 120 })
theorem YX4_bring : zs_Y mX4_bring yX4_bring 2 := ⟨⟨_, rfl⟩, rfl, by decide +kernel, ⟨by decide +kernel, by decide +kernel, by decide +kernel⟩, rfl, rfl⟩
set_option maxRecDepth 20000 in
theorem nX4_bring_X4 : ∀ w ∈ u_ws RX4 TX4 5, w ∈ mX4_bring.2.2.1 := by decide +kernel
set_option maxRecDepth 20000 in
theorem fX4_bring_19 : Cond.fieldLink mX4_bring.1 19 (TX4 1).1 (TX4 1).2.1 (TX4 1).2.2.1 ∈ mX4_bring.2.2.1 := by decide +kernel
def mX4_tell : zs_M := (RX4, cX4_tell, wsX4_tell, 3, none, { frames := 2, cells := 0, slots := 0, locals := 80 })
theorem YX4_tell : zs_Y mX4_tell yX4_tell 1 := ⟨⟨_, rfl⟩, rfl, by decide +kernel, ⟨by decide +kernel, by decide +kernel, by decide +kernel⟩, rfl, rfl⟩
set_option maxRecDepth 20000 in
theorem nX4_tell_X4 : ∀ w ∈ u_ws RX4 TX4 5, w ∈ mX4_tell.2.2.1 := by decide +kernel
set_option maxRecDepth 20000 in
theorem fX4_tell_26 : Cond.fieldLink mX4_tell.1 26 (TX4 2).1 (TX4 2).2.1 (TX4 2).2.2.1 ∈ mX4_tell.2.2.1 := by decide +kernel
set_option maxRecDepth 20000 in
theorem nX4_tell_X2 : ∀ w ∈ u_ws RX2 TX2 4, w ∈ mX4_tell.2.2.1 := by decide +kernel
set_option maxRecDepth 20000 in
theorem fX4_tell_220 : Cond.fieldLink mX4_tell.1 220 (TX2 0).1 (TX2 0).2.1 (TX2 0).2.2.1 ∈ mX4_tell.2.2.1 := by decide +kernel
set_option maxRecDepth 20000 in
theorem fX4_tell_19 : Cond.fieldLink mX4_tell.1 19 (TX4 1).1 (TX4 1).2.1 (TX4 1).2.2.1 ∈ mX4_tell.2.2.1 := by decide +kernel
set_option maxRecDepth 20000 in
theorem nX4_tell_X1 : ∀ w ∈ u_ws RX1 TX1 6, w ∈ mX4_tell.2.2.1 := by decide +kernel
set_option maxRecDepth 20000 in
theorem fX4_tell_151 : Cond.fieldLink mX4_tell.1 151 (TX1 1).1 (TX1 1).2.1 (TX1 1).2.2.1 ∈ mX4_tell.2.2.1 := by decide +kernel
set_option maxRecDepth 20000 in
theorem fX4_tell_187 : Cond.fieldLink mX4_tell.1 187 (TX1 3).1 (TX1 3).2.1 (TX1 3).2.2.1 ∈ mX4_tell.2.2.1 := by decide +kernel
set_option maxRecDepth 20000 in
theorem fX4_tell_12 : Cond.fieldLink mX4_tell.1 12 (TX4 0).1 (TX4 0).2.1 (TX4 0).2.2.1 ∈ mX4_tell.2.2.1 := by decide +kernel
set_option maxRecDepth 20000 in
theorem nX4_tell_X3 : ∀ w ∈ u_ws RX3 TX3 6, w ∈ mX4_tell.2.2.1 := by decide +kernel
set_option maxRecDepth 20000 in
theorem fX4_tell_119 : Cond.fieldLink mX4_tell.1 119 (TX3 4).1 (TX3 4).2.1 (TX3 4).2.2.1 ∈ mX4_tell.2.2.1 := by decide +kernel
def mX4_put : zs_M := (RX4, cX4_put, wsX4_put, 8, (some .int), { frames := 4, cells := 0, slots := 0, locals := 160 })
theorem YX4_put : zs_Y mX4_put yX4_put 4 := ⟨⟨_, rfl⟩, rfl, by decide +kernel, ⟨by decide +kernel, by decide +kernel, by decide +kernel⟩, rfl, rfl⟩
def mX4_read : zs_M := (RX4, cX4_read, wsX4_read, 3, (some .int), { frames := 2, cells := 0, slots := 0, locals := 80 })
theorem YX4_read : zs_Y mX4_read yX4_read 1 := ⟨⟨_, rfl⟩, rfl, by decide +kernel, ⟨by decide +kernel, by decide +kernel, by decide +kernel⟩, rfl, rfl⟩
set_option maxRecDepth 20000 in
theorem kX4_read_114 : Cond.constant mX4_read.1 114 (-99999999) ∈ mX4_read.2.2.1 := by decide +kernel
set_option maxRecDepth 20000 in
theorem nX4_read_X4 : ∀ w ∈ u_ws RX4 TX4 5, w ∈ mX4_read.2.2.1 := by decide +kernel
set_option maxRecDepth 20000 in
theorem fX4_read_19 : Cond.fieldLink mX4_read.1 19 (TX4 1).1 (TX4 1).2.1 (TX4 1).2.2.1 ∈ mX4_read.2.2.1 := by decide +kernel
set_option maxRecDepth 20000 in
theorem fX4_read_12 : Cond.fieldLink mX4_read.1 12 (TX4 0).1 (TX4 0).2.1 (TX4 0).2.2.1 ∈ mX4_read.2.2.1 := by decide +kernel
set_option maxRecDepth 20000 in
theorem nX4_read_X3 : ∀ w ∈ u_ws RX3 TX3 6, w ∈ mX4_read.2.2.1 := by decide +kernel
set_option maxRecDepth 20000 in
theorem fX4_read_130 : Cond.fieldLink mX4_read.1 130 (TX3 2).1 (TX3 2).2.1 (TX3 2).2.2.1 ∈ mX4_read.2.2.1 := by decide +kernel
set_option maxRecDepth 20000 in
theorem nX4_read_X1 : ∀ w ∈ u_ws RX1 TX1 6, w ∈ mX4_read.2.2.1 := by decide +kernel
set_option maxRecDepth 20000 in
theorem fX4_read_151 : Cond.fieldLink mX4_read.1 151 (TX1 1).1 (TX1 1).2.1 (TX1 1).2.2.1 ∈ mX4_read.2.2.1 := by decide +kernel
def mX4_get : zs_M := (RX4, cX4_get, wsX4_get, 4, (some .int), { frames := 4, cells := 0, slots := 0, locals := 160 })
theorem YX4_get : zs_Y mX4_get yX4_get 3 := ⟨⟨_, rfl⟩, rfl, by decide +kernel, ⟨by decide +kernel, by decide +kernel, by decide +kernel⟩, rfl, rfl⟩
def mX4_remove : zs_M := (RX4, cX4_remove, wsX4_remove, 6, (some .int), { frames := 4, cells := 0, slots := 0, locals := 160 })
theorem YX4_remove : zs_Y mX4_remove yX4_remove 3 := ⟨⟨_, rfl⟩, rfl, by decide +kernel, ⟨by decide +kernel, by decide +kernel, by decide +kernel⟩, rfl, rfl⟩
set_option maxRecDepth 20000 in
theorem nX4_remove_X4 : ∀ w ∈ u_ws RX4 TX4 5, w ∈ mX4_remove.2.2.1 := by decide +kernel
set_option maxRecDepth 20000 in
theorem fX4_remove_19 : Cond.fieldLink mX4_remove.1 19 (TX4 1).1 (TX4 1).2.1 (TX4 1).2.2.1 ∈ mX4_remove.2.2.1 := by decide +kernel
def mX4_isListFor : zs_M := (RX4, cX4_isListFor, wsX4_isListFor, 3, (some .boolean), { frames := 2, cells := 0, slots := 0, locals := 80 })
theorem YX4_isListFor : zs_Y mX4_isListFor yX4_isListFor 2 := ⟨⟨_, rfl⟩, rfl, by decide +kernel, ⟨by decide +kernel, by decide +kernel, by decide +kernel⟩, rfl, rfl⟩
set_option maxRecDepth 20000 in
theorem nX4_isListFor_X4 : ∀ w ∈ u_ws RX4 TX4 5, w ∈ mX4_isListFor.2.2.1 := by decide +kernel
set_option maxRecDepth 20000 in
theorem fX4_isListFor_12 : Cond.fieldLink mX4_isListFor.1 12 (TX4 0).1 (TX4 0).2.1 (TX4 0).2.2.1 ∈ mX4_isListFor.2.2.1 := by decide +kernel
def mX4_isOfKey : zs_M := (RX4, cX4_isOfKey, wsX4_isOfKey, 4, (some .boolean), { frames := 1, cells := 0, slots := 0, locals := 40 })
theorem YX4_isOfKey : zs_Y mX4_isOfKey yX4_isOfKey 3 := ⟨⟨_, rfl⟩, rfl, by decide +kernel, ⟨by decide +kernel, by decide +kernel, by decide +kernel⟩, rfl, rfl⟩
set_option maxRecDepth 20000 in
theorem nX4_isOfKey_X4 : ∀ w ∈ u_ws RX4 TX4 5, w ∈ mX4_isOfKey.2.2.1 := by decide +kernel
set_option maxRecDepth 20000 in
theorem fX4_isOfKey_19 : Cond.fieldLink mX4_isOfKey.1 19 (TX4 1).1 (TX4 1).2.1 (TX4 1).2.2.1 ∈ mX4_isOfKey.2.2.1 := by decide +kernel
def mX4_howMany : zs_M := (RX4, cX4_howMany, wsX4_howMany, 7, (some .int), { frames := 3, cells := 0, slots := 0, locals := 120 })
theorem YX4_howMany : zs_Y mX4_howMany yX4_howMany 3 := ⟨⟨_, rfl⟩, rfl, by decide +kernel, ⟨by decide +kernel, by decide +kernel, by decide +kernel⟩, rfl, rfl⟩
set_option maxRecDepth 20000 in
theorem nX4_howMany_X4 : ∀ w ∈ u_ws RX4 TX4 5, w ∈ mX4_howMany.2.2.1 := by decide +kernel
set_option maxRecDepth 20000 in
theorem fX4_howMany_19 : Cond.fieldLink mX4_howMany.1 19 (TX4 1).1 (TX4 1).2.1 (TX4 1).2.2.1 ∈ mX4_howMany.2.2.1 := by decide +kernel
set_option maxRecDepth 20000 in
theorem nX4_howMany_X1 : ∀ w ∈ u_ws RX1 TX1 6, w ∈ mX4_howMany.2.2.1 := by decide +kernel
set_option maxRecDepth 20000 in
theorem fX4_howMany_142 : Cond.fieldLink mX4_howMany.1 142 (TX1 5).1 (TX1 5).2.1 (TX1 5).2.2.1 ∈ mX4_howMany.2.2.1 := by decide +kernel
set_option maxRecDepth 20000 in
theorem fX4_howMany_145 : Cond.fieldLink mX4_howMany.1 145 (TX1 4).1 (TX1 4).2.1 (TX1 4).2.2.1 ∈ mX4_howMany.2.2.1 := by decide +kernel
def mX4_add : zs_M := (RX4, cX4_add, wsX4_add, 4, (some .int), { frames := 4, cells := 0, slots := 0, locals := 160 })
theorem YX4_add : zs_Y mX4_add yX4_add 3 := ⟨⟨_, rfl⟩, rfl, by decide +kernel, ⟨by decide +kernel, by decide +kernel, by decide +kernel⟩, rfl, rfl⟩
def mX4_at : zs_M := (RX4, cX4_at, wsX4_at, 4, (some .int), { frames := 4, cells := 0, slots := 0, locals := 160 })
theorem YX4_at : zs_Y mX4_at yX4_at 3 := ⟨⟨_, rfl⟩, rfl, by decide +kernel, ⟨by decide +kernel, by decide +kernel, by decide +kernel⟩, rfl, rfl⟩
def mX4_clear : zs_M := (RX4, cX4_clear, wsX4_clear, 5, (some .int), { frames := 4, cells := 0, slots := 0, locals := 160 })
theorem YX4_clear : zs_Y mX4_clear yX4_clear 2 := ⟨⟨_, rfl⟩, rfl, by decide +kernel, ⟨by decide +kernel, by decide +kernel, by decide +kernel⟩, rfl, rfl⟩
set_option maxRecDepth 20000 in
theorem nX4_clear_X4 : ∀ w ∈ u_ws RX4 TX4 5, w ∈ mX4_clear.2.2.1 := by decide +kernel
set_option maxRecDepth 20000 in
theorem fX4_clear_19 : Cond.fieldLink mX4_clear.1 19 (TX4 1).1 (TX4 1).2.1 (TX4 1).2.2.1 ∈ mX4_clear.2.2.1 := by decide +kernel
def mX4_held : zs_M := (RX4, cX4_held, wsX4_held, 4, (some .int), { frames := 4, cells := 0, slots := 0, locals := 160 })
theorem YX4_held : zs_Y mX4_held yX4_held 3 := ⟨⟨_, rfl⟩, rfl, by decide +kernel, ⟨by decide +kernel, by decide +kernel, by decide +kernel⟩, rfl, rfl⟩
def mX4_isMemberOrIndexFor : zs_M := (RX4, cX4_isMemberOrIndexFor, wsX4_isMemberOrIndexFor, 4, (some .boolean), { frames := 2, cells := 0, slots := 0, locals := 80 })
theorem YX4_isMemberOrIndexFor : zs_Y mX4_isMemberOrIndexFor yX4_isMemberOrIndexFor 3 := ⟨⟨_, rfl⟩, rfl, by decide +kernel, ⟨by decide +kernel, by decide +kernel, by decide +kernel⟩, rfl, rfl⟩
set_option maxRecDepth 20000 in
theorem nX4_isMemberOrIndexFor_X4 : ∀ w ∈ u_ws RX4 TX4 5, w ∈ mX4_isMemberOrIndexFor.2.2.1 := by decide +kernel
set_option maxRecDepth 20000 in
theorem fX4_isMemberOrIndexFor_12 : Cond.fieldLink mX4_isMemberOrIndexFor.1 12 (TX4 0).1 (TX4 0).2.1 (TX4 0).2.2.1 ∈ mX4_isMemberOrIndexFor.2.2.1 := by decide +kernel
def mX4_slotFor : zs_M := (RX4, cX4_slotFor, wsX4_slotFor, 4, (some .int), { frames := 1, cells := 0, slots := 0, locals := 40 })
theorem YX4_slotFor : zs_Y mX4_slotFor yX4_slotFor 3 := ⟨⟨_, rfl⟩, rfl, by decide +kernel, ⟨by decide +kernel, by decide +kernel, by decide +kernel⟩, rfl, rfl⟩
set_option maxRecDepth 20000 in
theorem nX4_slotFor_X4 : ∀ w ∈ u_ws RX4 TX4 5, w ∈ mX4_slotFor.2.2.1 := by decide +kernel
set_option maxRecDepth 20000 in
theorem fX4_slotFor_12 : Cond.fieldLink mX4_slotFor.1 12 (TX4 0).1 (TX4 0).2.1 (TX4 0).2.2.1 ∈ mX4_slotFor.2.2.1 := by decide +kernel
def mX4_indexFor : zs_M := (RX4, cX4_indexFor, wsX4_indexFor, 3, (some .int), { frames := 1, cells := 0, slots := 0, locals := 40 })
theorem YX4_indexFor : zs_Y mX4_indexFor yX4_indexFor 2 := ⟨⟨_, rfl⟩, rfl, by decide +kernel, ⟨by decide +kernel, by decide +kernel, by decide +kernel⟩, rfl, rfl⟩
set_option maxRecDepth 20000 in
theorem nX4_indexFor_X4 : ∀ w ∈ u_ws RX4 TX4 5, w ∈ mX4_indexFor.2.2.1 := by decide +kernel
set_option maxRecDepth 20000 in
theorem fX4_indexFor_12 : Cond.fieldLink mX4_indexFor.1 12 (TX4 0).1 (TX4 0).2.1 (TX4 0).2.2.1 ∈ mX4_indexFor.2.2.1 := by decide +kernel
def mX4_left : zs_M := (RX4, cX4_left, wsX4_left, 5, (some .int), { frames := 4, cells := 0, slots := 0, locals := 160 })
theorem YX4_left : zs_Y mX4_left yX4_left 3 := ⟨⟨_, rfl⟩, rfl, by decide +kernel, ⟨by decide +kernel, by decide +kernel, by decide +kernel⟩, rfl, rfl⟩
set_option maxRecDepth 20000 in
theorem kX4_left_114 : Cond.constant mX4_left.1 114 (-99999999) ∈ mX4_left.2.2.1 := by decide +kernel
def mX4_howManyShown : zs_M := (RX4, cX4_howManyShown, wsX4_howManyShown, 3, (some .int), { frames := 3, cells := 0, slots := 0, locals := 120 })
theorem YX4_howManyShown : zs_Y mX4_howManyShown yX4_howManyShown 0 := ⟨⟨_, rfl⟩, rfl, by decide +kernel, ⟨by decide +kernel, by decide +kernel, by decide +kernel⟩, rfl, rfl⟩
set_option maxRecDepth 20000 in
theorem nX4_howManyShown_X4 : ∀ w ∈ u_ws RX4 TX4 5, w ∈ mX4_howManyShown.2.2.1 := by decide +kernel
set_option maxRecDepth 20000 in
theorem fX4_howManyShown_19 : Cond.fieldLink mX4_howManyShown.1 19 (TX4 1).1 (TX4 1).2.1 (TX4 1).2.2.1 ∈ mX4_howManyShown.2.2.1 := by decide +kernel
set_option maxRecDepth 20000 in
theorem nX4_howManyShown_X1 : ∀ w ∈ u_ws RX1 TX1 6, w ∈ mX4_howManyShown.2.2.1 := by decide +kernel
set_option maxRecDepth 20000 in
theorem fX4_howManyShown_142 : Cond.fieldLink mX4_howManyShown.1 142 (TX1 5).1 (TX1 5).2.1 (TX1 5).2.2.1 ∈ mX4_howManyShown.2.2.1 := by decide +kernel
set_option maxRecDepth 20000 in
theorem fX4_howManyShown_145 : Cond.fieldLink mX4_howManyShown.1 145 (TX1 4).1 (TX1 4).2.1 (TX1 4).2.2.1 ∈ mX4_howManyShown.2.2.1 := by decide +kernel
def mX4_moveClock : zs_M := (RX4, cX4_moveClock, wsX4_moveClock, 4, (some .int), { frames := 4, cells := 0, slots := 0, locals := 160 })
theorem YX4_moveClock : zs_Y mX4_moveClock yX4_moveClock 2 := ⟨⟨_, rfl⟩, rfl, by decide +kernel, ⟨by decide +kernel, by decide +kernel, by decide +kernel⟩, rfl, rfl⟩
set_option maxRecDepth 20000 in
theorem nX4_moveClock_X4 : ∀ w ∈ u_ws RX4 TX4 5, w ∈ mX4_moveClock.2.2.1 := by decide +kernel
set_option maxRecDepth 20000 in
theorem fX4_moveClock_12 : Cond.fieldLink mX4_moveClock.1 12 (TX4 0).1 (TX4 0).2.1 (TX4 0).2.2.1 ∈ mX4_moveClock.2.2.1 := by decide +kernel
set_option maxRecDepth 20000 in
theorem nX4_moveClock_X3 : ∀ w ∈ u_ws RX3 TX3 6, w ∈ mX4_moveClock.2.2.1 := by decide +kernel
set_option maxRecDepth 20000 in
theorem fX4_moveClock_119 : Cond.fieldLink mX4_moveClock.1 119 (TX3 4).1 (TX3 4).2.1 (TX3 4).2.2.1 ∈ mX4_moveClock.2.2.1 := by decide +kernel
def mX4_tick : zs_M := (RX4, cX4_tick, wsX4_tick, 3, (some .int), { frames := 5, cells := 0, slots := 0, locals := 200 })
theorem YX4_tick : zs_Y mX4_tick yX4_tick 1 := ⟨⟨_, rfl⟩, rfl, by decide +kernel, ⟨by decide +kernel, by decide +kernel, by decide +kernel⟩, rfl, rfl⟩
set_option maxRecDepth 20000 in
theorem kX4_tick_118 : Cond.constant mX4_tick.1 118 (100000) ∈ mX4_tick.2.2.1 := by decide +kernel
set_option maxRecDepth 20000 in
theorem nX4_tick_X4 : ∀ w ∈ u_ws RX4 TX4 5, w ∈ mX4_tick.2.2.1 := by decide +kernel
set_option maxRecDepth 20000 in
theorem fX4_tick_12 : Cond.fieldLink mX4_tick.1 12 (TX4 0).1 (TX4 0).2.1 (TX4 0).2.2.1 ∈ mX4_tick.2.2.1 := by decide +kernel
set_option maxRecDepth 20000 in
theorem nX4_tick_X3 : ∀ w ∈ u_ws RX3 TX3 6, w ∈ mX4_tick.2.2.1 := by decide +kernel
set_option maxRecDepth 20000 in
theorem fX4_tick_119 : Cond.fieldLink mX4_tick.1 119 (TX3 4).1 (TX3 4).2.1 (TX3 4).2.2.1 ∈ mX4_tick.2.2.1 := by decide +kernel
set_option maxRecDepth 20000 in
theorem kX4_tick_123 : Cond.constant mX4_tick.1 123 (1000000000) ∈ mX4_tick.2.2.1 := by decide +kernel
def mX4_watermark : zs_M := (RX4, cX4_watermark, wsX4_watermark, 2, (some .int), { frames := 5, cells := 0, slots := 0, locals := 200 })
theorem YX4_watermark : zs_Y mX4_watermark yX4_watermark 1 := ⟨⟨_, rfl⟩, rfl, by decide +kernel, ⟨by decide +kernel, by decide +kernel, by decide +kernel⟩, rfl, rfl⟩
set_option maxRecDepth 20000 in
theorem kX4_watermark_123 : Cond.constant mX4_watermark.1 123 (1000000000) ∈ mX4_watermark.2.2.1 := by decide +kernel
set_option maxRecDepth 20000 in
theorem nX4_watermark_X4 : ∀ w ∈ u_ws RX4 TX4 5, w ∈ mX4_watermark.2.2.1 := by decide +kernel
set_option maxRecDepth 20000 in
theorem fX4_watermark_12 : Cond.fieldLink mX4_watermark.1 12 (TX4 0).1 (TX4 0).2.1 (TX4 0).2.2.1 ∈ mX4_watermark.2.2.1 := by decide +kernel
set_option maxRecDepth 20000 in
theorem nX4_watermark_X3 : ∀ w ∈ u_ws RX3 TX3 6, w ∈ mX4_watermark.2.2.1 := by decide +kernel
set_option maxRecDepth 20000 in
theorem fX4_watermark_119 : Cond.fieldLink mX4_watermark.1 119 (TX3 4).1 (TX3 4).2.1 (TX3 4).2.2.1 ∈ mX4_watermark.2.2.1 := by decide +kernel
def mX4_sweep : zs_M := (RX4, cX4_sweep, wsX4_sweep, 4, (some .int), { frames := 3, cells := 0, slots := 0, locals := 120 })
theorem YX4_sweep : zs_Y mX4_sweep yX4_sweep 1 := ⟨⟨_, rfl⟩, rfl, by decide +kernel, ⟨by decide +kernel, by decide +kernel, by decide +kernel⟩, rfl, rfl⟩
set_option maxRecDepth 20000 in
theorem nX4_sweep_X4 : ∀ w ∈ u_ws RX4 TX4 5, w ∈ mX4_sweep.2.2.1 := by decide +kernel
set_option maxRecDepth 20000 in
theorem fX4_sweep_19 : Cond.fieldLink mX4_sweep.1 19 (TX4 1).1 (TX4 1).2.1 (TX4 1).2.2.1 ∈ mX4_sweep.2.2.1 := by decide +kernel
set_option maxRecDepth 20000 in
theorem fX4_sweep_37 : Cond.fieldLink mX4_sweep.1 37 (TX4 4).1 (TX4 4).2.1 (TX4 4).2.2.1 ∈ mX4_sweep.2.2.1 := by decide +kernel
def mX4_spanShownAnew : zs_M := (RX4, cX4_spanShownAnew, wsX4_spanShownAnew, 4, none, { frames := 3, cells := 0, slots := 0, locals := 120 })
theorem YX4_spanShownAnew : zs_Y mX4_spanShownAnew yX4_spanShownAnew 1 := ⟨⟨_, rfl⟩, rfl, by decide +kernel, ⟨by decide +kernel, by decide +kernel, by decide +kernel⟩, rfl, rfl⟩
set_option maxRecDepth 20000 in
theorem nX4_spanShownAnew_X4 : ∀ w ∈ u_ws RX4 TX4 5, w ∈ mX4_spanShownAnew.2.2.1 := by decide +kernel
set_option maxRecDepth 20000 in
theorem fX4_spanShownAnew_19 : Cond.fieldLink mX4_spanShownAnew.1 19 (TX4 1).1 (TX4 1).2.1 (TX4 1).2.2.1 ∈ mX4_spanShownAnew.2.2.1 := by decide +kernel
set_option maxRecDepth 20000 in
theorem nX4_spanShownAnew_X1 : ∀ w ∈ u_ws RX1 TX1 6, w ∈ mX4_spanShownAnew.2.2.1 := by decide +kernel
set_option maxRecDepth 20000 in
theorem fX4_spanShownAnew_142 : Cond.fieldLink mX4_spanShownAnew.1 142 (TX1 5).1 (TX1 5).2.1 (TX1 5).2.2.1 ∈ mX4_spanShownAnew.2.2.1 := by decide +kernel
set_option maxRecDepth 20000 in
theorem fX4_spanShownAnew_145 : Cond.fieldLink mX4_spanShownAnew.1 145 (TX1 4).1 (TX1 4).2.1 (TX1 4).2.2.1 ∈ mX4_spanShownAnew.2.2.1 := by decide +kernel
set_option maxRecDepth 20000 in
theorem fX4_spanShownAnew_187 : Cond.fieldLink mX4_spanShownAnew.1 187 (TX1 3).1 (TX1 3).2.1 (TX1 3).2.2.1 ∈ mX4_spanShownAnew.2.2.1 := by decide +kernel
set_option maxRecDepth 20000 in
theorem fX4_spanShownAnew_212 : Cond.fieldLink mX4_spanShownAnew.1 212 (TX1 2).1 (TX1 2).2.1 (TX1 2).2.2.1 ∈ mX4_spanShownAnew.2.2.1 := by decide +kernel
set_option maxRecDepth 20000 in
theorem fX4_spanShownAnew_12 : Cond.fieldLink mX4_spanShownAnew.1 12 (TX4 0).1 (TX4 0).2.1 (TX4 0).2.2.1 ∈ mX4_spanShownAnew.2.2.1 := by decide +kernel
set_option maxRecDepth 20000 in
theorem nX4_spanShownAnew_X3 : ∀ w ∈ u_ws RX3 TX3 6, w ∈ mX4_spanShownAnew.2.2.1 := by decide +kernel
set_option maxRecDepth 20000 in
theorem fX4_spanShownAnew_130 : Cond.fieldLink mX4_spanShownAnew.1 130 (TX3 2).1 (TX3 2).2.1 (TX3 2).2.2.1 ∈ mX4_spanShownAnew.2.2.1 := by decide +kernel
def mX4_setting : zs_M := (RX4, cX4_setting, wsX4_setting, 5, (some .int), { frames := 4, cells := 0, slots := 0, locals := 160 })
theorem YX4_setting : zs_Y mX4_setting yX4_setting 3 := ⟨⟨_, rfl⟩, rfl, by decide +kernel, ⟨by decide +kernel, by decide +kernel, by decide +kernel⟩, rfl, rfl⟩
set_option maxRecDepth 20000 in
theorem nX4_setting_X4 : ∀ w ∈ u_ws RX4 TX4 5, w ∈ mX4_setting.2.2.1 := by decide +kernel
set_option maxRecDepth 20000 in
theorem fX4_setting_12 : Cond.fieldLink mX4_setting.1 12 (TX4 0).1 (TX4 0).2.1 (TX4 0).2.2.1 ∈ mX4_setting.2.2.1 := by decide +kernel
set_option maxRecDepth 20000 in
theorem nX4_setting_X3 : ∀ w ∈ u_ws RX3 TX3 6, w ∈ mX4_setting.2.2.1 := by decide +kernel
set_option maxRecDepth 20000 in
theorem fX4_setting_130 : Cond.fieldLink mX4_setting.1 130 (TX3 2).1 (TX3 2).2.1 (TX3 2).2.2.1 ∈ mX4_setting.2.2.1 := by decide +kernel
def mX4_isMark : zs_M := (RX4, cX4_isMark, wsX4_isMark, 1, (some .boolean), { frames := 0, cells := 0, slots := 0, locals := 0 })
theorem YX4_isMark : zs_Y mX4_isMark yX4_isMark 1 := ⟨⟨_, rfl⟩, rfl, by decide +kernel, ⟨by decide +kernel, by decide +kernel, by decide +kernel⟩, rfl, rfl⟩
def mX4_mark : zs_M := (RX4, cX4_mark, wsX4_mark, 4, (some .int), { frames := 3, cells := 0, slots := 0, locals := 120 })
theorem YX4_mark : zs_Y mX4_mark yX4_mark 1 := ⟨⟨_, rfl⟩, rfl, by decide +kernel, ⟨by decide +kernel, by decide +kernel, by decide +kernel⟩, rfl, rfl⟩
set_option maxRecDepth 20000 in
theorem nX4_mark_X4 : ∀ w ∈ u_ws RX4 TX4 5, w ∈ mX4_mark.2.2.1 := by decide +kernel
set_option maxRecDepth 20000 in
theorem fX4_mark_33 : Cond.fieldLink mX4_mark.1 33 (TX4 3).1 (TX4 3).2.1 (TX4 3).2.2.1 ∈ mX4_mark.2.2.1 := by decide +kernel
set_option maxRecDepth 20000 in
theorem fX4_mark_19 : Cond.fieldLink mX4_mark.1 19 (TX4 1).1 (TX4 1).2.1 (TX4 1).2.2.1 ∈ mX4_mark.2.2.1 := by decide +kernel
set_option maxRecDepth 20000 in
theorem nX4_mark_X1 : ∀ w ∈ u_ws RX1 TX1 6, w ∈ mX4_mark.2.2.1 := by decide +kernel
set_option maxRecDepth 20000 in
theorem fX4_mark_142 : Cond.fieldLink mX4_mark.1 142 (TX1 5).1 (TX1 5).2.1 (TX1 5).2.2.1 ∈ mX4_mark.2.2.1 := by decide +kernel
set_option maxRecDepth 20000 in
theorem fX4_mark_145 : Cond.fieldLink mX4_mark.1 145 (TX1 4).1 (TX1 4).2.1 (TX1 4).2.2.1 ∈ mX4_mark.2.2.1 := by decide +kernel
set_option maxRecDepth 20000 in
theorem fX4_mark_148 : Cond.fieldLink mX4_mark.1 148 (TX1 0).1 (TX1 0).2.1 (TX1 0).2.2.1 ∈ mX4_mark.2.2.1 := by decide +kernel
set_option maxRecDepth 20000 in
theorem fX4_mark_151 : Cond.fieldLink mX4_mark.1 151 (TX1 1).1 (TX1 1).2.1 (TX1 1).2.2.1 ∈ mX4_mark.2.2.1 := by decide +kernel
set_option maxRecDepth 20000 in
theorem nX4_mark_X0 : ∀ w ∈ u_ws RX0 TX0 4, w ∈ mX4_mark.2.2.1 := by decide +kernel
set_option maxRecDepth 20000 in
theorem fX4_mark_158 : Cond.fieldLink mX4_mark.1 158 (TX0 3).1 (TX0 3).2.1 (TX0 3).2.2.1 ∈ mX4_mark.2.2.1 := by decide +kernel
def mX4_restore : zs_M := (RX4, cX4_restore, wsX4_restore, 5, (some .int), { frames := 2, cells := 0, slots := 0, locals := 80 })
theorem YX4_restore : zs_Y mX4_restore yX4_restore 1 := ⟨⟨_, rfl⟩, rfl, by decide +kernel, ⟨by decide +kernel, by decide +kernel, by decide +kernel⟩, rfl, rfl⟩
set_option maxRecDepth 20000 in
theorem nX4_restore_X4 : ∀ w ∈ u_ws RX4 TX4 5, w ∈ mX4_restore.2.2.1 := by decide +kernel
set_option maxRecDepth 20000 in
theorem fX4_restore_33 : Cond.fieldLink mX4_restore.1 33 (TX4 3).1 (TX4 3).2.1 (TX4 3).2.2.1 ∈ mX4_restore.2.2.1 := by decide +kernel
set_option maxRecDepth 20000 in
theorem nX4_restore_X0 : ∀ w ∈ u_ws RX0 TX0 4, w ∈ mX4_restore.2.2.1 := by decide +kernel
set_option maxRecDepth 20000 in
theorem fX4_restore_158 : Cond.fieldLink mX4_restore.1 158 (TX0 3).1 (TX0 3).2.1 (TX0 3).2.2.1 ∈ mX4_restore.2.2.1 := by decide +kernel
set_option maxRecDepth 20000 in
theorem fX4_restore_19 : Cond.fieldLink mX4_restore.1 19 (TX4 1).1 (TX4 1).2.1 (TX4 1).2.2.1 ∈ mX4_restore.2.2.1 := by decide +kernel
set_option maxRecDepth 20000 in
theorem fX4_restore_167 : Cond.fieldLink mX4_restore.1 167 (TX0 0).1 (TX0 0).2.1 (TX0 0).2.2.1 ∈ mX4_restore.2.2.1 := by decide +kernel
set_option maxRecDepth 20000 in
theorem nX4_restore_X1 : ∀ w ∈ u_ws RX1 TX1 6, w ∈ mX4_restore.2.2.1 := by decide +kernel
set_option maxRecDepth 20000 in
theorem fX4_restore_151 : Cond.fieldLink mX4_restore.1 151 (TX1 1).1 (TX1 1).2.1 (TX1 1).2.2.1 ∈ mX4_restore.2.2.1 := by decide +kernel
set_option maxRecDepth 20000 in
theorem fX4_restore_171 : Cond.fieldLink mX4_restore.1 171 (TX0 1).1 (TX0 1).2.1 (TX0 1).2.2.1 ∈ mX4_restore.2.2.1 := by decide +kernel
set_option maxRecDepth 20000 in
theorem fX4_restore_172 : Cond.fieldLink mX4_restore.1 172 (TX0 2).1 (TX0 2).2.1 (TX0 2).2.2.1 ∈ mX4_restore.2.2.1 := by decide +kernel
set_option maxRecDepth 20000 in
theorem fX4_restore_37 : Cond.fieldLink mX4_restore.1 37 (TX4 4).1 (TX4 4).2.1 (TX4 4).2.2.1 ∈ mX4_restore.2.2.1 := by decide +kernel
set_option maxRecDepth 20000 in
theorem fX4_restore_142 : Cond.fieldLink mX4_restore.1 142 (TX1 5).1 (TX1 5).2.1 (TX1 5).2.2.1 ∈ mX4_restore.2.2.1 := by decide +kernel
def mX4_row : zs_M := (RX4, cX4_row, wsX4_row, 3, (some .int), { frames := 2, cells := 0, slots := 0, locals := 80 })
theorem YX4_row : zs_Y mX4_row yX4_row 2 := ⟨⟨_, rfl⟩, rfl, by decide +kernel, ⟨by decide +kernel, by decide +kernel, by decide +kernel⟩, rfl, rfl⟩
set_option maxRecDepth 20000 in
theorem nX4_row_X4 : ∀ w ∈ u_ws RX4 TX4 5, w ∈ mX4_row.2.2.1 := by decide +kernel
set_option maxRecDepth 20000 in
theorem fX4_row_26 : Cond.fieldLink mX4_row.1 26 (TX4 2).1 (TX4 2).2.1 (TX4 2).2.2.1 ∈ mX4_row.2.2.1 := by decide +kernel
set_option maxRecDepth 20000 in
theorem nX4_row_X2 : ∀ w ∈ u_ws RX2 TX2 4, w ∈ mX4_row.2.2.1 := by decide +kernel
set_option maxRecDepth 20000 in
theorem fX4_row_178 : Cond.fieldLink mX4_row.1 178 (TX2 2).1 (TX2 2).2.1 (TX2 2).2.2.1 ∈ mX4_row.2.2.1 := by decide +kernel
set_option maxRecDepth 20000 in
theorem kX4_row_114 : Cond.constant mX4_row.1 114 (-99999999) ∈ mX4_row.2.2.1 := by decide +kernel
def mX4_place : zs_M := (RX4, cX4_place, wsX4_place, 5, (some .int), { frames := 4, cells := 0, slots := 0, locals := 160 })
theorem YX4_place : zs_Y mX4_place yX4_place 3 := ⟨⟨_, rfl⟩, rfl, by decide +kernel, ⟨by decide +kernel, by decide +kernel, by decide +kernel⟩, rfl, rfl⟩
set_option maxRecDepth 20000 in
theorem kX4_place_114 : Cond.constant mX4_place.1 114 (-99999999) ∈ mX4_place.2.2.1 := by decide +kernel
def mX4_next : zs_M := (RX4, cX4_next, wsX4_next, 5, (some .int), { frames := 3, cells := 0, slots := 0, locals := 120 })
theorem YX4_next : zs_Y mX4_next yX4_next 1 := ⟨⟨_, rfl⟩, rfl, by decide +kernel, ⟨by decide +kernel, by decide +kernel, by decide +kernel⟩, rfl, rfl⟩
set_option maxRecDepth 20000 in
theorem nX4_next_X4 : ∀ w ∈ u_ws RX4 TX4 5, w ∈ mX4_next.2.2.1 := by decide +kernel
set_option maxRecDepth 20000 in
theorem fX4_next_12 : Cond.fieldLink mX4_next.1 12 (TX4 0).1 (TX4 0).2.1 (TX4 0).2.2.1 ∈ mX4_next.2.2.1 := by decide +kernel
set_option maxRecDepth 20000 in
theorem kX4_next_114 : Cond.constant mX4_next.1 114 (-99999999) ∈ mX4_next.2.2.1 := by decide +kernel
set_option maxRecDepth 20000 in
theorem fX4_next_19 : Cond.fieldLink mX4_next.1 19 (TX4 1).1 (TX4 1).2.1 (TX4 1).2.2.1 ∈ mX4_next.2.2.1 := by decide +kernel
set_option maxRecDepth 20000 in
theorem nX4_next_X1 : ∀ w ∈ u_ws RX1 TX1 6, w ∈ mX4_next.2.2.1 := by decide +kernel
set_option maxRecDepth 20000 in
theorem fX4_next_142 : Cond.fieldLink mX4_next.1 142 (TX1 5).1 (TX1 5).2.1 (TX1 5).2.2.1 ∈ mX4_next.2.2.1 := by decide +kernel
set_option maxRecDepth 20000 in
theorem fX4_next_145 : Cond.fieldLink mX4_next.1 145 (TX1 4).1 (TX1 4).2.1 (TX1 4).2.2.1 ∈ mX4_next.2.2.1 := by decide +kernel
set_option maxRecDepth 20000 in
theorem fX4_next_187 : Cond.fieldLink mX4_next.1 187 (TX1 3).1 (TX1 3).2.1 (TX1 3).2.2.1 ∈ mX4_next.2.2.1 := by decide +kernel
def mX4_count : zs_M := (RX4, cX4_count, wsX4_count, 2, (some .int), { frames := 4, cells := 0, slots := 0, locals := 160 })
theorem YX4_count : zs_Y mX4_count yX4_count 1 := ⟨⟨_, rfl⟩, rfl, by decide +kernel, ⟨by decide +kernel, by decide +kernel, by decide +kernel⟩, rfl, rfl⟩
set_option maxRecDepth 20000 in
theorem nX4_count_X4 : ∀ w ∈ u_ws RX4 TX4 5, w ∈ mX4_count.2.2.1 := by decide +kernel
set_option maxRecDepth 20000 in
theorem fX4_count_12 : Cond.fieldLink mX4_count.1 12 (TX4 0).1 (TX4 0).2.1 (TX4 0).2.2.1 ∈ mX4_count.2.2.1 := by decide +kernel
set_option maxRecDepth 20000 in
theorem nX4_count_X3 : ∀ w ∈ u_ws RX3 TX3 6, w ∈ mX4_count.2.2.1 := by decide +kernel
set_option maxRecDepth 20000 in
theorem fX4_count_48 : Cond.fieldLink mX4_count.1 48 (TX3 5).1 (TX3 5).2.1 (TX3 5).2.2.1 ∈ mX4_count.2.2.1 := by decide +kernel
set_option maxRecDepth 20000 in
theorem fX4_count_19 : Cond.fieldLink mX4_count.1 19 (TX4 1).1 (TX4 1).2.1 (TX4 1).2.2.1 ∈ mX4_count.2.2.1 := by decide +kernel
set_option maxRecDepth 20000 in
theorem nX4_count_X1 : ∀ w ∈ u_ws RX1 TX1 6, w ∈ mX4_count.2.2.1 := by decide +kernel
set_option maxRecDepth 20000 in
theorem fX4_count_142 : Cond.fieldLink mX4_count.1 142 (TX1 5).1 (TX1 5).2.1 (TX1 5).2.2.1 ∈ mX4_count.2.2.1 := by decide +kernel
set_option maxRecDepth 20000 in
theorem fX4_count_26 : Cond.fieldLink mX4_count.1 26 (TX4 2).1 (TX4 2).2.1 (TX4 2).2.2.1 ∈ mX4_count.2.2.1 := by decide +kernel
set_option maxRecDepth 20000 in
theorem nX4_count_X2 : ∀ w ∈ u_ws RX2 TX2 4, w ∈ mX4_count.2.2.1 := by decide +kernel
set_option maxRecDepth 20000 in
theorem fX4_count_178 : Cond.fieldLink mX4_count.1 178 (TX2 2).1 (TX2 2).2.1 (TX2 2).2.2.1 ∈ mX4_count.2.2.1 := by decide +kernel
set_option maxRecDepth 20000 in
theorem fX4_count_194 : Cond.fieldLink mX4_count.1 194 (TX2 3).1 (TX2 3).2.1 (TX2 3).2.2.1 ∈ mX4_count.2.2.1 := by decide +kernel
set_option maxRecDepth 20000 in
theorem fX4_count_119 : Cond.fieldLink mX4_count.1 119 (TX3 4).1 (TX3 4).2.1 (TX3 4).2.2.1 ∈ mX4_count.2.2.1 := by decide +kernel
set_option maxRecDepth 20000 in
theorem fX4_count_37 : Cond.fieldLink mX4_count.1 37 (TX4 4).1 (TX4 4).2.1 (TX4 4).2.2.1 ∈ mX4_count.2.2.1 := by decide +kernel
def mX5_isIn : zs_M := (RX5, cX5_isIn, wsX5_isIn, 3, (some .boolean), { frames := 0, cells := 0, slots := 0, locals := 0 })
theorem YX5_isIn : zs_Y mX5_isIn yX5_isIn 3 := ⟨⟨_, rfl⟩, rfl, by decide +kernel, ⟨by decide +kernel, by decide +kernel, by decide +kernel⟩, rfl, rfl⟩
def mX5_isState : zs_M := (RX5, cX5_isState, wsX5_isState, 2, (some .boolean), { frames := 1, cells := 0, slots := 0, locals := 40 })
theorem YX5_isState : zs_Y mX5_isState yX5_isState 1 := ⟨⟨_, rfl⟩, rfl, by decide +kernel, ⟨by decide +kernel, by decide +kernel, by decide +kernel⟩, rfl, rfl⟩
set_option maxRecDepth 20000 in
theorem nX5_isState_X5 : ∀ w ∈ u_ws RX5 TX5 20, w ∈ mX5_isState.2.2.1 := by decide +kernel
set_option maxRecDepth 20000 in
theorem fX5_isState_56 : Cond.fieldLink mX5_isState.1 56 (TX5 0).1 (TX5 0).2.1 (TX5 0).2.2.1 ∈ mX5_isState.2.2.1 := by decide +kernel
def mX5_isForm : zs_M := (RX5, cX5_isForm, wsX5_isForm, 3, (some .boolean), { frames := 2, cells := 0, slots := 0, locals := 80 })
theorem YX5_isForm : zs_Y mX5_isForm yX5_isForm 2 := ⟨⟨_, rfl⟩, rfl, by decide +kernel, ⟨by decide +kernel, by decide +kernel, by decide +kernel⟩, rfl, rfl⟩
set_option maxRecDepth 20000 in
theorem nX5_isForm_X5 : ∀ w ∈ u_ws RX5 TX5 20, w ∈ mX5_isForm.2.2.1 := by decide +kernel
set_option maxRecDepth 20000 in
theorem fX5_isForm_7 : Cond.fieldLink mX5_isForm.1 7 (TX5 1).1 (TX5 1).2.1 (TX5 1).2.2.1 ∈ mX5_isForm.2.2.1 := by decide +kernel
def mX5_state : zs_M := (RX5, cX5_state, wsX5_state, 5, (some .int), { frames := 1, cells := 0, slots := 0, locals := 40 })
theorem YX5_state : zs_Y mX5_state yX5_state 4 := ⟨⟨_, rfl⟩, rfl, by decide +kernel, ⟨by decide +kernel, by decide +kernel, by decide +kernel⟩, rfl, rfl⟩
set_option maxRecDepth 20000 in
theorem kX5_state_68 : Cond.constant mX5_state.1 68 (100000) ∈ mX5_state.2.2.1 := by decide +kernel
set_option maxRecDepth 20000 in
theorem nX5_state_X5 : ∀ w ∈ u_ws RX5 TX5 20, w ∈ mX5_state.2.2.1 := by decide +kernel
set_option maxRecDepth 20000 in
theorem fX5_state_56 : Cond.fieldLink mX5_state.1 56 (TX5 0).1 (TX5 0).2.1 (TX5 0).2.2.1 ∈ mX5_state.2.2.1 := by decide +kernel
set_option maxRecDepth 20000 in
theorem fX5_state_7 : Cond.fieldLink mX5_state.1 7 (TX5 1).1 (TX5 1).2.1 (TX5 1).2.2.1 ∈ mX5_state.2.2.1 := by decide +kernel
set_option maxRecDepth 20000 in
theorem fX5_state_13 : Cond.fieldLink mX5_state.1 13 (TX5 2).1 (TX5 2).2.1 (TX5 2).2.2.1 ∈ mX5_state.2.2.1 := by decide +kernel
set_option maxRecDepth 20000 in
theorem fX5_state_16 : Cond.fieldLink mX5_state.1 16 (TX5 3).1 (TX5 3).2.1 (TX5 3).2.2.1 ∈ mX5_state.2.2.1 := by decide +kernel
set_option maxRecDepth 20000 in
theorem fX5_state_19 : Cond.fieldLink mX5_state.1 19 (TX5 4).1 (TX5 4).2.1 (TX5 4).2.2.1 ∈ mX5_state.2.2.1 := by decide +kernel
def mX5_clockOf : zs_M := (RX5, cX5_clockOf, wsX5_clockOf, 2, (some .int), { frames := 0, cells := 0, slots := 0, locals := 0 })
theorem YX5_clockOf : zs_Y mX5_clockOf yX5_clockOf 1 := ⟨⟨_, rfl⟩, rfl, by decide +kernel, ⟨by decide +kernel, by decide +kernel, by decide +kernel⟩, rfl, rfl⟩
set_option maxRecDepth 20000 in
theorem nX5_clockOf_X5 : ∀ w ∈ u_ws RX5 TX5 20, w ∈ mX5_clockOf.2.2.1 := by decide +kernel
set_option maxRecDepth 20000 in
theorem fX5_clockOf_22 : Cond.fieldLink mX5_clockOf.1 22 (TX5 5).1 (TX5 5).2.1 (TX5 5).2.2.1 ∈ mX5_clockOf.2.2.1 := by decide +kernel
set_option maxRecDepth 20000 in
theorem fX5_clockOf_13 : Cond.fieldLink mX5_clockOf.1 13 (TX5 2).1 (TX5 2).2.1 (TX5 2).2.2.1 ∈ mX5_clockOf.2.2.1 := by decide +kernel
set_option maxRecDepth 20000 in
theorem fX5_clockOf_25 : Cond.fieldLink mX5_clockOf.1 25 (TX5 6).1 (TX5 6).2.1 (TX5 6).2.2.1 ∈ mX5_clockOf.2.2.1 := by decide +kernel
def mX5_isShown : zs_M := (RX5, cX5_isShown, wsX5_isShown, 2, (some .boolean), { frames := 1, cells := 0, slots := 0, locals := 40 })
theorem YX5_isShown : zs_Y mX5_isShown yX5_isShown 1 := ⟨⟨_, rfl⟩, rfl, by decide +kernel, ⟨by decide +kernel, by decide +kernel, by decide +kernel⟩, rfl, rfl⟩
set_option maxRecDepth 20000 in
theorem nX5_isShown_X5 : ∀ w ∈ u_ws RX5 TX5 20, w ∈ mX5_isShown.2.2.1 := by decide +kernel
set_option maxRecDepth 20000 in
theorem fX5_isShown_25 : Cond.fieldLink mX5_isShown.1 25 (TX5 6).1 (TX5 6).2.1 (TX5 6).2.2.1 ∈ mX5_isShown.2.2.1 := by decide +kernel
set_option maxRecDepth 20000 in
theorem kX5_isShown_55 : Cond.constant mX5_isShown.1 55 (-99999999) ∈ mX5_isShown.2.2.1 := by decide +kernel
set_option maxRecDepth 20000 in
theorem fX5_isShown_40 : Cond.fieldLink mX5_isShown.1 40 (TX5 11).1 (TX5 11).2.1 (TX5 11).2.2.1 ∈ mX5_isShown.2.2.1 := by decide +kernel
def mX5_isOver : zs_M := (RX5, cX5_isOver, wsX5_isOver, 2, (some .boolean), { frames := 1, cells := 0, slots := 0, locals := 40 })
theorem YX5_isOver : zs_Y mX5_isOver yX5_isOver 1 := ⟨⟨_, rfl⟩, rfl, by decide +kernel, ⟨by decide +kernel, by decide +kernel, by decide +kernel⟩, rfl, rfl⟩
set_option maxRecDepth 20000 in
theorem nX5_isOver_X5 : ∀ w ∈ u_ws RX5 TX5 20, w ∈ mX5_isOver.2.2.1 := by decide +kernel
set_option maxRecDepth 20000 in
theorem fX5_isOver_25 : Cond.fieldLink mX5_isOver.1 25 (TX5 6).1 (TX5 6).2.1 (TX5 6).2.2.1 ∈ mX5_isOver.2.2.1 := by decide +kernel
set_option maxRecDepth 20000 in
theorem kX5_isOver_55 : Cond.constant mX5_isOver.1 55 (-99999999) ∈ mX5_isOver.2.2.1 := by decide +kernel
set_option maxRecDepth 20000 in
theorem fX5_isOver_40 : Cond.fieldLink mX5_isOver.1 40 (TX5 11).1 (TX5 11).2.1 (TX5 11).2.2.1 ∈ mX5_isOver.2.2.1 := by decide +kernel
def mX5_free : zs_M := (RX5, cX5_free, wsX5_free, 2, (some .int), { frames := 0, cells := 0, slots := 0, locals := 0 })
theorem YX5_free : zs_Y mX5_free yX5_free 0 := ⟨⟨_, rfl⟩, rfl, by decide +kernel, ⟨by decide +kernel, by decide +kernel, by decide +kernel⟩, rfl, rfl⟩
set_option maxRecDepth 20000 in
theorem nX5_free_X5 : ∀ w ∈ u_ws RX5 TX5 20, w ∈ mX5_free.2.2.1 := by decide +kernel
set_option maxRecDepth 20000 in
theorem fX5_free_25 : Cond.fieldLink mX5_free.1 25 (TX5 6).1 (TX5 6).2.1 (TX5 6).2.2.1 ∈ mX5_free.2.2.1 := by decide +kernel
set_option maxRecDepth 20000 in
theorem kX5_free_55 : Cond.constant mX5_free.1 55 (-99999999) ∈ mX5_free.2.2.1 := by decide +kernel
def mX5_find : zs_M := (RX5, cX5_find, wsX5_find, 5, (some .int), { frames := 0, cells := 0, slots := 0, locals := 0 })
theorem YX5_find : zs_Y mX5_find yX5_find 3 := ⟨⟨_, rfl⟩, rfl, by decide +kernel, ⟨by decide +kernel, by decide +kernel, by decide +kernel⟩, rfl, rfl⟩
set_option maxRecDepth 20000 in
theorem nX5_find_X5 : ∀ w ∈ u_ws RX5 TX5 20, w ∈ mX5_find.2.2.1 := by decide +kernel
set_option maxRecDepth 20000 in
theorem fX5_find_25 : Cond.fieldLink mX5_find.1 25 (TX5 6).1 (TX5 6).2.1 (TX5 6).2.2.1 ∈ mX5_find.2.2.1 := by decide +kernel
set_option maxRecDepth 20000 in
theorem fX5_find_28 : Cond.fieldLink mX5_find.1 28 (TX5 7).1 (TX5 7).2.1 (TX5 7).2.2.1 ∈ mX5_find.2.2.1 := by decide +kernel
set_option maxRecDepth 20000 in
theorem fX5_find_31 : Cond.fieldLink mX5_find.1 31 (TX5 8).1 (TX5 8).2.1 (TX5 8).2.2.1 ∈ mX5_find.2.2.1 := by decide +kernel
set_option maxRecDepth 20000 in
theorem kX5_find_55 : Cond.constant mX5_find.1 55 (-99999999) ∈ mX5_find.2.2.1 := by decide +kernel
def mX5_findIn : zs_M := (RX5, cX5_findIn, wsX5_findIn, 10, (some .int), { frames := 2, cells := 0, slots := 0, locals := 80 })
theorem YX5_findIn : zs_Y mX5_findIn yX5_findIn 4 := ⟨⟨_, rfl⟩, rfl, by decide +kernel, ⟨by decide +kernel, by decide +kernel, by decide +kernel⟩, rfl, rfl⟩
set_option maxRecDepth 20000 in
theorem kX5_findIn_55 : Cond.constant mX5_findIn.1 55 (-99999999) ∈ mX5_findIn.2.2.1 := by decide +kernel
set_option maxRecDepth 20000 in
theorem nX5_findIn_X5 : ∀ w ∈ u_ws RX5 TX5 20, w ∈ mX5_findIn.2.2.1 := by decide +kernel
set_option maxRecDepth 20000 in
theorem fX5_findIn_25 : Cond.fieldLink mX5_findIn.1 25 (TX5 6).1 (TX5 6).2.1 (TX5 6).2.2.1 ∈ mX5_findIn.2.2.1 := by decide +kernel
set_option maxRecDepth 20000 in
theorem fX5_findIn_28 : Cond.fieldLink mX5_findIn.1 28 (TX5 7).1 (TX5 7).2.1 (TX5 7).2.2.1 ∈ mX5_findIn.2.2.1 := by decide +kernel
set_option maxRecDepth 20000 in
theorem fX5_findIn_43 : Cond.fieldLink mX5_findIn.1 43 (TX5 12).1 (TX5 12).2.1 (TX5 12).2.2.1 ∈ mX5_findIn.2.2.1 := by decide +kernel
def mX5_stamps : zs_M := (RX5, cX5_stamps, wsX5_stamps, 3, none, { frames := 0, cells := 0, slots := 0, locals := 0 })
theorem YX5_stamps : zs_Y mX5_stamps yX5_stamps 1 := ⟨⟨_, rfl⟩, rfl, by decide +kernel, ⟨by decide +kernel, by decide +kernel, by decide +kernel⟩, rfl, rfl⟩
set_option maxRecDepth 20000 in
theorem nX5_stamps_X5 : ∀ w ∈ u_ws RX5 TX5 20, w ∈ mX5_stamps.2.2.1 := by decide +kernel
set_option maxRecDepth 20000 in
theorem fX5_stamps_25 : Cond.fieldLink mX5_stamps.1 25 (TX5 6).1 (TX5 6).2.1 (TX5 6).2.2.1 ∈ mX5_stamps.2.2.1 := by decide +kernel
set_option maxRecDepth 20000 in
theorem fX5_stamps_37 : Cond.fieldLink mX5_stamps.1 37 (TX5 10).1 (TX5 10).2.1 (TX5 10).2.2.1 ∈ mX5_stamps.2.2.1 := by decide +kernel
set_option maxRecDepth 20000 in
theorem fX5_stamps_22 : Cond.fieldLink mX5_stamps.1 22 (TX5 5).1 (TX5 5).2.1 (TX5 5).2.2.1 ∈ mX5_stamps.2.2.1 := by decide +kernel
set_option maxRecDepth 20000 in
theorem fX5_stamps_13 : Cond.fieldLink mX5_stamps.1 13 (TX5 2).1 (TX5 2).2.1 (TX5 2).2.2.1 ∈ mX5_stamps.2.2.1 := by decide +kernel
set_option maxRecDepth 20000 in
theorem fX5_stamps_40 : Cond.fieldLink mX5_stamps.1 40 (TX5 11).1 (TX5 11).2.1 (TX5 11).2.2.1 ∈ mX5_stamps.2.2.1 := by decide +kernel
set_option maxRecDepth 20000 in
theorem fX5_stamps_16 : Cond.fieldLink mX5_stamps.1 16 (TX5 3).1 (TX5 3).2.1 (TX5 3).2.2.1 ∈ mX5_stamps.2.2.1 := by decide +kernel
def mX5_writes : zs_M := (RX5, cX5_writes, wsX5_writes, 6, none, { frames := 1, cells := 0, slots := 0, locals := 40 })
theorem YX5_writes : zs_Y mX5_writes yX5_writes 5 := ⟨⟨_, rfl⟩, rfl, by decide +kernel, ⟨by decide +kernel, by decide +kernel, by decide +kernel⟩, rfl, rfl⟩
set_option maxRecDepth 20000 in
theorem nX5_writes_X5 : ∀ w ∈ u_ws RX5 TX5 20, w ∈ mX5_writes.2.2.1 := by decide +kernel
set_option maxRecDepth 20000 in
theorem fX5_writes_25 : Cond.fieldLink mX5_writes.1 25 (TX5 6).1 (TX5 6).2.1 (TX5 6).2.2.1 ∈ mX5_writes.2.2.1 := by decide +kernel
set_option maxRecDepth 20000 in
theorem fX5_writes_28 : Cond.fieldLink mX5_writes.1 28 (TX5 7).1 (TX5 7).2.1 (TX5 7).2.2.1 ∈ mX5_writes.2.2.1 := by decide +kernel
set_option maxRecDepth 20000 in
theorem fX5_writes_31 : Cond.fieldLink mX5_writes.1 31 (TX5 8).1 (TX5 8).2.1 (TX5 8).2.2.1 ∈ mX5_writes.2.2.1 := by decide +kernel
set_option maxRecDepth 20000 in
theorem fX5_writes_34 : Cond.fieldLink mX5_writes.1 34 (TX5 9).1 (TX5 9).2.1 (TX5 9).2.2.1 ∈ mX5_writes.2.2.1 := by decide +kernel
set_option maxRecDepth 20000 in
theorem fX5_writes_76 : Cond.fieldLink mX5_writes.1 76 (TX5 13).1 (TX5 13).2.1 (TX5 13).2.2.1 ∈ mX5_writes.2.2.1 := by decide +kernel
set_option maxRecDepth 20000 in
theorem fX5_writes_43 : Cond.fieldLink mX5_writes.1 43 (TX5 12).1 (TX5 12).2.1 (TX5 12).2.2.1 ∈ mX5_writes.2.2.1 := by decide +kernel
def mX5_tells : zs_M := (RX5, cX5_tells, wsX5_tells, 3, none, { frames := 0, cells := 0, slots := 0, locals := 0 })
theorem YX5_tells : zs_Y mX5_tells yX5_tells 1 := ⟨⟨_, rfl⟩, rfl, by decide +kernel, ⟨by decide +kernel, by decide +kernel, by decide +kernel⟩, rfl, rfl⟩
set_option maxRecDepth 20000 in
theorem nX5_tells_X5 : ∀ w ∈ u_ws RX5 TX5 20, w ∈ mX5_tells.2.2.1 := by decide +kernel
set_option maxRecDepth 20000 in
theorem fX5_tells_83 : Cond.fieldLink mX5_tells.1 83 (TX5 16).1 (TX5 16).2.1 (TX5 16).2.2.1 ∈ mX5_tells.2.2.1 := by decide +kernel
set_option maxRecDepth 20000 in
theorem fX5_tells_46 : Cond.fieldLink mX5_tells.1 46 (TX5 15).1 (TX5 15).2.1 (TX5 15).2.2.1 ∈ mX5_tells.2.2.1 := by decide +kernel
set_option maxRecDepth 20000 in
theorem fX5_tells_25 : Cond.fieldLink mX5_tells.1 25 (TX5 6).1 (TX5 6).2.1 (TX5 6).2.2.1 ∈ mX5_tells.2.2.1 := by decide +kernel
set_option maxRecDepth 20000 in
theorem fX5_tells_28 : Cond.fieldLink mX5_tells.1 28 (TX5 7).1 (TX5 7).2.1 (TX5 7).2.2.1 ∈ mX5_tells.2.2.1 := by decide +kernel
set_option maxRecDepth 20000 in
theorem fX5_tells_31 : Cond.fieldLink mX5_tells.1 31 (TX5 8).1 (TX5 8).2.1 (TX5 8).2.2.1 ∈ mX5_tells.2.2.1 := by decide +kernel
set_option maxRecDepth 20000 in
theorem fX5_tells_34 : Cond.fieldLink mX5_tells.1 34 (TX5 9).1 (TX5 9).2.1 (TX5 9).2.2.1 ∈ mX5_tells.2.2.1 := by decide +kernel
set_option maxRecDepth 20000 in
theorem fX5_tells_40 : Cond.fieldLink mX5_tells.1 40 (TX5 11).1 (TX5 11).2.1 (TX5 11).2.2.1 ∈ mX5_tells.2.2.1 := by decide +kernel
set_option maxRecDepth 20000 in
theorem fX5_tells_22 : Cond.fieldLink mX5_tells.1 22 (TX5 5).1 (TX5 5).2.1 (TX5 5).2.2.1 ∈ mX5_tells.2.2.1 := by decide +kernel
set_option maxRecDepth 20000 in
theorem fX5_tells_86 : Cond.fieldLink mX5_tells.1 86 (TX5 17).1 (TX5 17).2.1 (TX5 17).2.2.1 ∈ mX5_tells.2.2.1 := by decide +kernel
def mX5_put : zs_M := (RX5, cX5_put, wsX5_put, 7, (some .int), { frames := 3, cells := 0, slots := 0, locals := 120 })
theorem YX5_put : zs_Y mX5_put yX5_put 4 := ⟨⟨_, rfl⟩, rfl, by decide +kernel, ⟨by decide +kernel, by decide +kernel, by decide +kernel⟩, rfl, rfl⟩
set_option maxRecDepth 20000 in
theorem kX5_put_55 : Cond.constant mX5_put.1 55 (-99999999) ∈ mX5_put.2.2.1 := by decide +kernel
def mX5_read : zs_M := (RX5, cX5_read, wsX5_read, 2, (some .int), { frames := 1, cells := 0, slots := 0, locals := 40 })
theorem YX5_read : zs_Y mX5_read yX5_read 1 := ⟨⟨_, rfl⟩, rfl, by decide +kernel, ⟨by decide +kernel, by decide +kernel, by decide +kernel⟩, rfl, rfl⟩
set_option maxRecDepth 20000 in
theorem nX5_read_X5 : ∀ w ∈ u_ws RX5 TX5 20, w ∈ mX5_read.2.2.1 := by decide +kernel
set_option maxRecDepth 20000 in
theorem fX5_read_19 : Cond.fieldLink mX5_read.1 19 (TX5 4).1 (TX5 4).2.1 (TX5 4).2.2.1 ∈ mX5_read.2.2.1 := by decide +kernel
set_option maxRecDepth 20000 in
theorem fX5_read_25 : Cond.fieldLink mX5_read.1 25 (TX5 6).1 (TX5 6).2.1 (TX5 6).2.2.1 ∈ mX5_read.2.2.1 := by decide +kernel
set_option maxRecDepth 20000 in
theorem fX5_read_34 : Cond.fieldLink mX5_read.1 34 (TX5 9).1 (TX5 9).2.1 (TX5 9).2.2.1 ∈ mX5_read.2.2.1 := by decide +kernel
def mX5_get : zs_M := (RX5, cX5_get, wsX5_get, 5, (some .int), { frames := 3, cells := 0, slots := 0, locals := 120 })
theorem YX5_get : zs_Y mX5_get yX5_get 3 := ⟨⟨_, rfl⟩, rfl, by decide +kernel, ⟨by decide +kernel, by decide +kernel, by decide +kernel⟩, rfl, rfl⟩
set_option maxRecDepth 20000 in
theorem kX5_get_55 : Cond.constant mX5_get.1 55 (-99999999) ∈ mX5_get.2.2.1 := by decide +kernel
def mX5_remove : zs_M := (RX5, cX5_remove, wsX5_remove, 6, (some .int), { frames := 3, cells := 0, slots := 0, locals := 120 })
theorem YX5_remove : zs_Y mX5_remove yX5_remove 3 := ⟨⟨_, rfl⟩, rfl, by decide +kernel, ⟨by decide +kernel, by decide +kernel, by decide +kernel⟩, rfl, rfl⟩
set_option maxRecDepth 20000 in
theorem kX5_remove_55 : Cond.constant mX5_remove.1 55 (-99999999) ∈ mX5_remove.2.2.1 := by decide +kernel
set_option maxRecDepth 20000 in
theorem nX5_remove_X5 : ∀ w ∈ u_ws RX5 TX5 20, w ∈ mX5_remove.2.2.1 := by decide +kernel
set_option maxRecDepth 20000 in
theorem fX5_remove_25 : Cond.fieldLink mX5_remove.1 25 (TX5 6).1 (TX5 6).2.1 (TX5 6).2.2.1 ∈ mX5_remove.2.2.1 := by decide +kernel
def mX5_held : zs_M := (RX5, cX5_held, wsX5_held, 6, (some .int), { frames := 2, cells := 0, slots := 0, locals := 80 })
theorem YX5_held : zs_Y mX5_held yX5_held 3 := ⟨⟨_, rfl⟩, rfl, by decide +kernel, ⟨by decide +kernel, by decide +kernel, by decide +kernel⟩, rfl, rfl⟩
set_option maxRecDepth 20000 in
theorem nX5_held_X5 : ∀ w ∈ u_ws RX5 TX5 20, w ∈ mX5_held.2.2.1 := by decide +kernel
set_option maxRecDepth 20000 in
theorem fX5_held_25 : Cond.fieldLink mX5_held.1 25 (TX5 6).1 (TX5 6).2.1 (TX5 6).2.2.1 ∈ mX5_held.2.2.1 := by decide +kernel
set_option maxRecDepth 20000 in
theorem fX5_held_28 : Cond.fieldLink mX5_held.1 28 (TX5 7).1 (TX5 7).2.1 (TX5 7).2.2.1 ∈ mX5_held.2.2.1 := by decide +kernel
def mX5_add : zs_M := (RX5, cX5_add, wsX5_add, 5, (some .int), { frames := 3, cells := 0, slots := 0, locals := 120 })
theorem YX5_add : zs_Y mX5_add yX5_add 3 := ⟨⟨_, rfl⟩, rfl, by decide +kernel, ⟨by decide +kernel, by decide +kernel, by decide +kernel⟩, rfl, rfl⟩
set_option maxRecDepth 20000 in
theorem kX5_add_55 : Cond.constant mX5_add.1 55 (-99999999) ∈ mX5_add.2.2.1 := by decide +kernel
def mX5_at : zs_M := (RX5, cX5_at, wsX5_at, 5, (some .int), { frames := 3, cells := 0, slots := 0, locals := 120 })
theorem YX5_at : zs_Y mX5_at yX5_at 3 := ⟨⟨_, rfl⟩, rfl, by decide +kernel, ⟨by decide +kernel, by decide +kernel, by decide +kernel⟩, rfl, rfl⟩
set_option maxRecDepth 20000 in
theorem kX5_at_55 : Cond.constant mX5_at.1 55 (-99999999) ∈ mX5_at.2.2.1 := by decide +kernel
def mX5_clear : zs_M := (RX5, cX5_clear, wsX5_clear, 5, (some .int), { frames := 2, cells := 0, slots := 0, locals := 80 })
theorem YX5_clear : zs_Y mX5_clear yX5_clear 2 := ⟨⟨_, rfl⟩, rfl, by decide +kernel, ⟨by decide +kernel, by decide +kernel, by decide +kernel⟩, rfl, rfl⟩
set_option maxRecDepth 20000 in
theorem nX5_clear_X5 : ∀ w ∈ u_ws RX5 TX5 20, w ∈ mX5_clear.2.2.1 := by decide +kernel
set_option maxRecDepth 20000 in
theorem fX5_clear_25 : Cond.fieldLink mX5_clear.1 25 (TX5 6).1 (TX5 6).2.1 (TX5 6).2.2.1 ∈ mX5_clear.2.2.1 := by decide +kernel
set_option maxRecDepth 20000 in
theorem fX5_clear_28 : Cond.fieldLink mX5_clear.1 28 (TX5 7).1 (TX5 7).2.1 (TX5 7).2.2.1 ∈ mX5_clear.2.2.1 := by decide +kernel
set_option maxRecDepth 20000 in
theorem kX5_clear_55 : Cond.constant mX5_clear.1 55 (-99999999) ∈ mX5_clear.2.2.1 := by decide +kernel
def mX5_isAsked : zs_M := (RX5, cX5_isAsked, wsX5_isAsked, 4, (some .boolean), { frames := 2, cells := 0, slots := 0, locals := 80 })
theorem YX5_isAsked : zs_Y mX5_isAsked yX5_isAsked 3 := ⟨⟨_, rfl⟩, rfl, by decide +kernel, ⟨by decide +kernel, by decide +kernel, by decide +kernel⟩, rfl, rfl⟩
set_option maxRecDepth 20000 in
theorem nX5_isAsked_X5 : ∀ w ∈ u_ws RX5 TX5 20, w ∈ mX5_isAsked.2.2.1 := by decide +kernel
set_option maxRecDepth 20000 in
theorem fX5_isAsked_7 : Cond.fieldLink mX5_isAsked.1 7 (TX5 1).1 (TX5 1).2.1 (TX5 1).2.2.1 ∈ mX5_isAsked.2.2.1 := by decide +kernel
def mX5_asked : zs_M := (RX5, cX5_asked, wsX5_asked, 5, (some .int), { frames := 3, cells := 0, slots := 0, locals := 120 })
theorem YX5_asked : zs_Y mX5_asked yX5_asked 4 := ⟨⟨_, rfl⟩, rfl, by decide +kernel, ⟨by decide +kernel, by decide +kernel, by decide +kernel⟩, rfl, rfl⟩
set_option maxRecDepth 20000 in
theorem nX5_asked_X5 : ∀ w ∈ u_ws RX5 TX5 20, w ∈ mX5_asked.2.2.1 := by decide +kernel
set_option maxRecDepth 20000 in
theorem fX5_asked_7 : Cond.fieldLink mX5_asked.1 7 (TX5 1).1 (TX5 1).2.1 (TX5 1).2.2.1 ∈ mX5_asked.2.2.1 := by decide +kernel
set_option maxRecDepth 20000 in
theorem kX5_asked_55 : Cond.constant mX5_asked.1 55 (-99999999) ∈ mX5_asked.2.2.1 := by decide +kernel
def mX5_left : zs_M := (RX5, cX5_left, wsX5_left, 5, (some .int), { frames := 4, cells := 0, slots := 0, locals := 160 })
theorem YX5_left : zs_Y mX5_left yX5_left 3 := ⟨⟨_, rfl⟩, rfl, by decide +kernel, ⟨by decide +kernel, by decide +kernel, by decide +kernel⟩, rfl, rfl⟩
set_option maxRecDepth 20000 in
theorem kX5_left_55 : Cond.constant mX5_left.1 55 (-99999999) ∈ mX5_left.2.2.1 := by decide +kernel
set_option maxRecDepth 20000 in
theorem nX5_left_X5 : ∀ w ∈ u_ws RX5 TX5 20, w ∈ mX5_left.2.2.1 := by decide +kernel
set_option maxRecDepth 20000 in
theorem fX5_left_40 : Cond.fieldLink mX5_left.1 40 (TX5 11).1 (TX5 11).2.1 (TX5 11).2.2.1 ∈ mX5_left.2.2.1 := by decide +kernel
def mX5_place : zs_M := (RX5, cX5_place, wsX5_place, 4, (some .int), { frames := 4, cells := 0, slots := 0, locals := 160 })
theorem YX5_place : zs_Y mX5_place yX5_place 3 := ⟨⟨_, rfl⟩, rfl, by decide +kernel, ⟨by decide +kernel, by decide +kernel, by decide +kernel⟩, rfl, rfl⟩
def mX5_overs : zs_M := (RX5, cX5_overs, wsX5_overs, 3, (some .int), { frames := 2, cells := 0, slots := 0, locals := 80 })
theorem YX5_overs : zs_Y mX5_overs yX5_overs 0 := ⟨⟨_, rfl⟩, rfl, by decide +kernel, ⟨by decide +kernel, by decide +kernel, by decide +kernel⟩, rfl, rfl⟩
def mX5_comes : zs_M := (RX5, cX5_comes, wsX5_comes, 4, (some .int), { frames := 3, cells := 0, slots := 0, locals := 120 })
theorem YX5_comes : zs_Y mX5_comes yX5_comes 2 := ⟨⟨_, rfl⟩, rfl, by decide +kernel, ⟨by decide +kernel, by decide +kernel, by decide +kernel⟩, rfl, rfl⟩
set_option maxRecDepth 20000 in
theorem nX5_comes_X5 : ∀ w ∈ u_ws RX5 TX5 20, w ∈ mX5_comes.2.2.1 := by decide +kernel
set_option maxRecDepth 20000 in
theorem fX5_comes_22 : Cond.fieldLink mX5_comes.1 22 (TX5 5).1 (TX5 5).2.1 (TX5 5).2.2.1 ∈ mX5_comes.2.2.1 := by decide +kernel
def mX5_tick : zs_M := (RX5, cX5_tick, wsX5_tick, 2, (some .int), { frames := 4, cells := 0, slots := 0, locals := 160 })
theorem YX5_tick : zs_Y mX5_tick yX5_tick 1 := ⟨⟨_, rfl⟩, rfl, by decide +kernel, ⟨by decide +kernel, by decide +kernel, by decide +kernel⟩, rfl, rfl⟩
set_option maxRecDepth 20000 in
theorem kX5_tick_68 : Cond.constant mX5_tick.1 68 (100000) ∈ mX5_tick.2.2.1 := by decide +kernel
set_option maxRecDepth 20000 in
theorem nX5_tick_X5 : ∀ w ∈ u_ws RX5 TX5 20, w ∈ mX5_tick.2.2.1 := by decide +kernel
set_option maxRecDepth 20000 in
theorem fX5_tick_22 : Cond.fieldLink mX5_tick.1 22 (TX5 5).1 (TX5 5).2.1 (TX5 5).2.2.1 ∈ mX5_tick.2.2.1 := by decide +kernel
set_option maxRecDepth 20000 in
theorem kX5_tick_131 : Cond.constant mX5_tick.1 131 (1000000000) ∈ mX5_tick.2.2.1 := by decide +kernel
def mX5_watermark : zs_M := (RX5, cX5_watermark, wsX5_watermark, 2, (some .int), { frames := 4, cells := 0, slots := 0, locals := 160 })
theorem YX5_watermark : zs_Y mX5_watermark yX5_watermark 1 := ⟨⟨_, rfl⟩, rfl, by decide +kernel, ⟨by decide +kernel, by decide +kernel, by decide +kernel⟩, rfl, rfl⟩
set_option maxRecDepth 20000 in
theorem kX5_watermark_131 : Cond.constant mX5_watermark.1 131 (1000000000) ∈ mX5_watermark.2.2.1 := by decide +kernel
set_option maxRecDepth 20000 in
theorem nX5_watermark_X5 : ∀ w ∈ u_ws RX5 TX5 20, w ∈ mX5_watermark.2.2.1 := by decide +kernel
set_option maxRecDepth 20000 in
theorem fX5_watermark_22 : Cond.fieldLink mX5_watermark.1 22 (TX5 5).1 (TX5 5).2.1 (TX5 5).2.2.1 ∈ mX5_watermark.2.2.1 := by decide +kernel
def mX5_sweep : zs_M := (RX5, cX5_sweep, wsX5_sweep, 4, (some .int), { frames := 2, cells := 0, slots := 0, locals := 80 })
theorem YX5_sweep : zs_Y mX5_sweep yX5_sweep 1 := ⟨⟨_, rfl⟩, rfl, by decide +kernel, ⟨by decide +kernel, by decide +kernel, by decide +kernel⟩, rfl, rfl⟩
set_option maxRecDepth 20000 in
theorem nX5_sweep_X5 : ∀ w ∈ u_ws RX5 TX5 20, w ∈ mX5_sweep.2.2.1 := by decide +kernel
set_option maxRecDepth 20000 in
theorem fX5_sweep_136 : Cond.fieldLink mX5_sweep.1 136 (TX5 14).1 (TX5 14).2.1 (TX5 14).2.2.1 ∈ mX5_sweep.2.2.1 := by decide +kernel
set_option maxRecDepth 20000 in
theorem fX5_sweep_25 : Cond.fieldLink mX5_sweep.1 25 (TX5 6).1 (TX5 6).2.1 (TX5 6).2.2.1 ∈ mX5_sweep.2.2.1 := by decide +kernel
set_option maxRecDepth 20000 in
theorem kX5_sweep_55 : Cond.constant mX5_sweep.1 55 (-99999999) ∈ mX5_sweep.2.2.1 := by decide +kernel
def mX5_setting : zs_M := (RX5, cX5_setting, wsX5_setting, 6, (some .int), { frames := 2, cells := 0, slots := 0, locals := 80 })
theorem YX5_setting : zs_Y mX5_setting yX5_setting 3 := ⟨⟨_, rfl⟩, rfl, by decide +kernel, ⟨by decide +kernel, by decide +kernel, by decide +kernel⟩, rfl, rfl⟩
set_option maxRecDepth 20000 in
theorem kX5_setting_68 : Cond.constant mX5_setting.1 68 (100000) ∈ mX5_setting.2.2.1 := by decide +kernel
set_option maxRecDepth 20000 in
theorem nX5_setting_X5 : ∀ w ∈ u_ws RX5 TX5 20, w ∈ mX5_setting.2.2.1 := by decide +kernel
set_option maxRecDepth 20000 in
theorem fX5_setting_16 : Cond.fieldLink mX5_setting.1 16 (TX5 3).1 (TX5 3).2.1 (TX5 3).2.2.1 ∈ mX5_setting.2.2.1 := by decide +kernel
set_option maxRecDepth 20000 in
theorem fX5_setting_25 : Cond.fieldLink mX5_setting.1 25 (TX5 6).1 (TX5 6).2.1 (TX5 6).2.2.1 ∈ mX5_setting.2.2.1 := by decide +kernel
set_option maxRecDepth 20000 in
theorem fX5_setting_40 : Cond.fieldLink mX5_setting.1 40 (TX5 11).1 (TX5 11).2.1 (TX5 11).2.2.1 ∈ mX5_setting.2.2.1 := by decide +kernel
set_option maxRecDepth 20000 in
theorem fX5_setting_37 : Cond.fieldLink mX5_setting.1 37 (TX5 10).1 (TX5 10).2.1 (TX5 10).2.2.1 ∈ mX5_setting.2.2.1 := by decide +kernel
def mX5_isAhead : zs_M := (RX5, cX5_isAhead, wsX5_isAhead, 3, (some .boolean), { frames := 0, cells := 0, slots := 0, locals := 0 })
theorem YX5_isAhead : zs_Y mX5_isAhead yX5_isAhead 2 := ⟨⟨_, rfl⟩, rfl, by decide +kernel, ⟨by decide +kernel, by decide +kernel, by decide +kernel⟩, rfl, rfl⟩
set_option maxRecDepth 20000 in
theorem nX5_isAhead_X5 : ∀ w ∈ u_ws RX5 TX5 20, w ∈ mX5_isAhead.2.2.1 := by decide +kernel
set_option maxRecDepth 20000 in
theorem fX5_isAhead_25 : Cond.fieldLink mX5_isAhead.1 25 (TX5 6).1 (TX5 6).2.1 (TX5 6).2.2.1 ∈ mX5_isAhead.2.2.1 := by decide +kernel
set_option maxRecDepth 20000 in
theorem fX5_isAhead_28 : Cond.fieldLink mX5_isAhead.1 28 (TX5 7).1 (TX5 7).2.1 (TX5 7).2.2.1 ∈ mX5_isAhead.2.2.1 := by decide +kernel
set_option maxRecDepth 20000 in
theorem fX5_isAhead_31 : Cond.fieldLink mX5_isAhead.1 31 (TX5 8).1 (TX5 8).2.1 (TX5 8).2.2.1 ∈ mX5_isAhead.2.2.1 := by decide +kernel
set_option maxRecDepth 20000 in
theorem fX5_isAhead_43 : Cond.fieldLink mX5_isAhead.1 43 (TX5 12).1 (TX5 12).2.1 (TX5 12).2.2.1 ∈ mX5_isAhead.2.2.1 := by decide +kernel
def mX5_nextKept : zs_M := (RX5, cX5_nextKept, wsX5_nextKept, 4, (some .int), { frames := 2, cells := 0, slots := 0, locals := 80 })
theorem YX5_nextKept : zs_Y mX5_nextKept yX5_nextKept 1 := ⟨⟨_, rfl⟩, rfl, by decide +kernel, ⟨by decide +kernel, by decide +kernel, by decide +kernel⟩, rfl, rfl⟩
set_option maxRecDepth 20000 in
theorem kX5_nextKept_55 : Cond.constant mX5_nextKept.1 55 (-99999999) ∈ mX5_nextKept.2.2.1 := by decide +kernel
def mX5_mark : zs_M := (RX5, cX5_mark, wsX5_mark, 5, (some .int), { frames := 3, cells := 0, slots := 0, locals := 120 })
theorem YX5_mark : zs_Y mX5_mark yX5_mark 1 := ⟨⟨_, rfl⟩, rfl, by decide +kernel, ⟨by decide +kernel, by decide +kernel, by decide +kernel⟩, rfl, rfl⟩
set_option maxRecDepth 20000 in
theorem kX5_mark_55 : Cond.constant mX5_mark.1 55 (-99999999) ∈ mX5_mark.2.2.1 := by decide +kernel
set_option maxRecDepth 20000 in
theorem nX5_mark_X5 : ∀ w ∈ u_ws RX5 TX5 20, w ∈ mX5_mark.2.2.1 := by decide +kernel
set_option maxRecDepth 20000 in
theorem fX5_mark_52 : Cond.fieldLink mX5_mark.1 52 (TX5 19).1 (TX5 19).2.1 (TX5 19).2.2.1 ∈ mX5_mark.2.2.1 := by decide +kernel
set_option maxRecDepth 20000 in
theorem fX5_mark_25 : Cond.fieldLink mX5_mark.1 25 (TX5 6).1 (TX5 6).2.1 (TX5 6).2.2.1 ∈ mX5_mark.2.2.1 := by decide +kernel
set_option maxRecDepth 20000 in
theorem fX5_mark_28 : Cond.fieldLink mX5_mark.1 28 (TX5 7).1 (TX5 7).2.1 (TX5 7).2.2.1 ∈ mX5_mark.2.2.1 := by decide +kernel
set_option maxRecDepth 20000 in
theorem fX5_mark_31 : Cond.fieldLink mX5_mark.1 31 (TX5 8).1 (TX5 8).2.1 (TX5 8).2.2.1 ∈ mX5_mark.2.2.1 := by decide +kernel
set_option maxRecDepth 20000 in
theorem fX5_mark_34 : Cond.fieldLink mX5_mark.1 34 (TX5 9).1 (TX5 9).2.1 (TX5 9).2.2.1 ∈ mX5_mark.2.2.1 := by decide +kernel
set_option maxRecDepth 20000 in
theorem fX5_mark_40 : Cond.fieldLink mX5_mark.1 40 (TX5 11).1 (TX5 11).2.1 (TX5 11).2.2.1 ∈ mX5_mark.2.2.1 := by decide +kernel
set_option maxRecDepth 20000 in
theorem fX5_mark_49 : Cond.fieldLink mX5_mark.1 49 (TX5 18).1 (TX5 18).2.1 (TX5 18).2.2.1 ∈ mX5_mark.2.2.1 := by decide +kernel
def mX5_restore : zs_M := (RX5, cX5_restore, wsX5_restore, 4, (some .int), { frames := 2, cells := 0, slots := 0, locals := 80 })
theorem YX5_restore : zs_Y mX5_restore yX5_restore 1 := ⟨⟨_, rfl⟩, rfl, by decide +kernel, ⟨by decide +kernel, by decide +kernel, by decide +kernel⟩, rfl, rfl⟩
set_option maxRecDepth 20000 in
theorem nX5_restore_X5 : ∀ w ∈ u_ws RX5 TX5 20, w ∈ mX5_restore.2.2.1 := by decide +kernel
set_option maxRecDepth 20000 in
theorem fX5_restore_49 : Cond.fieldLink mX5_restore.1 49 (TX5 18).1 (TX5 18).2.1 (TX5 18).2.2.1 ∈ mX5_restore.2.2.1 := by decide +kernel
set_option maxRecDepth 20000 in
theorem kX5_restore_55 : Cond.constant mX5_restore.1 55 (-99999999) ∈ mX5_restore.2.2.1 := by decide +kernel
set_option maxRecDepth 20000 in
theorem fX5_restore_25 : Cond.fieldLink mX5_restore.1 25 (TX5 6).1 (TX5 6).2.1 (TX5 6).2.2.1 ∈ mX5_restore.2.2.1 := by decide +kernel
set_option maxRecDepth 20000 in
theorem fX5_restore_52 : Cond.fieldLink mX5_restore.1 52 (TX5 19).1 (TX5 19).2.1 (TX5 19).2.2.1 ∈ mX5_restore.2.2.1 := by decide +kernel
set_option maxRecDepth 20000 in
theorem fX5_restore_40 : Cond.fieldLink mX5_restore.1 40 (TX5 11).1 (TX5 11).2.1 (TX5 11).2.2.1 ∈ mX5_restore.2.2.1 := by decide +kernel
set_option maxRecDepth 20000 in
theorem fX5_restore_37 : Cond.fieldLink mX5_restore.1 37 (TX5 10).1 (TX5 10).2.1 (TX5 10).2.2.1 ∈ mX5_restore.2.2.1 := by decide +kernel
set_option maxRecDepth 20000 in
theorem fX5_restore_136 : Cond.fieldLink mX5_restore.1 136 (TX5 14).1 (TX5 14).2.1 (TX5 14).2.2.1 ∈ mX5_restore.2.2.1 := by decide +kernel
def mX5_row : zs_M := (RX5, cX5_row, wsX5_row, 3, (some .int), { frames := 1, cells := 0, slots := 0, locals := 40 })
theorem YX5_row : zs_Y mX5_row yX5_row 2 := ⟨⟨_, rfl⟩, rfl, by decide +kernel, ⟨by decide +kernel, by decide +kernel, by decide +kernel⟩, rfl, rfl⟩
set_option maxRecDepth 20000 in
theorem nX5_row_X5 : ∀ w ∈ u_ws RX5 TX5 20, w ∈ mX5_row.2.2.1 := by decide +kernel
set_option maxRecDepth 20000 in
theorem fX5_row_83 : Cond.fieldLink mX5_row.1 83 (TX5 16).1 (TX5 16).2.1 (TX5 16).2.2.1 ∈ mX5_row.2.2.1 := by decide +kernel
set_option maxRecDepth 20000 in
theorem fX5_row_46 : Cond.fieldLink mX5_row.1 46 (TX5 15).1 (TX5 15).2.1 (TX5 15).2.2.1 ∈ mX5_row.2.2.1 := by decide +kernel
set_option maxRecDepth 20000 in
theorem kX5_row_55 : Cond.constant mX5_row.1 55 (-99999999) ∈ mX5_row.2.2.1 := by decide +kernel
def mX5_next : zs_M := (RX5, cX5_next, wsX5_next, 4, (some .int), { frames := 2, cells := 0, slots := 0, locals := 80 })
theorem YX5_next : zs_Y mX5_next yX5_next 1 := ⟨⟨_, rfl⟩, rfl, by decide +kernel, ⟨by decide +kernel, by decide +kernel, by decide +kernel⟩, rfl, rfl⟩
set_option maxRecDepth 20000 in
theorem kX5_next_55 : Cond.constant mX5_next.1 55 (-99999999) ∈ mX5_next.2.2.1 := by decide +kernel
set_option maxRecDepth 20000 in
theorem nX5_next_X5 : ∀ w ∈ u_ws RX5 TX5 20, w ∈ mX5_next.2.2.1 := by decide +kernel
set_option maxRecDepth 20000 in
theorem fX5_next_25 : Cond.fieldLink mX5_next.1 25 (TX5 6).1 (TX5 6).2.1 (TX5 6).2.2.1 ∈ mX5_next.2.2.1 := by decide +kernel
set_option maxRecDepth 20000 in
theorem fX5_next_40 : Cond.fieldLink mX5_next.1 40 (TX5 11).1 (TX5 11).2.1 (TX5 11).2.2.1 ∈ mX5_next.2.2.1 := by decide +kernel
def mX5_count : zs_M := (RX5, cX5_count, wsX5_count, 5, (some .int), { frames := 2, cells := 0, slots := 0, locals := 80 })
theorem YX5_count : zs_Y mX5_count yX5_count 1 := ⟨⟨_, rfl⟩, rfl, by decide +kernel, ⟨by decide +kernel, by decide +kernel, by decide +kernel⟩, rfl, rfl⟩
set_option maxRecDepth 20000 in
theorem nX5_count_X5 : ∀ w ∈ u_ws RX5 TX5 20, w ∈ mX5_count.2.2.1 := by decide +kernel
set_option maxRecDepth 20000 in
theorem fX5_count_25 : Cond.fieldLink mX5_count.1 25 (TX5 6).1 (TX5 6).2.1 (TX5 6).2.2.1 ∈ mX5_count.2.2.1 := by decide +kernel
set_option maxRecDepth 20000 in
theorem kX5_count_55 : Cond.constant mX5_count.1 55 (-99999999) ∈ mX5_count.2.2.1 := by decide +kernel
set_option maxRecDepth 20000 in
theorem fX5_count_56 : Cond.fieldLink mX5_count.1 56 (TX5 0).1 (TX5 0).2.1 (TX5 0).2.2.1 ∈ mX5_count.2.2.1 := by decide +kernel
set_option maxRecDepth 20000 in
theorem fX5_count_83 : Cond.fieldLink mX5_count.1 83 (TX5 16).1 (TX5 16).2.1 (TX5 16).2.2.1 ∈ mX5_count.2.2.1 := by decide +kernel
set_option maxRecDepth 20000 in
theorem fX5_count_86 : Cond.fieldLink mX5_count.1 86 (TX5 17).1 (TX5 17).2.1 (TX5 17).2.2.1 ∈ mX5_count.2.2.1 := by decide +kernel
set_option maxRecDepth 20000 in
theorem fX5_count_22 : Cond.fieldLink mX5_count.1 22 (TX5 5).1 (TX5 5).2.1 (TX5 5).2.2.1 ∈ mX5_count.2.2.1 := by decide +kernel
set_option maxRecDepth 20000 in
theorem fX5_count_136 : Cond.fieldLink mX5_count.1 136 (TX5 14).1 (TX5 14).2.1 (TX5 14).2.2.1 ∈ mX5_count.2.2.1 := by decide +kernel
end
section

/-! truth as a number -/
noncomputable def zb (P : Prop) : Int := @ite Int P (Classical.propDecidable P) 1 0
theorem zb_p {P : Prop} (h : P) : zb P = 1 := by unfold zb; exact if_pos h
theorem zb_n {P : Prop} (h : ¬ P) : zb P = 0 := by unfold zb; exact if_neg h
theorem zb_b (P : Prop) : 0 ≤ zb P ∧ zb P ≤ 1 := by
  by_cases h : P
  · rw [zb_p h]; omega
  · rw [zb_n h]; omega
theorem zb_01 (P : Prop) : zb P = 0 ∨ zb P = 1 := by have := zb_b P; omega
theorem zb_zn (P : Prop) : zn (zb P) := by have := zb_b P; omega
theorem zb_t {P : Prop} (h : ¬ zb P = 0) : P := by
  by_cases hp : P
  · exact hp
  · exact absurd (zb_n hp) h
theorem zb_f {P : Prop} (h : zb P = 0) : ¬ P := fun hp => by rw [zb_p hp] at h; omega
theorem zb_c {P Q : Prop} (h : P ↔ Q) : zb P = zb Q := by rw [propext h]
theorem zb_if (P : Prop) (i : Decidable P) : zb P = @ite Int P i 1 0 := by
  by_cases h : P
  · rw [zb_p h, if_pos h]
  · rw [zb_n h, if_neg h]
section ZB
variable {M : zs_M} {k n : Nat} {sh : List zs_C} {post post' : Int → zs_V → Prop} {v : zs_V} {pc : Nat} {lv : List (Option zs_A)} {st : List zs_A}
theorem zs_ifz_eq {P : Prop} {off : Int} {tgt : Nat} (hd : decode M.2.1 pc = .ok (.ifCond .eq off, 3)) (ht : (pc : Int) + off = (tgt : Int)) (kt : ¬ P → zs_R M k n sh post v tgt lv st) (kf : P → zs_R M k n sh post v (pc + 3) lv st) : zs_R M k n sh post v pc lv (.inl (zb P) :: st) :=
  zs_if_eq hd ht (zb_zn P) (fun h => kt (zb_f h)) (fun h => kf (zb_t h))
theorem zs_ifz_ne {P : Prop} {off : Int} {tgt : Nat} (hd : decode M.2.1 pc = .ok (.ifCond .ne off, 3)) (ht : (pc : Int) + off = (tgt : Int)) (kt : P → zs_R M k n sh post v tgt lv st) (kf : ¬ P → zs_R M k n sh post v (pc + 3) lv st) : zs_R M k n sh post v pc lv (.inl (zb P) :: st) :=
  zs_if_ne hd ht (zb_zn P) (fun h => kt (zb_t h)) (fun h => kf (zb_f h))
theorem zs_Q_mono {ret : Option FieldType} {B : zs_V → State → Prop} {A : Nat → Prop} (h : ∀ r v, post r v → post' r v) {a : Array Value} {s t : State} {o : Outcome} (hq : zs_Q ret post B A a s o t) : zs_Q ret post' B A a s o t := by
  cases ret with
  | none =>
    obtain ⟨⟨u, h1, h2, h3⟩, h4⟩ := hq
    exact ⟨⟨u, h1, h _ _ h2, h3⟩, h4⟩
  | some ty =>
    obtain ⟨⟨r, u, h1, ⟨x, h2, h5⟩, h3⟩, h4⟩ := hq
    exact ⟨⟨r, u, h1, ⟨x, h2, h _ _ h5⟩, h3⟩, h4⟩
/-- a weaker end -/
theorem zs_mono (h : ∀ r v, post r v → post' r v) (hR : zs_R M k n sh post v pc lv st) : zs_R M k n sh post' v pc lv st := by
  intro p l e s m args below meth c dC dI cA a A H locs ls hF hr hlk hK hA hL hP hD hS T hT X
  obtain ⟨t, h1, o, h2, h3, h4, h5⟩ := hR p l e s m args below meth c dC dI cA a A H locs ls hF hr hlk hK hA hL hP hD hS T hT X
  exact ⟨t, h1, o, h2, h3, zs_Q_mono h h4, h5⟩
end ZB
/-- just this answer, just this state -/
abbrev zs_X (r0 : Int) (v0 : zs_V) : Int → zs_V → Prop := fun r v' => r = r0 ∧ v' = v0
section ZE
variable {M M' : zs_M} {k n : Nat} {sh : List zs_C} {post : Int → zs_V → Prop} {v v0 : zs_V} {r0 : Int} {pc : Nat} {lv : List (Option zs_A)} {st : List zs_A} {y : MethodName} {np q ci i : Nat} {fs : List zs_F} {C : String} {T : u_T} {N : Nat} {As rest : List zs_A}
theorem zs_eV {ty : FieldType} (hd : decode M.2.1 pc = .ok (.invokevirtual i, 3)) (hst : st = As.reverse ++ .inr q :: rest) (hlen : rest.length ≤ 8) (hs : sh[q]? = some (.inl (ci, fs))) (hc : vwCl[ci]? = some (C, T, N)) (hY : zs_Y M' y np) (hC : y.cls = C) (hnp : As.length = np) (hnl : As.length + 1 ≤ M'.2.2.2.1) (hG : GoodIn M.2.2.1 (wsV M.1 i C y M'.2.2.1)) (hR : M'.2.2.2.2.2.frames + 1 ≤ M.2.2.2.2.2.frames ∧ 8 + (M'.2.2.2.1 + 11) + M'.2.2.2.2.2.locals ≤ M.2.2.2.2.2.locals) (hkn : k ≤ M.2.2.2.2.2.cells ∧ n ≤ M.2.2.2.2.2.slots) (hret : M'.2.2.2.2.1 = some ty) (hM : zs_R M' 0 0 sh (zs_X r0 v0) v 0 (zs_ent M'.2.2.2.1 (.inr q :: As)) [])
    (kk : zs_R M k n sh post v0 (pc + 3) lv (.inl r0 :: rest)) : zs_R M k n sh post v pc lv st :=
  zs_callV hd hst hlen hs hc hY hC hnp hnl hG hR hkn hret hM (fun r v' h => by rw [h.1, h.2]; exact kk)
theorem zs_eVv (hd : decode M.2.1 pc = .ok (.invokevirtual i, 3)) (hst : st = As.reverse ++ .inr q :: rest) (hlen : rest.length ≤ 8) (hs : sh[q]? = some (.inl (ci, fs))) (hc : vwCl[ci]? = some (C, T, N)) (hY : zs_Y M' y np) (hC : y.cls = C) (hnp : As.length = np) (hnl : As.length + 1 ≤ M'.2.2.2.1) (hG : GoodIn M.2.2.1 (wsV M.1 i C y M'.2.2.1)) (hR : M'.2.2.2.2.2.frames + 1 ≤ M.2.2.2.2.2.frames ∧ 8 + (M'.2.2.2.1 + 11) + M'.2.2.2.2.2.locals ≤ M.2.2.2.2.2.locals) (hkn : k ≤ M.2.2.2.2.2.cells ∧ n ≤ M.2.2.2.2.2.slots) (hret : M'.2.2.2.2.1 = none) (hM : zs_R M' 0 0 sh (zs_X 0 v0) v 0 (zs_ent M'.2.2.2.1 (.inr q :: As)) [])
    (kk : zs_R M k n sh post v0 (pc + 3) lv rest) : zs_R M k n sh post v pc lv st :=
  zs_callVv hd hst hlen hs hc hY hC hnp hnl hG hR hkn hret hM (fun v' h => by rw [h.2]; exact kk)
theorem zs_eS {ty : FieldType} (hd : decode M.2.1 pc = .ok (.invokestatic i, 3)) (hst : st = As.reverse ++ rest) (hlen : rest.length ≤ 8) (hY : zs_Y M' y np) (hnp : As.length = np) (hnl : As.length ≤ M'.2.2.2.1) (hG : GoodIn M.2.2.1 (va_wsS M.1 i y M'.2.2.1)) (hR : M'.2.2.2.2.2.frames + 1 ≤ M.2.2.2.2.2.frames ∧ 8 + (M'.2.2.2.1 + 11) + M'.2.2.2.2.2.locals ≤ M.2.2.2.2.2.locals) (hkn : k ≤ M.2.2.2.2.2.cells ∧ n ≤ M.2.2.2.2.2.slots) (hret : M'.2.2.2.2.1 = some ty) (hM : zs_R M' 0 0 sh (zs_X r0 v0) v 0 (zs_ent M'.2.2.2.1 As) [])
    (kk : zs_R M k n sh post v0 (pc + 3) lv (.inl r0 :: rest)) : zs_R M k n sh post v pc lv st :=
  zs_callS hd hst hlen hY hnp hnl hG hR hkn hret hM (fun r v' h => by rw [h.1, h.2]; exact kk)
theorem zs_eSv (hd : decode M.2.1 pc = .ok (.invokestatic i, 3)) (hst : st = As.reverse ++ rest) (hlen : rest.length ≤ 8) (hY : zs_Y M' y np) (hnp : As.length = np) (hnl : As.length ≤ M'.2.2.2.1) (hG : GoodIn M.2.2.1 (va_wsS M.1 i y M'.2.2.1)) (hR : M'.2.2.2.2.2.frames + 1 ≤ M.2.2.2.2.2.frames ∧ 8 + (M'.2.2.2.1 + 11) + M'.2.2.2.2.2.locals ≤ M.2.2.2.2.2.locals) (hkn : k ≤ M.2.2.2.2.2.cells ∧ n ≤ M.2.2.2.2.2.slots) (hret : M'.2.2.2.2.1 = none) (hM : zs_R M' 0 0 sh (zs_X 0 v0) v 0 (zs_ent M'.2.2.2.1 As) [])
    (kk : zs_R M k n sh post v0 (pc + 3) lv rest) : zs_R M k n sh post v pc lv st :=
  zs_callSv hd hst hlen hY hnp hnl hG hR hkn hret hM (fun v' h => by rw [h.2]; exact kk)
end ZE
theorem zs_put_s (v : zs_V) (r : Nat) (k x : Int) : zs_put v r k x r k = x := by simp [zs_put]
theorem zs_put_r (v : zs_V) (r : Nat) (k x : Int) {r' : Nat} (h : r' ≠ r) : zs_put v r k x r' = v r' := by
  funext j
  simp [zs_put, h]
theorem zs_put_k (v : zs_V) (r : Nat) (k x : Int) {k' : Int} (h : k' ≠ k) : zs_put v r k x r k' = v r k' := by simp [zs_put, h]
theorem zs_put_e (v : zs_V) (r : Nat) (k x : Int) (k' : Int) : zs_put v r k x r k' = if k' = k then x else v r k' := by simp [zs_put]
/-! the class: what its methods answer, out of its registers -/
def x_left (v : zs_V) (p : Int) : Int := v 8 p - v 4 (v 1 (v 5 p / 1000))
/-- the states are as they must be -/
def x_S (v : zs_V) : Prop := 0 ≤ v 15 0 ∧ v 15 0 ≤ 6 ∧ (∀ s : Int, 0 ≤ s → s < v 15 0 → (v 0 s = 0 ∨ v 0 s = 1) ∧ (v 1 s = 0 ∨ v 1 s = 1) ∧ 1 ≤ v 2 s ∧ v 2 s ≤ 100000 ∧ (v 3 s = 0 ∨ v 3 s = 1)) ∧ 0 ≤ v 4 0 ∧ v 4 0 ≤ 1000000000 ∧ 0 ≤ v 4 1 ∧ v 4 1 ≤ 1000000000
/-- a place that is taken -/
def x_P (v : zs_V) (p : Int) : Prop := 0 ≤ p ∧ p < 200 ∧ 0 ≤ v 5 p ∧ v 5 p < 1000 * v 15 0
def x_E (v : zs_V) (p : Int) : Prop := x_P v p ∧ 0 ≤ v 8 p ∧ v 8 p ≤ 1000100000
/-- the line -/
def x_T (v : zs_V) : Prop := 0 ≤ v 16 0 ∧ v 16 0 ≤ 200 ∧ ∀ j : Int, 0 ≤ j → j < v 16 0 → x_E v (v 9 j)
def x_seg (v : zs_V) : Int → Nat → List Int
  | _, 0 => []
  | j, n + 1 => v 9 j :: x_seg v (j + 1) n
def x_L (v : zs_V) : List Int := x_seg v 0 (v 16 0).toNat
def x_pl (v : zs_V) (slot i over : Int) : List Int → Int → Int
  | [], _ => -1
  | p :: ps, b => if v 5 p = slot ∧ (¬ over = 0 ∨ 0 < x_left v p) then (if b = i then p else x_pl v slot i over ps (b + 1)) else x_pl v slot i over ps b
noncomputable def x_hm (v : zs_V) (s k b : Int) : List Int → Int
  | [] => 0
  | p :: ps => (if (v 5 p / 1000 = s ∧ v 5 p / 10 % 100 = k) ∧ zb (0 < x_left v p) = b then 1 else 0) + x_hm v s k b ps
def x_hs (v : zs_V) : List Int → Int
  | [] => 0
  | p :: ps => (if 0 < x_left v p then 1 else 0) + x_hs v ps
def x_nx (v : zs_V) (s : Int) : List Int → Int → Int
  | [], l => l
  | p :: ps, l => x_nx v s ps (if v 5 p / 1000 = s ∧ 0 < x_left v p ∧ (l = -99999999 ∨ v 8 p < l) then v 8 p else l)
def x_lf (v : zs_V) : Nat → Int → Int
  | 0, _ => -1
  | n + 1, p => if v 5 p = -1 then p else x_lf v n (p + 1)
def x_stamp (v : zs_V) (p span : Int) : zs_V := zs_put (zs_put v 7 p (v 4 (v 1 (v 5 p / 1000)))) 8 p (v 4 (v 1 (v 5 p / 1000)) + span)
def x_write (v : zs_V) (p x : Int) : zs_V := x_stamp (zs_put v 6 p x) p (v 2 (v 5 p / 1000))
def x_ri (v : zs_V) (i : Int) : Int := (v 17 0 + i) % 150 * 6
def x_rb (v : zs_V) : zs_V := zs_put (if v 18 0 = 150 then zs_put v 17 0 ((v 17 0 + 1) % 150) else zs_put v 18 0 (v 18 0 + 1)) 19 0 (v 19 0 + 1)
def x_tellA (u v : zs_V) (i p : Int) : zs_V := zs_put (zs_put (zs_put (zs_put (zs_put (zs_put u 10 i (v 5 p / 1000)) 10 (i + 1) (v 5 p / 10 % 100)) 10 (i + 2) (v 5 p % 10)) 10 (i + 3) (v 6 p)) 10 (i + 4) (v 8 p)) 10 (i + 5) (v 4 0)
def x_tell (v : zs_V) (p : Int) : zs_V := x_tellA (x_rb v) (x_rb v) (x_ri (x_rb v) ((x_rb v) 18 0 - 1)) p
def x_keep (v : zs_V) (m s x l : Int) : zs_V := zs_put (zs_put (zs_put (zs_put v 11 (m * 200 + v 14 m) s) 12 (m * 200 + v 14 m) x) 13 (m * 200 + v 14 m) l) 14 m (v 14 m + 1)
def x_mk (m : Int) : List Int → zs_V → zs_V
  | [], v => v
  | p :: ps, v => x_mk m ps (if 0 < x_left v p then x_keep v m (v 5 p) (v 6 p) (x_left v p) else v)
def x_sa (s : Int) : List Int → zs_V → zs_V
  | [], v => v
  | p :: ps, v => x_sa s ps (if v 5 p / 1000 = s ∧ 0 < x_left v p then zs_put v 8 p (v 7 p + v 2 s) else v)
/-- a place goes -/
def x_Vac (v : zs_V) (p : Int) (v' : zs_V) : Prop := (∀ r, r ≠ 5 → r ≠ 9 → r ≠ 16 → v' r = v r) ∧ (∀ q, v' 5 q = if q = p then -1 else v 5 q) ∧ 0 ≤ v' 16 0 ∧ v' 16 0 ≤ v 16 0 ∧ x_L v' = (x_L v).filter (fun q => !(q == p))
def x_Tak (v : zs_V) (p slot : Int) (v' : zs_V) : Prop := (∀ r, r ≠ 5 → r ≠ 9 → r ≠ 16 → v' r = v r) ∧ (∀ q, v' 5 q = if q = p then slot else v 5 q) ∧ v' 16 0 = v 16 0 + 1 ∧ ∃ A B, x_L v = A ++ B ∧ x_L v' = A ++ p :: B ∧ (∀ q ∈ B, slot < v 5 q) ∧ (∀ q, A.getLast? = some q → v 5 q ≤ slot)
theorem x_seg_add (v : zs_V) (a : Int) (m n : Nat) : x_seg v a (m + n) = x_seg v a m ++ x_seg v (a + m) n := by
  induction m generalizing a with
  | zero => simp [x_seg]
  | succ m ih =>
    rw [show m + 1 + n = (m + n) + 1 by omega]
    simp only [x_seg, List.cons_append]
    rw [ih, show a + 1 + (m : Int) = a + ((m + 1 : Nat) : Int) by omega]
theorem x_seg_congr (u v : zs_V) (a b : Int) (n : Nat) (h : ∀ i : Int, 0 ≤ i → i < n → u 9 (a + i) = v 9 (b + i)) : x_seg u a n = x_seg v b n := by
  induction n generalizing a b with
  | zero => rfl
  | succ n ih =>
    simp only [x_seg]
    rw [ih (a + 1) (b + 1) (fun i h0 h1 => by have := h (i + 1) (by omega) (by omega); rw [show a + 1 + i = a + (i + 1) by omega, show b + 1 + i = b + (i + 1) by omega]; exact this)]
    have := h 0 (by omega) (by omega)
    rw [show a + 0 = a by omega, show b + 0 = b by omega] at this
    rw [this]
theorem x_seg_len (v : zs_V) (a : Int) (n : Nat) : (x_seg v a n).length = n := by
  induction n generalizing a with
  | zero => rfl
  | succ n ih => simp [x_seg, ih]
theorem x_seg_mem {v : zs_V} {a : Int} {n : Nat} {p : Int} (h : p ∈ x_seg v a n) : ∃ j : Int, a ≤ j ∧ j < a + n ∧ p = v 9 j := by
  induction n generalizing a with
  | zero => simp [x_seg] at h
  | succ n ih =>
    simp only [x_seg, List.mem_cons] at h
    rcases h with h | h
    · exact ⟨a, by omega, by omega, h⟩
    · obtain ⟨j, h1, h2, h3⟩ := ih h
      exact ⟨j, by omega, by omega, h3⟩
theorem x_seg_in (v : zs_V) (a : Int) (n : Nat) (j : Int) (h1 : a ≤ j) (h2 : j < a + n) : v 9 j ∈ x_seg v a n := by
  induction n generalizing a with
  | zero => omega
  | succ n ih =>
    simp only [x_seg, List.mem_cons]
    by_cases h : j = a
    · left; rw [h]
    · right; exact ih (a + 1) (by omega) (by omega)
end
section

theorem x_S_at {v : zs_V} (h : x_S v) {s : Int} (h0 : 0 ≤ s) (h1 : s < v 15 0) : s < 6 ∧ (v 0 s = 0 ∨ v 0 s = 1) ∧ (v 1 s = 0 ∨ v 1 s = 1) ∧ 1 ≤ v 2 s ∧ v 2 s ≤ 100000 ∧ (v 3 s = 0 ∨ v 3 s = 1) ∧ 0 ≤ v 4 (v 1 s) ∧ v 4 (v 1 s) ≤ 1000000000 := by
  obtain ⟨a, b, c, d1, d2, d3, d4⟩ := h
  obtain ⟨e1, e2, e3, e4, e5⟩ := c s h0 h1
  refine ⟨by omega, e1, e2, e3, e4, e5, ?_, ?_⟩ <;> rcases e2 with e | e <;> rw [e] <;> assumption
set_option maxHeartbeats 4000000 in
set_option maxRecDepth 100000 in
theorem t_X3_make {v : zs_V} (f c s w : Int) (h : 0 ≤ v 15 0 ∧ v 15 0 < 6) : zs_R mX3_make 0 0 shX (zs_X (v 15 0) (zs_put (zs_put (zs_put (zs_put (zs_put v 0 (v 15 0) f) 1 (v 15 0) c) 2 (v 15 0) s) 3 (v 15 0) w) 15 0 (v 15 0 + 1))) v 0 [some (.inr 1), some (.inl (f)), some (.inl (c)), some (.inl (s)), some (.inl (w)), none] [] := by
  refine zs_aload_n dX3_make_0 rfl ?_
  refine zs_geti (j := 5) dX3_make_1 rfl rfl rfl (by decide) nX3_make_X3 fX3_make_27 ?_
  refine zs_istore (lv' := [some (.inr 1), some (.inl (f)), some (.inl (c)), some (.inl (s)), some (.inl (w)), some (.inl (v 15 0))]) dX3_make_4 (by decide) rfl ?_
  refine zs_aload_n dX3_make_6 rfl ?_
  refine zs_getr (j := 0) dX3_make_7 rfl rfl rfl (by decide) nX3_make_X3 fX3_make_9 ?_
  refine zs_iload dX3_make_10 rfl ?_
  refine zs_iload_n dX3_make_12 rfl ?_
  refine zs_iastore dX3_make_13 rfl (by decide) (by decide) (by omega) (by omega) ?_
  refine zs_aload_n dX3_make_14 rfl ?_
  refine zs_getr (j := 1) dX3_make_15 rfl rfl rfl (by decide) nX3_make_X3 fX3_make_15 ?_
  refine zs_iload dX3_make_18 rfl ?_
  refine zs_iload_n dX3_make_20 rfl ?_
  refine zs_iastore dX3_make_21 rfl (by decide) (by decide) (by omega) (by omega) ?_
  refine zs_aload_n dX3_make_22 rfl ?_
  refine zs_getr (j := 2) dX3_make_23 rfl rfl rfl (by decide) nX3_make_X3 fX3_make_18 ?_
  refine zs_iload dX3_make_26 rfl ?_
  refine zs_iload_n dX3_make_28 rfl ?_
  refine zs_iastore dX3_make_29 rfl (by decide) (by decide) (by omega) (by omega) ?_
  refine zs_aload_n dX3_make_30 rfl ?_
  refine zs_getr (j := 3) dX3_make_31 rfl rfl rfl (by decide) nX3_make_X3 fX3_make_21 ?_
  refine zs_iload dX3_make_34 rfl ?_
  refine zs_iload dX3_make_36 rfl ?_
  refine zs_iastore dX3_make_38 rfl (by decide) (by decide) (by omega) (by omega) ?_
  refine zs_aload_n dX3_make_39 rfl ?_
  refine zs_dup dX3_make_40 ?_
  refine zs_geti (j := 5) dX3_make_41 rfl rfl rfl (by decide) nX3_make_X3 fX3_make_27 ?_
  refine zs_iconst (x := 1) dX3_make_44 (by decide) ?_
  refine zs_iadd dX3_make_45 ?_
  refine zs_puti (j := 5) dX3_make_46 rfl rfl (by decide) rfl (by decide) nX3_make_X3 tyX3 tyX3_ok nmX3 rfl (by decide +kernel) fX3_make_27 ?_
  refine zs_iload dX3_make_49 rfl ?_
  refine zs_iret dX3_make_51 rfl ?_
  exact ⟨rfl, rfl⟩
set_option maxHeartbeats 4000000 in
set_option maxRecDepth 100000 in
theorem t_X3_has {v : zs_V} (s : Int) (hs : zn s) (h : zn (v 15 0)) : zs_R mX3_has 0 0 shX (zs_X (zb (0 ≤ s ∧ s < v 15 0)) v) v 0 [some (.inr 1), some (.inl (s))] [] := by
  refine zs_iload_n dX3_has_0 rfl ?_
  refine zs_if_lt (tgt := 16) dX3_has_1 (by decide) (by omega) (fun h1 => ?_) (fun h1 => ?_)
  · refine zs_iconst (x := 0) dX3_has_16 (by decide) ?_
    refine zs_zret dX3_has_17 rfl (by first | omega | (split <;> omega)) ?_
    exact ⟨(zb_n (by omega)).symm, rfl⟩
  · refine zs_iload_n dX3_has_4 rfl ?_
    refine zs_aload_n dX3_has_5 rfl ?_
    refine zs_geti (j := 5) dX3_has_6 rfl rfl rfl (by decide) nX3_has_X3 fX3_has_27 ?_
    refine zs_icmp_ge (tgt := 16) dX3_has_9 (by decide) (by omega) (by omega) (fun h9 => ?_) (fun h9 => ?_)
    · refine zs_iconst (x := 0) dX3_has_16 (by decide) ?_
      refine zs_zret dX3_has_17 rfl (by first | omega | (split <;> omega)) ?_
      exact ⟨(zb_n (by omega)).symm, rfl⟩
    · refine zs_iconst (x := 1) dX3_has_12 (by decide) ?_
      refine zs_goto (tgt := 17) dX3_has_13 (by decide) ?_
      refine zs_zret dX3_has_17 rfl (by first | omega | (split <;> omega)) ?_
      exact ⟨(zb_p (by omega)).symm, rfl⟩
set_option maxHeartbeats 4000000 in
set_option maxRecDepth 100000 in
theorem t_X3_isList {v : zs_V} (s : Int) (hs : 0 ≤ s ∧ s < 6) (h : zn (v 0 s)) : zs_R mX3_isList 0 0 shX (zs_X (zb (v 0 s = 1)) v) v 0 [some (.inr 1), some (.inl (s))] [] := by
  refine zs_aload_n dX3_isList_0 rfl ?_
  refine zs_getr (j := 0) dX3_isList_1 rfl rfl rfl (by decide) nX3_isList_X3 fX3_isList_9 ?_
  refine zs_iload_n dX3_isList_4 rfl ?_
  refine zs_iaload dX3_isList_5 rfl (by decide) (by omega) (by omega) ?_
  refine zs_iconst (x := 1) dX3_isList_6 (by decide) ?_
  refine zs_icmp_ne (tgt := 14) dX3_isList_7 (by decide) (by omega) (by omega) (fun h7 => ?_) (fun h7 => ?_)
  · refine zs_iconst (x := 0) dX3_isList_14 (by decide) ?_
    refine zs_zret dX3_isList_15 rfl (by first | omega | (split <;> omega)) ?_
    exact ⟨(zb_n (by omega)).symm, rfl⟩
  · refine zs_iconst (x := 1) dX3_isList_10 (by decide) ?_
    refine zs_goto (tgt := 15) dX3_isList_11 (by decide) ?_
    refine zs_zret dX3_isList_15 rfl (by first | omega | (split <;> omega)) ?_
    exact ⟨(zb_p (by omega)).symm, rfl⟩
set_option maxHeartbeats 4000000 in
set_option maxRecDepth 100000 in
theorem t_X3_isStampedByReads {v : zs_V} (s : Int) (hs : 0 ≤ s ∧ s < 6) (h : zn (v 3 s)) : zs_R mX3_isStampedByReads 0 0 shX (zs_X (zb (v 3 s = 1)) v) v 0 [some (.inr 1), some (.inl (s))] [] := by
  refine zs_aload_n dX3_isStampedByReads_0 rfl ?_
  refine zs_getr (j := 3) dX3_isStampedByReads_1 rfl rfl rfl (by decide) nX3_isStampedByReads_X3 fX3_isStampedByReads_21 ?_
  refine zs_iload_n dX3_isStampedByReads_4 rfl ?_
  refine zs_iaload dX3_isStampedByReads_5 rfl (by decide) (by omega) (by omega) ?_
  refine zs_iconst (x := 1) dX3_isStampedByReads_6 (by decide) ?_
  refine zs_icmp_ne (tgt := 14) dX3_isStampedByReads_7 (by decide) (by omega) (by omega) (fun h7 => ?_) (fun h7 => ?_)
  · refine zs_iconst (x := 0) dX3_isStampedByReads_14 (by decide) ?_
    refine zs_zret dX3_isStampedByReads_15 rfl (by first | omega | (split <;> omega)) ?_
    exact ⟨(zb_n (by omega)).symm, rfl⟩
  · refine zs_iconst (x := 1) dX3_isStampedByReads_10 (by decide) ?_
    refine zs_goto (tgt := 15) dX3_isStampedByReads_11 (by decide) ?_
    refine zs_zret dX3_isStampedByReads_15 rfl (by first | omega | (split <;> omega)) ?_
    exact ⟨(zb_p (by omega)).symm, rfl⟩
set_option maxHeartbeats 4000000 in
set_option maxRecDepth 100000 in
theorem t_X3_timeOf {v : zs_V} (s : Int) (hs : 0 ≤ s ∧ s < 6) (h : v 1 s = 0 ∨ v 1 s = 1) : zs_R mX3_timeOf 0 0 shX (zs_X (v 4 (v 1 s)) v) v 0 [some (.inr 1), some (.inl (s))] [] := by
  refine zs_aload_n dX3_timeOf_0 rfl ?_
  refine zs_getr (j := 4) dX3_timeOf_1 rfl rfl rfl (by decide) nX3_timeOf_X3 fX3_timeOf_24 ?_
  refine zs_aload_n dX3_timeOf_4 rfl ?_
  refine zs_getr (j := 1) dX3_timeOf_5 rfl rfl rfl (by decide) nX3_timeOf_X3 fX3_timeOf_15 ?_
  refine zs_iload_n dX3_timeOf_8 rfl ?_
  refine zs_iaload dX3_timeOf_9 rfl (by decide) (by omega) (by omega) ?_
  refine zs_iaload dX3_timeOf_10 rfl (by decide) (by omega) (by omega) ?_
  refine zs_iret dX3_timeOf_11 rfl ?_
  exact ⟨rfl, rfl⟩
set_option maxHeartbeats 4000000 in
set_option maxRecDepth 100000 in
theorem t_X1_isTaken {v : zs_V} (p : Int) (hp : 0 ≤ p ∧ p < 200) (h : zn (v 5 p)) : zs_R mX1_isTaken 0 0 shX (zs_X (zb (¬ v 5 p = -1)) v) v 0 [some (.inr 7), some (.inl (p))] [] := by
  refine zs_aload_n dX1_isTaken_0 rfl ?_
  refine zs_getr (j := 0) dX1_isTaken_1 rfl rfl rfl (by decide) nX1_isTaken_X1 fX1_isTaken_9 ?_
  refine zs_iload_n dX1_isTaken_4 rfl ?_
  refine zs_iaload dX1_isTaken_5 rfl (by decide) (by omega) (by omega) ?_
  refine zs_iconst (x := -1) dX1_isTaken_6 (by decide) ?_
  refine zs_icmp_eq (tgt := 14) dX1_isTaken_7 (by decide) (by omega) (by omega) (fun h7 => ?_) (fun h7 => ?_)
  · refine zs_iconst (x := 0) dX1_isTaken_14 (by decide) ?_
    refine zs_zret dX1_isTaken_15 rfl (by first | omega | (split <;> omega)) ?_
    exact ⟨(zb_n (by omega)).symm, rfl⟩
  · refine zs_iconst (x := 1) dX1_isTaken_10 (by decide) ?_
    refine zs_goto (tgt := 15) dX1_isTaken_11 (by decide) ?_
    refine zs_zret dX1_isTaken_15 rfl (by first | omega | (split <;> omega)) ?_
    exact ⟨(zb_p (by omega)).symm, rfl⟩
set_option maxHeartbeats 4000000 in
set_option maxRecDepth 100000 in
theorem t_X1_stateAt {v : zs_V} (p : Int) (hp : 0 ≤ p ∧ p < 200) (h : 0 ≤ v 5 p ∧ v 5 p < 6000) : zs_R mX1_stateAt 0 0 shX (zs_X (v 5 p / 1000) v) v 0 [some (.inr 7), some (.inl (p))] [] := by
  refine zs_aload_n dX1_stateAt_0 rfl ?_
  refine zs_getr (j := 0) dX1_stateAt_1 rfl rfl rfl (by decide) nX1_stateAt_X1 fX1_stateAt_9 ?_
  refine zs_iload_n dX1_stateAt_4 rfl ?_
  refine zs_iaload dX1_stateAt_5 rfl (by decide) (by omega) (by omega) ?_
  refine zs_sipush (x := 1000) dX1_stateAt_6 (by decide) ?_
  refine zs_idiv dX1_stateAt_9 (by omega) (by omega) ?_
  refine zs_iret dX1_stateAt_10 rfl ?_
  exact ⟨rfl, rfl⟩
set_option maxHeartbeats 4000000 in
set_option maxRecDepth 100000 in
theorem t_X1_keyAt {v : zs_V} (p : Int) (hp : 0 ≤ p ∧ p < 200) (h : 0 ≤ v 5 p ∧ v 5 p < 6000) : zs_R mX1_keyAt 0 0 shX (zs_X (v 5 p / 10 % 100) v) v 0 [some (.inr 7), some (.inl (p))] [] := by
  refine zs_aload_n dX1_keyAt_0 rfl ?_
  refine zs_getr (j := 0) dX1_keyAt_1 rfl rfl rfl (by decide) nX1_keyAt_X1 fX1_keyAt_9 ?_
  refine zs_iload_n dX1_keyAt_4 rfl ?_
  refine zs_iaload dX1_keyAt_5 rfl (by decide) (by omega) (by omega) ?_
  refine zs_bipush (x := 10) dX1_keyAt_6 (by decide) ?_
  refine zs_idiv dX1_keyAt_8 (by omega) (by omega) ?_
  refine zs_bipush (x := 100) dX1_keyAt_9 (by decide) ?_
  refine zs_irem dX1_keyAt_11 (by omega) (by omega) ?_
  refine zs_iret dX1_keyAt_12 rfl ?_
  exact ⟨rfl, rfl⟩
set_option maxHeartbeats 4000000 in
set_option maxRecDepth 100000 in
theorem t_X1_memberAt {v : zs_V} (p : Int) (hp : 0 ≤ p ∧ p < 200) (h : 0 ≤ v 5 p ∧ v 5 p < 6000) : zs_R mX1_memberAt 0 0 shX (zs_X (v 5 p % 10) v) v 0 [some (.inr 7), some (.inl (p))] [] := by
  refine zs_aload_n dX1_memberAt_0 rfl ?_
  refine zs_getr (j := 0) dX1_memberAt_1 rfl rfl rfl (by decide) nX1_memberAt_X1 fX1_memberAt_9 ?_
  refine zs_iload_n dX1_memberAt_4 rfl ?_
  refine zs_iaload dX1_memberAt_5 rfl (by decide) (by omega) (by omega) ?_
  refine zs_bipush (x := 10) dX1_memberAt_6 (by decide) ?_
  refine zs_irem dX1_memberAt_8 (by omega) (by omega) ?_
  refine zs_iret dX1_memberAt_9 rfl ?_
  exact ⟨rfl, rfl⟩
set_option maxHeartbeats 4000000 in
set_option maxRecDepth 100000 in
theorem t_X2_indexOf {v : zs_V} (i : Int) (hi : 0 ≤ i ∧ i < 150) (h : 0 ≤ v 17 0 ∧ v 17 0 < 150) : zs_R mX2_indexOf 0 0 shX (zs_X (x_ri v i) v) v 0 [some (.inr 13), some (.inl (i))] [] := by
  refine zs_aload_n dX2_indexOf_0 rfl ?_
  refine zs_geti (j := 1) dX2_indexOf_1 rfl rfl rfl (by decide) nX2_indexOf_X2 fX2_indexOf_15 ?_
  refine zs_iload_n dX2_indexOf_4 rfl ?_
  refine zs_iadd dX2_indexOf_5 ?_
  refine zs_sipush (x := 150) dX2_indexOf_6 (by decide) ?_
  refine zs_irem dX2_indexOf_9 (by omega) (by omega) ?_
  refine zs_bipush (x := 6) dX2_indexOf_10 (by decide) ?_
  refine zs_imul dX2_indexOf_12 ?_
  refine zs_iret dX2_indexOf_13 rfl ?_
  exact ⟨rfl, rfl⟩
set_option maxHeartbeats 4000000 in
set_option maxRecDepth 100000 in
theorem t_X2_cell {v : zs_V} (i c : Int) (hi : 0 ≤ i ∧ i < 150) (hc : 0 ≤ c ∧ c < 6) (h : 0 ≤ v 17 0 ∧ v 17 0 < 150) : zs_R mX2_cell 0 0 shX (zs_X (v 10 (x_ri v i + c)) v) v 0 [some (.inr 13), some (.inl (i)), some (.inl (c))] [] := by
  refine zs_aload_n dX2_cell_0 rfl ?_
  refine zs_getr (j := 0) dX2_cell_1 rfl rfl rfl (by decide) nX2_cell_X2 fX2_cell_9 ?_
  refine zs_aload_n dX2_cell_4 rfl ?_
  have hx : 0 ≤ x_ri v i ∧ x_ri v i < 895 := by unfold x_ri; omega
  refine zs_iload_n dX2_cell_5 rfl ?_
  refine zs_eV (As := [.inl (i)]) (rest := [.inr 14]) (q := 13) dX2_cell_6 rfl (Nat.le_of_ble_eq_true rfl) rfl rfl YX2_indexOf rfl rfl (Nat.le_of_ble_eq_true rfl) gX2_cell_X2_indexOf (by decide) ⟨Nat.zero_le _, Nat.zero_le _⟩ rfl (t_X2_indexOf (v := v) (i) (by omega) (by omega)) ?_
  refine zs_iload_n dX2_cell_9 rfl ?_
  refine zs_iadd dX2_cell_10 ?_
  refine zs_iaload dX2_cell_11 rfl (by decide) (by omega) (by omega) ?_
  refine zs_iret dX2_cell_12 rfl ?_
  exact ⟨rfl, rfl⟩
set_option maxHeartbeats 4000000 in
set_option maxRecDepth 100000 in
theorem t_X0_indexOf {v : zs_V} (m i : Int) : zs_R mX0_indexOf 0 0 shX (zs_X (m * 200 + i) v) v 0 [some (.inr 15), some (.inl (m)), some (.inl (i))] [] := by
  refine zs_iload_n dX0_indexOf_0 rfl ?_
  refine zs_sipush (x := 200) dX0_indexOf_1 (by decide) ?_
  refine zs_imul dX0_indexOf_4 ?_
  refine zs_iload_n dX0_indexOf_5 rfl ?_
  refine zs_iadd dX0_indexOf_6 ?_
  refine zs_iret dX0_indexOf_7 rfl ?_
  exact ⟨rfl, rfl⟩
set_option maxHeartbeats 4000000 in
set_option maxRecDepth 100000 in
theorem t_X0_begin {v : zs_V} (m : Int) (hm : 0 ≤ m ∧ m < 3) : zs_R mX0_begin 0 0 shX (zs_X 0 (zs_put v 14 m 0)) v 0 [some (.inr 15), some (.inl (m))] [] := by
  refine zs_aload_n dX0_begin_0 rfl ?_
  refine zs_getr (j := 3) dX0_begin_1 rfl rfl rfl (by decide) nX0_begin_X0 fX0_begin_21 ?_
  refine zs_iload_n dX0_begin_4 rfl ?_
  refine zs_iconst (x := 0) dX0_begin_5 (by decide) ?_
  refine zs_iastore dX0_begin_6 rfl (by decide) (by decide) (by omega) (by omega) ?_
  refine zs_vret dX0_begin_7 rfl ?_
  exact ⟨rfl, rfl⟩
set_option maxHeartbeats 4000000 in
set_option maxRecDepth 100000 in
theorem t_X0_keep {v : zs_V} (m s x l : Int) (hm : 0 ≤ m ∧ m < 3) (h : 0 ≤ v 14 m ∧ v 14 m < 200) : zs_R mX0_keep 0 0 shX (zs_X 0 (x_keep v m s x l)) v 0 [some (.inr 15), some (.inl (m)), some (.inl (s)), some (.inl (x)), some (.inl (l)), none] [] := by
  refine zs_aload_n dX0_keep_0 rfl ?_
  refine zs_iload_n dX0_keep_1 rfl ?_
  refine zs_aload_n dX0_keep_2 rfl ?_
  refine zs_getr (j := 3) dX0_keep_3 rfl rfl rfl (by decide) nX0_keep_X0 fX0_keep_21 ?_
  refine zs_iload_n dX0_keep_6 rfl ?_
  refine zs_iaload dX0_keep_7 rfl (by decide) (by omega) (by omega) ?_
  refine zs_eV (As := [.inl (m), .inl (v 14 (m))]) (rest := []) (q := 15) dX0_keep_8 rfl (Nat.le_of_ble_eq_true rfl) rfl rfl YX0_indexOf rfl rfl (Nat.le_of_ble_eq_true rfl) gX0_keep_X0_indexOf (by decide) ⟨Nat.zero_le _, Nat.zero_le _⟩ rfl (t_X0_indexOf (v := v) (m) (v 14 (m))) ?_
  refine zs_istore (lv' := [some (.inr 15), some (.inl (m)), some (.inl (s)), some (.inl (x)), some (.inl (l)), some (.inl ((m) * 200 + (v 14 (m))))]) dX0_keep_11 (by decide) rfl ?_
  refine zs_aload_n dX0_keep_13 rfl ?_
  refine zs_getr (j := 0) dX0_keep_14 rfl rfl rfl (by decide) nX0_keep_X0 fX0_keep_9 ?_
  refine zs_iload dX0_keep_17 rfl ?_
  refine zs_iload_n dX0_keep_19 rfl ?_
  refine zs_iastore dX0_keep_20 rfl (by decide) (by decide) (by omega) (by omega) ?_
  refine zs_aload_n dX0_keep_21 rfl ?_
  refine zs_getr (j := 1) dX0_keep_22 rfl rfl rfl (by decide) nX0_keep_X0 fX0_keep_15 ?_
  refine zs_iload dX0_keep_25 rfl ?_
  refine zs_iload_n dX0_keep_27 rfl ?_
  refine zs_iastore dX0_keep_28 rfl (by decide) (by decide) (by omega) (by omega) ?_
  refine zs_aload_n dX0_keep_29 rfl ?_
  refine zs_getr (j := 2) dX0_keep_30 rfl rfl rfl (by decide) nX0_keep_X0 fX0_keep_18 ?_
  refine zs_iload dX0_keep_33 rfl ?_
  refine zs_iload dX0_keep_35 rfl ?_
  refine zs_iastore dX0_keep_37 rfl (by decide) (by decide) (by omega) (by omega) ?_
  refine zs_aload_n dX0_keep_38 rfl ?_
  refine zs_getr (j := 3) dX0_keep_39 rfl rfl rfl (by decide) nX0_keep_X0 fX0_keep_21 ?_
  refine zs_iload_n dX0_keep_42 rfl ?_
  refine zs_dup2 dX0_keep_43 ?_
  refine zs_iaload dX0_keep_44 rfl (by decide) (by omega) (by omega) ?_
  refine zs_iconst (x := 1) dX0_keep_45 (by decide) ?_
  refine zs_iadd dX0_keep_46 ?_
  refine zs_iastore dX0_keep_47 rfl (by decide) (by decide) (by omega) (by omega) ?_
  refine zs_vret dX0_keep_48 rfl ?_
  exact ⟨rfl, rfl⟩
end
section
set_option maxHeartbeats 4000000 in
set_option maxRecDepth 100000 in
theorem l_X1_leastFree {v : zs_V} (hz : ∀ p : Int, 0 ≤ p → p < 200 → zn (v 5 p)) {r0 : Int} : ∀ (n : Nat) (p : Int), 0 ≤ p → p + n = 200 → x_lf v n p = r0 → zs_R mX1_leastFree 0 0 shX (zs_X r0 v) v 2 [some (.inr 7), some (.inl (p))] [] := by
  intro n
  induction n using Nat.strongRecOn with
  | ind n ih =>
    intro p h0 hn hr
    refine zs_iload_n dX1_leastFree_2 rfl ?_
    refine zs_sipush (x := 200) dX1_leastFree_3 (by decide) ?_
    refine zs_icmp_ge (tgt := 25) dX1_leastFree_6 (by decide) (by omega) (by omega) (fun h6 => ?_) (fun h6 => ?_)
    · refine zs_iconst (x := -1) dX1_leastFree_25 (by decide) ?_
      refine zs_iret dX1_leastFree_26 rfl ?_
      obtain rfl : n = 0 := by omega
      exact ⟨hr, rfl⟩
    · obtain ⟨n', rfl⟩ : ∃ n', n = n' + 1 := ⟨n - 1, by omega⟩
      have hzp := hz p (by omega) (by omega)
      refine zs_aload_n dX1_leastFree_9 rfl ?_
      refine zs_iload_n dX1_leastFree_10 rfl ?_
      refine zs_eV (As := [.inl (p)]) (rest := []) (q := 7) dX1_leastFree_11 rfl (Nat.le_of_ble_eq_true rfl) rfl rfl YX1_isTaken rfl rfl (Nat.le_of_ble_eq_true rfl) gX1_leastFree_X1_isTaken (by decide) ⟨Nat.zero_le _, Nat.zero_le _⟩ rfl (t_X1_isTaken (v := v) (p) (by omega) (by omega)) ?_
      refine zs_ifz_ne (tgt := 19) dX1_leastFree_14 (by decide)  (fun h14 => ?_) (fun h14 => ?_)
      · refine zs_iinc (lv' := [some (.inr 7), some (.inl (p + 1))]) dX1_leastFree_19 rfl (by decide) rfl ?_
        refine zs_goto (tgt := 2) dX1_leastFree_22 (by decide) ?_
        exact ih n' (by omega) (p + 1) (by omega) (by omega) (by simp only [x_lf] at hr; rw [if_neg h14] at hr; exact hr)
      · refine zs_iload_n dX1_leastFree_17 rfl ?_
        refine zs_iret dX1_leastFree_18 rfl ?_
        simp only [x_lf] at hr
        rw [if_pos (by omega)] at hr
        exact ⟨hr, rfl⟩
set_option maxHeartbeats 4000000 in
set_option maxRecDepth 100000 in
theorem t_X1_leastFree {v : zs_V} (hz : ∀ p : Int, 0 ≤ p → p < 200 → zn (v 5 p)) : zs_R mX1_leastFree 0 0 shX (zs_X (x_lf v 200 0) v) v 0 [some (.inr 7), none] [] := by
  refine zs_iconst (x := 0) dX1_leastFree_0 (by decide) ?_
  refine zs_istore_n (lv' := [some (.inr 7), some (.inl (0))]) dX1_leastFree_1 (by decide) rfl ?_
  exact l_X1_leastFree hz 200 0 (by omega) (by omega) rfl
set_option maxHeartbeats 4000000 in
set_option maxRecDepth 100000 in
theorem t_X2_begin {v : zs_V} (h : 0 ≤ v 17 0 ∧ v 17 0 < 150) (hk : 0 ≤ v 18 0 ∧ v 18 0 ≤ 150) : zs_R mX2_begin 0 0 shX (zs_X (x_ri (x_rb v) ((x_rb v) 18 0 - 1)) (x_rb v)) v 0 [some (.inr 13)] [] := by
  refine zs_aload_n dX2_begin_0 rfl ?_
  refine zs_geti (j := 2) dX2_begin_1 rfl rfl rfl (by decide) nX2_begin_X2 fX2_begin_19 ?_
  refine zs_sipush (x := 150) dX2_begin_4 (by decide) ?_
  refine zs_icmp_ne (tgt := 27) dX2_begin_7 (by decide) (by omega) (by omega) (fun h7 => ?_) (fun h7 => ?_)
  · refine zs_aload_n dX2_begin_27 rfl ?_
    refine zs_dup dX2_begin_28 ?_
    refine zs_geti (j := 2) dX2_begin_29 rfl rfl rfl (by decide) nX2_begin_X2 fX2_begin_19 ?_
    refine zs_iconst (x := 1) dX2_begin_32 (by decide) ?_
    refine zs_iadd dX2_begin_33 ?_
    refine zs_puti (j := 2) dX2_begin_34 rfl rfl (by decide) rfl (by decide) nX2_begin_X2 tyX2 tyX2_ok nmX2 rfl (by decide +kernel) fX2_begin_19 ?_
    refine zs_aload_n dX2_begin_37 rfl ?_
    refine zs_dup dX2_begin_38 ?_
    refine zs_geti (j := 3) dX2_begin_39 rfl rfl rfl (by decide) nX2_begin_X2 fX2_begin_22 ?_
    refine zs_iconst (x := 1) dX2_begin_42 (by decide) ?_
    refine zs_iadd dX2_begin_43 ?_
    refine zs_puti (j := 3) dX2_begin_44 rfl rfl (by decide) rfl (by decide) nX2_begin_X2 tyX2 tyX2_ok nmX2 rfl (by decide +kernel) fX2_begin_22 ?_
    refine zs_aload_n dX2_begin_47 rfl ?_
    refine zs_aload_n dX2_begin_48 rfl ?_
    refine zs_geti (j := 2) dX2_begin_49 rfl rfl rfl (by decide) nX2_begin_X2 fX2_begin_19 ?_
    refine zs_iconst (x := 1) dX2_begin_52 (by decide) ?_
    refine zs_isub dX2_begin_53 ?_
    have e1 : (zs_put (zs_put v 18 0 ((v 18 0) + (1))) 19 0 (((zs_put v 18 0 ((v 18 0) + (1))) 19 0) + (1))) 18 0 = v 18 0 + 1 := rfl
    have e2 : (zs_put (zs_put v 18 0 ((v 18 0) + (1))) 19 0 (((zs_put v 18 0 ((v 18 0) + (1))) 19 0) + (1))) 17 0 = v 17 0 := rfl
    refine zs_eV (As := [.inl (((zs_put (zs_put v 18 0 ((v 18 0) + (1))) 19 0 (((zs_put v 18 0 ((v 18 0) + (1))) 19 0) + (1))) 18 0) - (1))]) (rest := []) (q := 13) dX2_begin_54 rfl (Nat.le_of_ble_eq_true rfl) rfl rfl YX2_indexOf rfl rfl (Nat.le_of_ble_eq_true rfl) gX2_begin_X2_indexOf (by decide) ⟨Nat.zero_le _, Nat.zero_le _⟩ rfl (t_X2_indexOf (v := (zs_put (zs_put v 18 0 ((v 18 0) + (1))) 19 0 (((zs_put v 18 0 ((v 18 0) + (1))) 19 0) + (1)))) (((zs_put (zs_put v 18 0 ((v 18 0) + (1))) 19 0 (((zs_put v 18 0 ((v 18 0) + (1))) 19 0) + (1))) 18 0) - (1)) (by omega) (by omega)) ?_
    refine zs_iret dX2_begin_57 rfl ?_
    have e : x_rb v = (zs_put (zs_put v 18 0 ((v 18 0) + (1))) 19 0 (((zs_put v 18 0 ((v 18 0) + (1))) 19 0) + (1))) := by unfold x_rb; rw [if_neg h7]; rfl
    rw [e]
    exact ⟨rfl, rfl⟩
  · refine zs_aload_n dX2_begin_10 rfl ?_
    refine zs_aload_n dX2_begin_11 rfl ?_
    refine zs_geti (j := 1) dX2_begin_12 rfl rfl rfl (by decide) nX2_begin_X2 fX2_begin_15 ?_
    refine zs_iconst (x := 1) dX2_begin_15 (by decide) ?_
    refine zs_iadd dX2_begin_16 ?_
    refine zs_sipush (x := 150) dX2_begin_17 (by decide) ?_
    refine zs_irem dX2_begin_20 (by omega) (by omega) ?_
    refine zs_puti (j := 1) dX2_begin_21 rfl rfl (by decide) rfl (by decide) nX2_begin_X2 tyX2 tyX2_ok nmX2 rfl (by decide +kernel) fX2_begin_15 ?_
    refine zs_goto (tgt := 37) dX2_begin_24 (by decide) ?_
    refine zs_aload_n dX2_begin_37 rfl ?_
    refine zs_dup dX2_begin_38 ?_
    refine zs_geti (j := 3) dX2_begin_39 rfl rfl rfl (by decide) nX2_begin_X2 fX2_begin_22 ?_
    refine zs_iconst (x := 1) dX2_begin_42 (by decide) ?_
    refine zs_iadd dX2_begin_43 ?_
    refine zs_puti (j := 3) dX2_begin_44 rfl rfl (by decide) rfl (by decide) nX2_begin_X2 tyX2 tyX2_ok nmX2 rfl (by decide +kernel) fX2_begin_22 ?_
    refine zs_aload_n dX2_begin_47 rfl ?_
    refine zs_aload_n dX2_begin_48 rfl ?_
    refine zs_geti (j := 2) dX2_begin_49 rfl rfl rfl (by decide) nX2_begin_X2 fX2_begin_19 ?_
    refine zs_iconst (x := 1) dX2_begin_52 (by decide) ?_
    refine zs_isub dX2_begin_53 ?_
    have e1 : (zs_put (zs_put v 17 0 (((v 17 0) + (1)) % (150))) 19 0 (((zs_put v 17 0 (((v 17 0) + (1)) % (150))) 19 0) + (1))) 18 0 = v 18 0 := rfl
    have e2 : (zs_put (zs_put v 17 0 (((v 17 0) + (1)) % (150))) 19 0 (((zs_put v 17 0 (((v 17 0) + (1)) % (150))) 19 0) + (1))) 17 0 = (v 17 0 + 1) % 150 := rfl
    refine zs_eV (As := [.inl (((zs_put (zs_put v 17 0 (((v 17 0) + (1)) % (150))) 19 0 (((zs_put v 17 0 (((v 17 0) + (1)) % (150))) 19 0) + (1))) 18 0) - (1))]) (rest := []) (q := 13) dX2_begin_54 rfl (Nat.le_of_ble_eq_true rfl) rfl rfl YX2_indexOf rfl rfl (Nat.le_of_ble_eq_true rfl) gX2_begin_X2_indexOf (by decide) ⟨Nat.zero_le _, Nat.zero_le _⟩ rfl (t_X2_indexOf (v := (zs_put (zs_put v 17 0 (((v 17 0) + (1)) % (150))) 19 0 (((zs_put v 17 0 (((v 17 0) + (1)) % (150))) 19 0) + (1)))) (((zs_put (zs_put v 17 0 (((v 17 0) + (1)) % (150))) 19 0 (((zs_put v 17 0 (((v 17 0) + (1)) % (150))) 19 0) + (1))) 18 0) - (1)) (by omega) (by omega)) ?_
    refine zs_iret dX2_begin_57 rfl ?_
    have e : x_rb v = (zs_put (zs_put v 17 0 (((v 17 0) + (1)) % (150))) 19 0 (((zs_put v 17 0 (((v 17 0) + (1)) % (150))) 19 0) + (1))) := by unfold x_rb; rw [if_pos h7]; rfl
    rw [e]
    exact ⟨rfl, rfl⟩

def zs_fill (v : zs_V) (r : Nat) (a b x : Int) : zs_V := fun r' k => if r' = r ∧ a ≤ k ∧ k < b then x else v r' k
theorem zs_fill_step (v : zs_V) (r : Nat) (a b x : Int) (h : a < b) : zs_fill (zs_put v r a x) r (a + 1) b x = zs_fill v r a b x := by
  funext r' k
  unfold zs_fill zs_put
  repeat' split
  all_goals first | rfl | (exfalso; omega)
theorem zs_fill_0 (v : zs_V) (r : Nat) (a b x : Int) (h : b ≤ a) : zs_fill v r a b x = v := by
  funext r' k
  unfold zs_fill
  rw [if_neg (by omega)]
set_option maxRecDepth 100000 in
theorem l_fill {sh : List zs_C} {q r N : Nat} (hs : sh[q]? = some (.inr (r, N))) (hm : zs_men r (sh.set q (.inl (0, []))) = false) (hN : N < 2147483648) (x : Int) : ∀ (n : Nat) (v : zs_V) (i : Int), 0 ≤ i → i + n = N → zs_R mJ7_fill_53178 0 0 sh (zs_X 0 (zs_fill v r i N x)) v 5 [some (.inr q), some (.inl x), some (.inl i), some (.inl (N : Int))] [] := by
  intro n
  induction n with
  | zero =>
    intro v i h0 h1
    refine zs_iload_n dJ7_fill_53178_5 rfl ?_
    refine zs_iload_n dJ7_fill_53178_6 rfl ?_
    refine zs_icmp_ge (tgt := 20) dJ7_fill_53178_7 (by decide) (by omega) (by omega) (fun h => ?_) (fun h => absurd h (by omega))
    refine zs_vret dJ7_fill_53178_20 rfl ?_
    exact ⟨rfl, (zs_fill_0 _ _ _ _ _ (by omega)).symm⟩
  | succ n ih =>
    intro v i h0 h1
    refine zs_iload_n dJ7_fill_53178_5 rfl ?_
    refine zs_iload_n dJ7_fill_53178_6 rfl ?_
    refine zs_icmp_ge (tgt := 20) dJ7_fill_53178_7 (by decide) (by omega) (by omega) (fun h => absurd h (by omega)) (fun h => ?_)
    refine zs_aload_n dJ7_fill_53178_10 rfl ?_
    refine zs_iload_n dJ7_fill_53178_11 rfl ?_
    refine zs_iload_n dJ7_fill_53178_12 rfl ?_
    refine zs_iastore dJ7_fill_53178_13 hs hm hN h0 (by omega) ?_
    refine zs_iinc (lv' := [some (.inr q), some (.inl x), some (.inl (i + 1)), some (.inl (N : Int))]) dJ7_fill_53178_14 rfl (by decide) rfl ?_
    refine zs_goto (tgt := 5) dJ7_fill_53178_17 (by decide) ?_
    rw [← zs_fill_step v r i N x (by omega)]
    exact ih _ (i + 1) (by omega) (by omega)
set_option maxRecDepth 100000 in
theorem t_fill {sh : List zs_C} {q r N : Nat} (hs : sh[q]? = some (.inr (r, N))) (hm : zs_men r (sh.set q (.inl (0, []))) = false) (hN : N < 2147483648) (x : Int) (v : zs_V) : zs_R mJ7_fill_53178 0 0 sh (zs_X 0 (zs_fill v r 0 N x)) v 0 [some (.inr q), some (.inl x), none, none] [] := by
  refine zs_iconst (x := 0) dJ7_fill_53178_0 (by decide) ?_
  refine zs_istore_n (lv' := [some (.inr q), some (.inl x), some (.inl 0), none]) dJ7_fill_53178_1 (by decide) rfl ?_
  refine zs_aload_n dJ7_fill_53178_2 rfl ?_
  refine zs_alen dJ7_fill_53178_3 hs ?_
  refine zs_istore_n (lv' := [some (.inr q), some (.inl x), some (.inl 0), some (.inl (N : Int))]) dJ7_fill_53178_4 (by decide) rfl ?_
  exact l_fill hs hm hN x N v 0 (by omega) (by omega)
set_option maxHeartbeats 4000000 in
set_option maxRecDepth 100000 in
theorem t_X1_vacateAll {v : zs_V} : zs_R mX1_vacateAll 0 0 shX (zs_X 0 (zs_put (zs_fill v 5 0 200 (-1)) 16 0 0)) v 0 [some (.inr 7)] [] := by
  refine zs_aload_n dX1_vacateAll_0 rfl ?_
  refine zs_getr (j := 0) dX1_vacateAll_1 rfl rfl rfl (by decide) nX1_vacateAll_X1 fX1_vacateAll_9 ?_
  refine zs_iconst (x := -1) dX1_vacateAll_4 (by decide) ?_
  refine zs_eSv (As := [.inr 8, .inl (-1)]) (rest := []) dX1_vacateAll_5 rfl (Nat.le_of_ble_eq_true rfl) YJ7_fill_53178 rfl (Nat.le_of_ble_eq_true rfl) gX1_vacateAll_J7_fill_53178 (by decide) ⟨Nat.zero_le _, Nat.zero_le _⟩ rfl (t_fill (q := 8) (N := 200) rfl (by decide) (by decide) (-1) v) ?_
  refine zs_aload_n dX1_vacateAll_8 rfl ?_
  refine zs_iconst (x := 0) dX1_vacateAll_9 (by decide) ?_
  refine zs_puti (j := 5) dX1_vacateAll_10 rfl rfl (by decide) rfl (by decide) nX1_vacateAll_X1 tyX1 tyX1_ok nmX1 rfl (by decide +kernel) fX1_vacateAll_27 ?_
  refine zs_vret dX1_vacateAll_13 rfl ?_
  exact ⟨rfl, rfl⟩

def x_tkI (v : zs_V) (p slot : Int) (u : zs_V) (t : Int) : Prop := (∀ r, r ≠ 9 → u r = zs_put v 5 p slot r) ∧ (∀ j : Int, 0 ≤ j → j < t → u 9 j = v 9 j) ∧ (∀ j : Int, t < j → j ≤ v 16 0 → u 9 j = v 9 (j - 1)) ∧ (∀ j : Int, t ≤ j → j < v 16 0 → slot < v 5 (v 9 j))
def x_tkP (v : zs_V) (p slot : Int) : Prop := 0 ≤ v 16 0 ∧ v 16 0 < 200 ∧ 0 ≤ p ∧ p < 200 ∧ zn slot ∧ ∀ j : Int, 0 ≤ j → j < v 16 0 → 0 ≤ v 9 j ∧ v 9 j < 200 ∧ zn (v 5 (v 9 j)) ∧ v 9 j ≠ p
theorem x_tk_at {v u : zs_V} {p slot t : Int} (hP : x_tkP v p slot) (hI : x_tkI v p slot u t) (h0 : 0 < t) (ht : t ≤ v 16 0) : u 9 (t - 1) = v 9 (t - 1) ∧ u 5 (u 9 (t - 1)) = v 5 (v 9 (t - 1)) ∧ 0 ≤ v 9 (t - 1) ∧ v 9 (t - 1) < 200 ∧ zn (v 5 (v 9 (t - 1))) := by
  have e1 := hI.2.1 (t - 1) (by omega) (by omega)
  obtain ⟨g1, g2, g3, g4⟩ := hP.2.2.2.2.2 (t - 1) (by omega) (by omega)
  refine ⟨e1, ?_, g1, g2, g3⟩
  rw [e1, hI.1 5 (by decide), zs_put_k _ _ _ _ g4]
theorem x_tk_step {v u : zs_V} {p slot t : Int} (hP : x_tkP v p slot) (hI : x_tkI v p slot u t) (h0 : 0 < t) (ht : t ≤ v 16 0) (hs : slot < v 5 (v 9 (t - 1))) : x_tkI v p slot (zs_put u 9 t (u 9 (t - 1))) (t + -1) := by
  refine ⟨fun r hr => by rw [zs_put_r _ _ _ _ hr]; exact hI.1 r hr, fun j h1 h2 => ?_, fun j h1 h2 => ?_, fun j h1 h2 => ?_⟩
  · rw [zs_put_k _ _ _ _ (by omega)]
    exact hI.2.1 j h1 (by omega)
  · by_cases hj : j = t
    · rw [hj, zs_put_s]
      exact hI.2.1 (t - 1) (by omega) (by omega)
    · rw [zs_put_k _ _ _ _ hj]
      exact hI.2.2.1 j (by omega) h2
  · by_cases hj : j = t - 1
    · rw [hj]; exact hs
    · exact hI.2.2.2 j (by omega) h2
theorem x_tk_end {v u : zs_V} {p slot t : Int} (hP : x_tkP v p slot) (hI : x_tkI v p slot u t) (h0 : 0 ≤ t) (ht : t ≤ v 16 0) (hs : 0 < t → v 5 (v 9 (t - 1)) ≤ slot) : x_Tak v p slot (zs_put (zs_put u 9 t p) 16 0 ((zs_put u 9 t p) 16 0 + 1)) := by
  have e16 : (zs_put u 9 t p) 16 0 = v 16 0 := by
    rw [zs_put_r _ _ _ _ (by decide), hI.1 16 (by decide), zs_put_r _ _ _ _ (by decide)]
  have et : (zs_put (zs_put u 9 t p) 16 0 ((zs_put u 9 t p) 16 0 + 1)) 16 0 = v 16 0 + 1 := by rw [zs_put_s, e16]
  refine ⟨fun r h5 h9 h16 => ?_, fun q => ?_, et, x_seg v 0 t.toNat, x_seg v t (v 16 0 - t).toNat, ?_, ?_, ?_, ?_⟩
  · rw [zs_put_r _ _ _ _ h16, zs_put_r _ _ _ _ h9, hI.1 r h9, zs_put_r _ _ _ _ h5]
  · rw [zs_put_r _ _ _ _ (by decide), zs_put_r _ _ _ _ (by decide), hI.1 5 (by decide), zs_put_e]
  · unfold x_L
    rw [show (v 16 0).toNat = t.toNat + (v 16 0 - t).toNat by omega, x_seg_add]
    congr 2
    omega
  · unfold x_L
    rw [et, show (v 16 0 + 1).toNat = t.toNat + ((v 16 0 - t).toNat + 1) by omega, x_seg_add]
    have h9 : ∀ j : Int, (zs_put (zs_put u 9 t p) 16 0 ((zs_put u 9 t p) 16 0 + 1)) 9 j = if j = t then p else u 9 j := by
      intro j
      rw [zs_put_r _ _ _ _ (by decide), zs_put_e]
    congr 1
    · apply x_seg_congr
      intro i hi0 hi1
      rw [h9, if_neg (by omega)]
      exact hI.2.1 _ (by omega) (by omega)
    · show (zs_put (zs_put u 9 t p) 16 0 ((zs_put u 9 t p) 16 0 + 1)) 9 (0 + (t.toNat : Int)) :: _ = _
      rw [h9, if_pos (by omega)]
      congr 1
      apply x_seg_congr
      intro i hi0 hi1
      rw [h9, if_neg (by omega), hI.2.2.1 _ (by omega) (by omega)]
      congr 1
      omega
  · intro q hq
    obtain ⟨j, h1, h2, rfl⟩ := x_seg_mem hq
    exact hI.2.2.2 j h1 (by omega)
  · intro q hq
    by_cases h : t.toNat = 0
    · rw [h] at hq
      simp [x_seg] at hq
    · obtain ⟨m, hm⟩ : ∃ m, t.toNat = m + 1 := ⟨t.toNat - 1, by omega⟩
      rw [hm, x_seg_add] at hq
      simp [x_seg] at hq
      subst hq
      have := hs (by omega)
      rw [show ((m : Int)) = t - 1 by omega]
      exact this
set_option maxHeartbeats 4000000 in
set_option maxRecDepth 100000 in
theorem l_X1_take {v : zs_V} {p slot : Int} (hP : x_tkP v p slot) : ∀ (n : Nat) (u : zs_V) (t : Int), t = n → t ≤ v 16 0 → x_tkI v p slot u t → zs_R mX1_take 0 0 shX (fun _ v' => x_Tak v p slot v') u 12 [some (.inr 7), some (.inl (p)), some (.inl (slot)), some (.inl (t))] [] := by
  obtain ⟨hP1, hP2, hP3, hP4, hP5, -⟩ := id hP
  intro n
  induction n using Nat.strongRecOn with
  | ind n ih =>
    intro u t htn ht hI
    refine zs_iload_n dX1_take_12 rfl ?_
    refine zs_if_le (tgt := 53) dX1_take_13 (by decide) (by omega) (fun h13 => ?_) (fun h13 => ?_)
    · refine zs_aload_n dX1_take_53 rfl ?_
      refine zs_getr (j := 4) dX1_take_54 rfl rfl rfl (by decide) nX1_take_X1 fX1_take_24 ?_
      refine zs_iload_n dX1_take_57 rfl ?_
      refine zs_iload_n dX1_take_58 rfl ?_
      refine zs_iastore dX1_take_59 rfl (by decide) (by decide) (by omega) (by omega) ?_
      refine zs_aload_n dX1_take_60 rfl ?_
      refine zs_dup dX1_take_61 ?_
      refine zs_geti (j := 5) dX1_take_62 rfl rfl rfl (by decide) nX1_take_X1 fX1_take_27 ?_
      refine zs_iconst (x := 1) dX1_take_65 (by decide) ?_
      refine zs_iadd dX1_take_66 ?_
      refine zs_puti (j := 5) dX1_take_67 rfl rfl (by decide) rfl (by decide) nX1_take_X1 tyX1 tyX1_ok nmX1 rfl (by decide +kernel) fX1_take_27 ?_
      refine zs_vret dX1_take_70 rfl ?_
      exact x_tk_end hP hI (by omega) ht (fun h => by omega)
    · obtain ⟨e1, e2, e3, e4, e5⟩ := x_tk_at hP hI (by omega) ht
      refine zs_aload_n dX1_take_16 rfl ?_
      refine zs_getr (j := 0) dX1_take_17 rfl rfl rfl (by decide) nX1_take_X1 fX1_take_9 ?_
      refine zs_aload_n dX1_take_20 rfl ?_
      refine zs_getr (j := 4) dX1_take_21 rfl rfl rfl (by decide) nX1_take_X1 fX1_take_24 ?_
      refine zs_iload_n dX1_take_24 rfl ?_
      refine zs_iconst (x := 1) dX1_take_25 (by decide) ?_
      refine zs_isub dX1_take_26 ?_
      refine zs_iaload dX1_take_27 rfl (by decide) (by omega) (by omega) ?_
      refine zs_iaload dX1_take_28 rfl (by decide) (by omega) (by omega) ?_
      refine zs_iload_n dX1_take_29 rfl ?_
      refine zs_icmp_le (tgt := 53) dX1_take_30 (by decide) (by omega) (by omega) (fun h30 => ?_) (fun h30 => ?_)
      · refine zs_aload_n dX1_take_53 rfl ?_
        refine zs_getr (j := 4) dX1_take_54 rfl rfl rfl (by decide) nX1_take_X1 fX1_take_24 ?_
        refine zs_iload_n dX1_take_57 rfl ?_
        refine zs_iload_n dX1_take_58 rfl ?_
        refine zs_iastore dX1_take_59 rfl (by decide) (by decide) (by omega) (by omega) ?_
        refine zs_aload_n dX1_take_60 rfl ?_
        refine zs_dup dX1_take_61 ?_
        refine zs_geti (j := 5) dX1_take_62 rfl rfl rfl (by decide) nX1_take_X1 fX1_take_27 ?_
        refine zs_iconst (x := 1) dX1_take_65 (by decide) ?_
        refine zs_iadd dX1_take_66 ?_
        refine zs_puti (j := 5) dX1_take_67 rfl rfl (by decide) rfl (by decide) nX1_take_X1 tyX1 tyX1_ok nmX1 rfl (by decide +kernel) fX1_take_27 ?_
        refine zs_vret dX1_take_70 rfl ?_
        exact x_tk_end hP hI (by omega) ht (fun h => by omega)
      · refine zs_aload_n dX1_take_33 rfl ?_
        refine zs_getr (j := 4) dX1_take_34 rfl rfl rfl (by decide) nX1_take_X1 fX1_take_24 ?_
        refine zs_iload_n dX1_take_37 rfl ?_
        refine zs_aload_n dX1_take_38 rfl ?_
        refine zs_getr (j := 4) dX1_take_39 rfl rfl rfl (by decide) nX1_take_X1 fX1_take_24 ?_
        refine zs_iload_n dX1_take_42 rfl ?_
        refine zs_iconst (x := 1) dX1_take_43 (by decide) ?_
        refine zs_isub dX1_take_44 ?_
        refine zs_iaload dX1_take_45 rfl (by decide) (by omega) (by omega) ?_
        refine zs_iastore dX1_take_46 rfl (by decide) (by decide) (by omega) (by omega) ?_
        refine zs_iinc (lv' := [some (.inr 7), some (.inl (p)), some (.inl (slot)), some (.inl (t + (-1)))]) dX1_take_47 rfl (by decide) rfl ?_
        refine zs_goto (tgt := 12) dX1_take_50 (by decide) ?_
        exact ih (n - 1) (by omega) _ (t + -1) (by omega) (by omega) (x_tk_step hP hI (by omega) ht (by omega))
set_option maxHeartbeats 4000000 in
set_option maxRecDepth 100000 in
theorem t_X1_take {v : zs_V} {p slot : Int} (hP : x_tkP v p slot) : zs_R mX1_take 0 0 shX (fun _ v' => x_Tak v p slot v') v 0 [some (.inr 7), some (.inl (p)), some (.inl (slot)), none] [] := by
  obtain ⟨hP1, hP2, hP3, hP4, hP5, -⟩ := id hP
  refine zs_aload_n dX1_take_0 rfl ?_
  refine zs_getr (j := 0) dX1_take_1 rfl rfl rfl (by decide) nX1_take_X1 fX1_take_9 ?_
  refine zs_iload_n dX1_take_4 rfl ?_
  refine zs_iload_n dX1_take_5 rfl ?_
  refine zs_iastore dX1_take_6 rfl (by decide) (by decide) (by omega) (by omega) ?_
  refine zs_aload_n dX1_take_7 rfl ?_
  refine zs_geti (j := 5) dX1_take_8 rfl rfl rfl (by decide) nX1_take_X1 fX1_take_27 ?_
  refine zs_istore_n (lv' := [some (.inr 7), some (.inl (p)), some (.inl (slot)), some (.inl ((zs_put v 5 (p) (slot)) 16 0))]) dX1_take_11 (by decide) rfl ?_
  exact l_X1_take hP (v 16 0).toNat _ (v 16 0) (by omega) (by omega) ⟨fun r _ => rfl, fun j _ _ => by rw [zs_put_r _ _ _ _ (by decide)], fun j h1 h2 => absurd h1 (by omega), fun j h1 h2 => absurd h1 (by omega)⟩

def x_vcI (v : zs_V) (p : Int) (u : zs_V) (i j : Int) : Prop := (∀ r, r ≠ 9 → u r = zs_put v 5 p (-1) r) ∧ (∀ k : Int, j ≤ k → k < v 16 0 → u 9 k = v 9 k) ∧ x_seg u 0 i.toNat = (x_seg v 0 j.toNat).filter (fun q => !(q == p))
theorem x_seg_1 (v : zs_V) {j : Int} (h : 0 ≤ j) : x_seg v 0 (j + 1).toNat = x_seg v 0 j.toNat ++ [v 9 j] := by
  rw [show (j + 1).toNat = j.toNat + 1 by omega, x_seg_add]
  simp [x_seg]
  congr 1
  omega
theorem x_vc_skip {v u : zs_V} {p i j : Int} (hI : x_vcI v p u i j) (h0 : 0 ≤ j) (hj : j < v 16 0) (h : v 9 j = p) : x_vcI v p u i (j + 1) := by
  refine ⟨hI.1, fun k h1 h2 => hI.2.1 k (by omega) h2, ?_⟩
  rw [x_seg_1 v h0, List.filter_append, ← hI.2.2]
  simp [h]
theorem x_vc_step {v u : zs_V} {p i j : Int} (hI : x_vcI v p u i j) (h0 : 0 ≤ i) (hij : i ≤ j) (hj : j < v 16 0) (h : ¬ v 9 j = p) (x : Int) (hx : x = v 9 j) : x_vcI v p (zs_put u 9 i x) (i + 1) (j + 1) := by
  refine ⟨fun r hr => by rw [zs_put_r _ _ _ _ hr]; exact hI.1 r hr, fun k h1 h2 => ?_, ?_⟩
  · rw [zs_put_k _ _ _ _ (by omega)]
    exact hI.2.1 k (by omega) h2
  · rw [x_seg_1 v (by omega), List.filter_append, ← hI.2.2, x_seg_1 _ h0, zs_put_s, hx]
    congr 1
    · apply x_seg_congr
      intro k h1 h2
      rw [zs_put_k _ _ _ _ (by omega)]
    · simp [h]
theorem x_vc_end {v u : zs_V} {p i : Int} (hI : x_vcI v p u i (v 16 0)) (h0 : 0 ≤ i) (hi : i ≤ v 16 0) : x_Vac v p (zs_put u 16 0 i) := by
  refine ⟨fun r h5 h9 h16 => ?_, fun q => ?_, ?_, ?_, ?_⟩
  · rw [zs_put_r _ _ _ _ h16, hI.1 r h9, zs_put_r _ _ _ _ h5]
  · rw [zs_put_r _ _ _ _ (by decide), hI.1 5 (by decide), zs_put_e]
  · rw [zs_put_s]; exact h0
  · rw [zs_put_s]; exact hi
  · unfold x_L
    rw [zs_put_s, ← hI.2.2]
    apply x_seg_congr
    intro k h1 h2
    rw [zs_put_r _ _ _ _ (by decide)]
set_option maxHeartbeats 4000000 in
set_option maxRecDepth 100000 in
theorem l_X1_vacate {v : zs_V} {p : Int} (hp : 0 ≤ p ∧ p < 200) (hT : 0 ≤ v 16 0 ∧ v 16 0 ≤ 200) (hz : ∀ j : Int, 0 ≤ j → j < v 16 0 → zn (v 9 j)) : ∀ (n : Nat) (u : zs_V) (i j : Int), j + n = v 16 0 → 0 ≤ i → i ≤ j → x_vcI v p u i j → zs_R mX1_vacate 0 0 shX (fun _ v' => x_Vac v p v') u 11 [some (.inr 7), some (.inl (p)), some (.inl (i)), some (.inl (j))] [] := by
  intro n
  induction n using Nat.strongRecOn with
  | ind n ih =>
    intro u i j hn h0 hij hI
    have et : u 16 0 = v 16 0 := by rw [hI.1 16 (by decide), zs_put_r _ _ _ _ (by decide)]
    refine zs_iload_n dX1_vacate_11 rfl ?_
    refine zs_aload_n dX1_vacate_12 rfl ?_
    refine zs_geti (j := 5) dX1_vacate_13 rfl rfl rfl (by decide) nX1_vacate_X1 fX1_vacate_27 ?_
    refine zs_icmp_ge (tgt := 50) dX1_vacate_16 (by decide) (by omega) (by omega) (fun h16 => ?_) (fun h16 => ?_)
    · refine zs_aload_n dX1_vacate_50 rfl ?_
      refine zs_iload_n dX1_vacate_51 rfl ?_
      refine zs_puti (j := 5) dX1_vacate_52 rfl rfl (by decide) rfl (by decide) nX1_vacate_X1 tyX1 tyX1_ok nmX1 rfl (by decide +kernel) fX1_vacate_27 ?_
      refine zs_vret dX1_vacate_55 rfl ?_
      obtain rfl : j = v 16 0 := by omega
      exact x_vc_end hI h0 hij
    · have ej := hI.2.1 j (by omega) (by omega)
      have hzj := hz j (by omega) (by omega)
      refine zs_aload_n dX1_vacate_19 rfl ?_
      refine zs_getr (j := 4) dX1_vacate_20 rfl rfl rfl (by decide) nX1_vacate_X1 fX1_vacate_24 ?_
      refine zs_iload_n dX1_vacate_23 rfl ?_
      refine zs_iaload dX1_vacate_24 rfl (by decide) (by omega) (by omega) ?_
      refine zs_iload_n dX1_vacate_25 rfl ?_
      refine zs_icmp_eq (tgt := 44) dX1_vacate_26 (by decide) (by omega) (by omega) (fun h26 => ?_) (fun h26 => ?_)
      · refine zs_iinc (lv' := [some (.inr 7), some (.inl (p)), some (.inl (i)), some (.inl (j + 1))]) dX1_vacate_44 rfl (by decide) rfl ?_
        refine zs_goto (tgt := 11) dX1_vacate_47 (by decide) ?_
        exact ih (n - 1) (by omega) _ i (j + 1) (by omega) h0 (by omega) (x_vc_skip hI (by omega) (by omega) (by omega))
      · refine zs_aload_n dX1_vacate_29 rfl ?_
        refine zs_getr (j := 4) dX1_vacate_30 rfl rfl rfl (by decide) nX1_vacate_X1 fX1_vacate_24 ?_
        refine zs_iload_n dX1_vacate_33 rfl ?_
        refine zs_aload_n dX1_vacate_34 rfl ?_
        refine zs_getr (j := 4) dX1_vacate_35 rfl rfl rfl (by decide) nX1_vacate_X1 fX1_vacate_24 ?_
        refine zs_iload_n dX1_vacate_38 rfl ?_
        refine zs_iaload dX1_vacate_39 rfl (by decide) (by omega) (by omega) ?_
        refine zs_iastore dX1_vacate_40 rfl (by decide) (by decide) (by omega) (by omega) ?_
        refine zs_iinc (lv' := [some (.inr 7), some (.inl (p)), some (.inl (i + 1)), some (.inl (j))]) dX1_vacate_41 rfl (by decide) rfl ?_
        refine zs_iinc (lv' := [some (.inr 7), some (.inl (p)), some (.inl (i + 1)), some (.inl (j + 1))]) dX1_vacate_44 rfl (by decide) rfl ?_
        refine zs_goto (tgt := 11) dX1_vacate_47 (by decide) ?_
        exact ih (n - 1) (by omega) _ (i + 1) (j + 1) (by omega) (by omega) (by omega) (x_vc_step hI h0 hij (by omega) (by omega) _ ej)
set_option maxHeartbeats 4000000 in
set_option maxRecDepth 100000 in
theorem t_X1_vacate {v : zs_V} {p : Int} (hp : 0 ≤ p ∧ p < 200) (hT : 0 ≤ v 16 0 ∧ v 16 0 ≤ 200) (hz : ∀ j : Int, 0 ≤ j → j < v 16 0 → zn (v 9 j)) : zs_R mX1_vacate 0 0 shX (fun _ v' => x_Vac v p v') v 0 [some (.inr 7), some (.inl (p)), none, none] [] := by
  refine zs_aload_n dX1_vacate_0 rfl ?_
  refine zs_getr (j := 0) dX1_vacate_1 rfl rfl rfl (by decide) nX1_vacate_X1 fX1_vacate_9 ?_
  refine zs_iload_n dX1_vacate_4 rfl ?_
  refine zs_iconst (x := -1) dX1_vacate_5 (by decide) ?_
  refine zs_iastore dX1_vacate_6 rfl (by decide) (by decide) (by omega) (by omega) ?_
  refine zs_iconst (x := 0) dX1_vacate_7 (by decide) ?_
  refine zs_istore_n (lv' := [some (.inr 7), some (.inl (p)), some (.inl (0)), none]) dX1_vacate_8 (by decide) rfl ?_
  refine zs_iconst (x := 0) dX1_vacate_9 (by decide) ?_
  refine zs_istore_n (lv' := [some (.inr 7), some (.inl (p)), some (.inl (0)), some (.inl (0))]) dX1_vacate_10 (by decide) rfl ?_
  exact l_X1_vacate hp hT hz (v 16 0).toNat _ 0 0 (by omega) (by omega) (by omega) ⟨fun r _ => rfl, fun k _ _ => by rw [zs_put_r _ _ _ _ (by decide)], rfl⟩
end
section
set_option maxHeartbeats 4000000 in
set_option maxRecDepth 100000 in
theorem t_X4_isZeroOrOne {v : zs_V} (x : Int) (hx : zn x) : zs_R mX4_isZeroOrOne 0 0 shX (zs_X (zb (x = 0 ∨ x = 1)) v) v 0 [some (.inl (x))] [] := by
  refine zs_iload_n dX4_isZeroOrOne_0 rfl ?_
  refine zs_if_eq (tgt := 9) dX4_isZeroOrOne_1 (by decide) (by omega) (fun h1 => ?_) (fun h1 => ?_)
  · refine zs_iconst (x := 1) dX4_isZeroOrOne_9 (by decide) ?_
    refine zs_goto (tgt := 14) dX4_isZeroOrOne_10 (by decide) ?_
    refine zs_zret dX4_isZeroOrOne_14 rfl (by first | omega | (split <;> omega)) ?_
    exact ⟨(zb_p (by omega)).symm, rfl⟩
  · refine zs_iload_n dX4_isZeroOrOne_4 rfl ?_
    refine zs_iconst (x := 1) dX4_isZeroOrOne_5 (by decide) ?_
    refine zs_icmp_ne (tgt := 13) dX4_isZeroOrOne_6 (by decide) (by omega) (by omega) (fun h6 => ?_) (fun h6 => ?_)
    · refine zs_iconst (x := 0) dX4_isZeroOrOne_13 (by decide) ?_
      refine zs_zret dX4_isZeroOrOne_14 rfl (by first | omega | (split <;> omega)) ?_
      exact ⟨(zb_n (by omega)).symm, rfl⟩
    · refine zs_iconst (x := 1) dX4_isZeroOrOne_9 (by decide) ?_
      refine zs_goto (tgt := 14) dX4_isZeroOrOne_10 (by decide) ?_
      refine zs_zret dX4_isZeroOrOne_14 rfl (by first | omega | (split <;> omega)) ?_
      exact ⟨(zb_p (by omega)).symm, rfl⟩
set_option maxHeartbeats 4000000 in
set_option maxRecDepth 100000 in
theorem t_X4_isSpan {v : zs_V} (x : Int) (hx : zn x) : zs_R mX4_isSpan 0 0 shX (zs_X (zb (1 ≤ x ∧ x ≤ 100000)) v) v 0 [some (.inl (x))] [] := by
  refine zs_iload_n dX4_isSpan_0 rfl ?_
  refine zs_iconst (x := 1) dX4_isSpan_1 (by decide) ?_
  refine zs_icmp_lt (tgt := 15) dX4_isSpan_2 (by decide) (by omega) (by omega) (fun h2 => ?_) (fun h2 => ?_)
  · refine zs_iconst (x := 0) dX4_isSpan_15 (by decide) ?_
    refine zs_zret dX4_isSpan_16 rfl (by first | omega | (split <;> omega)) ?_
    exact ⟨(zb_n (by omega)).symm, rfl⟩
  · refine zs_iload_n dX4_isSpan_5 rfl ?_
    refine zs_ldc (x := 100000) dX4_isSpan_6 kX4_isSpan_118 (by decide) ?_
    refine zs_icmp_gt (tgt := 15) dX4_isSpan_8 (by decide) (by omega) (by omega) (fun h8 => ?_) (fun h8 => ?_)
    · refine zs_iconst (x := 0) dX4_isSpan_15 (by decide) ?_
      refine zs_zret dX4_isSpan_16 rfl (by first | omega | (split <;> omega)) ?_
      exact ⟨(zb_n (by omega)).symm, rfl⟩
    · refine zs_iconst (x := 1) dX4_isSpan_11 (by decide) ?_
      refine zs_goto (tgt := 16) dX4_isSpan_12 (by decide) ?_
      refine zs_zret dX4_isSpan_16 rfl (by first | omega | (split <;> omega)) ?_
      exact ⟨(zb_p (by omega)).symm, rfl⟩
set_option maxHeartbeats 4000000 in
set_option maxRecDepth 100000 in
theorem t_X4_isMember {v : zs_V} (x : Int) (hx : zn x) : zs_R mX4_isMember 0 0 shX (zs_X (zb (0 ≤ x ∧ x < 10)) v) v 0 [some (.inl (x))] [] := by
  refine zs_iload_n dX4_isMember_0 rfl ?_
  refine zs_if_lt (tgt := 14) dX4_isMember_1 (by decide) (by omega) (fun h1 => ?_) (fun h1 => ?_)
  · refine zs_iconst (x := 0) dX4_isMember_14 (by decide) ?_
    refine zs_zret dX4_isMember_15 rfl (by first | omega | (split <;> omega)) ?_
    exact ⟨(zb_n (by omega)).symm, rfl⟩
  · refine zs_iload_n dX4_isMember_4 rfl ?_
    refine zs_bipush (x := 10) dX4_isMember_5 (by decide) ?_
    refine zs_icmp_ge (tgt := 14) dX4_isMember_7 (by decide) (by omega) (by omega) (fun h7 => ?_) (fun h7 => ?_)
    · refine zs_iconst (x := 0) dX4_isMember_14 (by decide) ?_
      refine zs_zret dX4_isMember_15 rfl (by first | omega | (split <;> omega)) ?_
      exact ⟨(zb_n (by omega)).symm, rfl⟩
    · refine zs_iconst (x := 1) dX4_isMember_10 (by decide) ?_
      refine zs_goto (tgt := 15) dX4_isMember_11 (by decide) ?_
      refine zs_zret dX4_isMember_15 rfl (by first | omega | (split <;> omega)) ?_
      exact ⟨(zb_p (by omega)).symm, rfl⟩
set_option maxHeartbeats 4000000 in
set_option maxRecDepth 100000 in
theorem t_X4_isMark {v : zs_V} (x : Int) (hx : zn x) : zs_R mX4_isMark 0 0 shX (zs_X (zb (0 ≤ x ∧ x < 3)) v) v 0 [some (.inl (x))] [] := by
  refine zs_iload_n dX4_isMark_0 rfl ?_
  refine zs_if_lt (tgt := 13) dX4_isMark_1 (by decide) (by omega) (fun h1 => ?_) (fun h1 => ?_)
  · refine zs_iconst (x := 0) dX4_isMark_13 (by decide) ?_
    refine zs_zret dX4_isMark_14 rfl (by first | omega | (split <;> omega)) ?_
    exact ⟨(zb_n (by omega)).symm, rfl⟩
  · refine zs_iload_n dX4_isMark_4 rfl ?_
    refine zs_iconst (x := 3) dX4_isMark_5 (by decide) ?_
    refine zs_icmp_ge (tgt := 13) dX4_isMark_6 (by decide) (by omega) (by omega) (fun h6 => ?_) (fun h6 => ?_)
    · refine zs_iconst (x := 0) dX4_isMark_13 (by decide) ?_
      refine zs_zret dX4_isMark_14 rfl (by first | omega | (split <;> omega)) ?_
      exact ⟨(zb_n (by omega)).symm, rfl⟩
    · refine zs_iconst (x := 1) dX4_isMark_9 (by decide) ?_
      refine zs_goto (tgt := 14) dX4_isMark_10 (by decide) ?_
      refine zs_zret dX4_isMark_14 rfl (by first | omega | (split <;> omega)) ?_
      exact ⟨(zb_p (by omega)).symm, rfl⟩
set_option maxHeartbeats 4000000 in
set_option maxRecDepth 100000 in
theorem t_X4_isStateAndKey {v : zs_V} (s k : Int) (hs : zn s) (hk : zn k) (hm : zn (v 15 0)) : zs_R mX4_isStateAndKey 0 0 shX (zs_X (zb ((0 ≤ s ∧ s < v 15 0) ∧ 0 ≤ k ∧ k < 100)) v) v 0 [some (.inr 0), some (.inl (s)), some (.inl (k))] [] := by
  refine zs_aload_n dX4_isStateAndKey_0 rfl ?_
  refine zs_getr (j := 0) dX4_isStateAndKey_1 rfl rfl rfl (by decide) nX4_isStateAndKey_X4 fX4_isStateAndKey_12 ?_
  refine zs_iload_n dX4_isStateAndKey_4 rfl ?_
  refine zs_eV (As := [.inl (s)]) (rest := []) (q := 1) dX4_isStateAndKey_5 rfl (Nat.le_of_ble_eq_true rfl) rfl rfl YX3_has rfl rfl (Nat.le_of_ble_eq_true rfl) gX4_isStateAndKey_X3_has (by decide) ⟨Nat.zero_le _, Nat.zero_le _⟩ rfl (t_X3_has (v := v) (s) (by omega) (by omega)) ?_
  refine zs_ifz_eq (tgt := 25) dX4_isStateAndKey_8 (by decide)  (fun h8 => ?_) (fun h8 => ?_)
  · refine zs_iconst (x := 0) dX4_isStateAndKey_25 (by decide) ?_
    refine zs_zret dX4_isStateAndKey_26 rfl (by first | omega | (split <;> omega)) ?_
    exact ⟨(zb_n (by omega)).symm, rfl⟩
  · refine zs_iload_n dX4_isStateAndKey_11 rfl ?_
    refine zs_if_lt (tgt := 25) dX4_isStateAndKey_12 (by decide) (by omega) (fun h12 => ?_) (fun h12 => ?_)
    · refine zs_iconst (x := 0) dX4_isStateAndKey_25 (by decide) ?_
      refine zs_zret dX4_isStateAndKey_26 rfl (by first | omega | (split <;> omega)) ?_
      exact ⟨(zb_n (by omega)).symm, rfl⟩
    · refine zs_iload_n dX4_isStateAndKey_15 rfl ?_
      refine zs_bipush (x := 100) dX4_isStateAndKey_16 (by decide) ?_
      refine zs_icmp_ge (tgt := 25) dX4_isStateAndKey_18 (by decide) (by omega) (by omega) (fun h18 => ?_) (fun h18 => ?_)
      · refine zs_iconst (x := 0) dX4_isStateAndKey_25 (by decide) ?_
        refine zs_zret dX4_isStateAndKey_26 rfl (by first | omega | (split <;> omega)) ?_
        exact ⟨(zb_n (by omega)).symm, rfl⟩
      · refine zs_iconst (x := 1) dX4_isStateAndKey_21 (by decide) ?_
        refine zs_goto (tgt := 26) dX4_isStateAndKey_22 (by decide) ?_
        refine zs_zret dX4_isStateAndKey_26 rfl (by first | omega | (split <;> omega)) ?_
        exact ⟨(zb_p (by omega)).symm, rfl⟩
set_option maxHeartbeats 4000000 in
set_option maxRecDepth 100000 in
theorem t_X4_isNumberFor {v : zs_V} (hS : x_S v) (s k m : Int) (hs : zn s) (hk : zn k) (hm : zn m) : zs_R mX4_isNumberFor 0 0 shX (zs_X (zb (((0 ≤ s ∧ s < v 15 0) ∧ 0 ≤ k ∧ k < 100) ∧ ¬ v 0 s = 1 ∧ 0 ≤ m ∧ m < 10)) v) v 0 [some (.inr 0), some (.inl (s)), some (.inl (k)), some (.inl (m))] [] := by
  have hm1 := hS.1
  have hm2 := hS.2.1
  refine zs_aload_n dX4_isNumberFor_0 rfl ?_
  refine zs_iload_n dX4_isNumberFor_1 rfl ?_
  refine zs_iload_n dX4_isNumberFor_2 rfl ?_
  refine zs_eV (As := [.inl (s), .inl (k)]) (rest := []) (q := 0) dX4_isNumberFor_3 rfl (Nat.le_of_ble_eq_true rfl) rfl rfl YX4_isStateAndKey rfl rfl (Nat.le_of_ble_eq_true rfl) gX4_isNumberFor_X4_isStateAndKey (by decide) ⟨Nat.zero_le _, Nat.zero_le _⟩ rfl (t_X4_isStateAndKey (v := v) (s) (k) (by omega) (by omega) (by omega)) ?_
  refine zs_ifz_eq (tgt := 31) dX4_isNumberFor_6 (by decide)  (fun h6 => ?_) (fun h6 => ?_)
  · refine zs_iconst (x := 0) dX4_isNumberFor_31 (by decide) ?_
    refine zs_zret dX4_isNumberFor_32 rfl (by first | omega | (split <;> omega)) ?_
    exact ⟨(zb_n (by omega)).symm, rfl⟩
  · have hs1 := x_S_at hS (s := s) (by omega) (by omega)
    refine zs_aload_n dX4_isNumberFor_9 rfl ?_
    refine zs_getr (j := 0) dX4_isNumberFor_10 rfl rfl rfl (by decide) nX4_isNumberFor_X4 fX4_isNumberFor_12 ?_
    refine zs_iload_n dX4_isNumberFor_13 rfl ?_
    refine zs_eV (As := [.inl (s)]) (rest := []) (q := 1) dX4_isNumberFor_14 rfl (Nat.le_of_ble_eq_true rfl) rfl rfl YX3_isList rfl rfl (Nat.le_of_ble_eq_true rfl) gX4_isNumberFor_X3_isList (by decide) ⟨Nat.zero_le _, Nat.zero_le _⟩ rfl (t_X3_isList (v := v) (s) (by omega) (by omega)) ?_
    refine zs_ifz_ne (tgt := 31) dX4_isNumberFor_17 (by decide)  (fun h17 => ?_) (fun h17 => ?_)
    · refine zs_iconst (x := 0) dX4_isNumberFor_31 (by decide) ?_
      refine zs_zret dX4_isNumberFor_32 rfl (by first | omega | (split <;> omega)) ?_
      exact ⟨(zb_n (by omega)).symm, rfl⟩
    · refine zs_iload_n dX4_isNumberFor_20 rfl ?_
      refine zs_eS (As := [.inl (m)]) (rest := []) dX4_isNumberFor_21 rfl (Nat.le_of_ble_eq_true rfl) YX4_isMember rfl (Nat.le_of_ble_eq_true rfl) gX4_isNumberFor_X4_isMember (by decide) ⟨Nat.zero_le _, Nat.zero_le _⟩ rfl (t_X4_isMember (v := v) (m) (by omega)) ?_
      refine zs_ifz_eq (tgt := 31) dX4_isNumberFor_24 (by decide)  (fun h24 => ?_) (fun h24 => ?_)
      · refine zs_iconst (x := 0) dX4_isNumberFor_31 (by decide) ?_
        refine zs_zret dX4_isNumberFor_32 rfl (by first | omega | (split <;> omega)) ?_
        exact ⟨(zb_n (by omega)).symm, rfl⟩
      · refine zs_iconst (x := 1) dX4_isNumberFor_27 (by decide) ?_
        refine zs_goto (tgt := 32) dX4_isNumberFor_28 (by decide) ?_
        refine zs_zret dX4_isNumberFor_32 rfl (by first | omega | (split <;> omega)) ?_
        exact ⟨(zb_p (by omega)).symm, rfl⟩
set_option maxHeartbeats 4000000 in
set_option maxRecDepth 100000 in
theorem t_X4_isListFor {v : zs_V} (hS : x_S v) (s k : Int) (hs : zn s) (hk : zn k) : zs_R mX4_isListFor 0 0 shX (zs_X (zb (((0 ≤ s ∧ s < v 15 0) ∧ 0 ≤ k ∧ k < 100) ∧ v 0 s = 1)) v) v 0 [some (.inr 0), some (.inl (s)), some (.inl (k))] [] := by
  have hm1 := hS.1
  have hm2 := hS.2.1
  refine zs_aload_n dX4_isListFor_0 rfl ?_
  refine zs_iload_n dX4_isListFor_1 rfl ?_
  refine zs_iload_n dX4_isListFor_2 rfl ?_
  refine zs_eV (As := [.inl (s), .inl (k)]) (rest := []) (q := 0) dX4_isListFor_3 rfl (Nat.le_of_ble_eq_true rfl) rfl rfl YX4_isStateAndKey rfl rfl (Nat.le_of_ble_eq_true rfl) gX4_isListFor_X4_isStateAndKey (by decide) ⟨Nat.zero_le _, Nat.zero_le _⟩ rfl (t_X4_isStateAndKey (v := v) (s) (k) (by omega) (by omega) (by omega)) ?_
  refine zs_ifz_eq (tgt := 24) dX4_isListFor_6 (by decide)  (fun h6 => ?_) (fun h6 => ?_)
  · refine zs_iconst (x := 0) dX4_isListFor_24 (by decide) ?_
    refine zs_zret dX4_isListFor_25 rfl (by first | omega | (split <;> omega)) ?_
    exact ⟨(zb_n (by omega)).symm, rfl⟩
  · have hs1 := x_S_at hS (s := s) (by omega) (by omega)
    refine zs_aload_n dX4_isListFor_9 rfl ?_
    refine zs_getr (j := 0) dX4_isListFor_10 rfl rfl rfl (by decide) nX4_isListFor_X4 fX4_isListFor_12 ?_
    refine zs_iload_n dX4_isListFor_13 rfl ?_
    refine zs_eV (As := [.inl (s)]) (rest := []) (q := 1) dX4_isListFor_14 rfl (Nat.le_of_ble_eq_true rfl) rfl rfl YX3_isList rfl rfl (Nat.le_of_ble_eq_true rfl) gX4_isListFor_X3_isList (by decide) ⟨Nat.zero_le _, Nat.zero_le _⟩ rfl (t_X3_isList (v := v) (s) (by omega) (by omega)) ?_
    refine zs_ifz_eq (tgt := 24) dX4_isListFor_17 (by decide)  (fun h17 => ?_) (fun h17 => ?_)
    · refine zs_iconst (x := 0) dX4_isListFor_24 (by decide) ?_
      refine zs_zret dX4_isListFor_25 rfl (by first | omega | (split <;> omega)) ?_
      exact ⟨(zb_n (by omega)).symm, rfl⟩
    · refine zs_iconst (x := 1) dX4_isListFor_20 (by decide) ?_
      refine zs_goto (tgt := 25) dX4_isListFor_21 (by decide) ?_
      refine zs_zret dX4_isListFor_25 rfl (by first | omega | (split <;> omega)) ?_
      exact ⟨(zb_p (by omega)).symm, rfl⟩
set_option maxHeartbeats 4000000 in
set_option maxRecDepth 100000 in
theorem t_X4_isMemberOrIndexFor {v : zs_V} (hS : x_S v) (s k m : Int) (hs : zn s) (hk : zn k) (hm : zn m) : zs_R mX4_isMemberOrIndexFor 0 0 shX (zs_X (zb (((0 ≤ s ∧ s < v 15 0) ∧ 0 ≤ k ∧ k < 100) ∧ 0 ≤ m ∧ (v 0 s = 1 ∨ m < 10))) v) v 0 [some (.inr 0), some (.inl (s)), some (.inl (k)), some (.inl (m))] [] := by
  have hm1 := hS.1
  have hm2 := hS.2.1
  refine zs_aload_n dX4_isMemberOrIndexFor_0 rfl ?_
  refine zs_iload_n dX4_isMemberOrIndexFor_1 rfl ?_
  refine zs_iload_n dX4_isMemberOrIndexFor_2 rfl ?_
  refine zs_eV (As := [.inl (s), .inl (k)]) (rest := []) (q := 0) dX4_isMemberOrIndexFor_3 rfl (Nat.le_of_ble_eq_true rfl) rfl rfl YX4_isStateAndKey rfl rfl (Nat.le_of_ble_eq_true rfl) gX4_isMemberOrIndexFor_X4_isStateAndKey (by decide) ⟨Nat.zero_le _, Nat.zero_le _⟩ rfl (t_X4_isStateAndKey (v := v) (s) (k) (by omega) (by omega) (by omega)) ?_
  refine zs_ifz_eq (tgt := 35) dX4_isMemberOrIndexFor_6 (by decide)  (fun h6 => ?_) (fun h6 => ?_)
  · refine zs_iconst (x := 0) dX4_isMemberOrIndexFor_35 (by decide) ?_
    refine zs_zret dX4_isMemberOrIndexFor_36 rfl (by first | omega | (split <;> omega)) ?_
    exact ⟨(zb_n (by omega)).symm, rfl⟩
  · have hs1 := x_S_at hS (s := s) (by omega) (by omega)
    refine zs_iload_n dX4_isMemberOrIndexFor_9 rfl ?_
    refine zs_if_lt (tgt := 35) dX4_isMemberOrIndexFor_10 (by decide) (by omega) (fun h10 => ?_) (fun h10 => ?_)
    · refine zs_iconst (x := 0) dX4_isMemberOrIndexFor_35 (by decide) ?_
      refine zs_zret dX4_isMemberOrIndexFor_36 rfl (by first | omega | (split <;> omega)) ?_
      exact ⟨(zb_n (by omega)).symm, rfl⟩
    · refine zs_aload_n dX4_isMemberOrIndexFor_13 rfl ?_
      refine zs_getr (j := 0) dX4_isMemberOrIndexFor_14 rfl rfl rfl (by decide) nX4_isMemberOrIndexFor_X4 fX4_isMemberOrIndexFor_12 ?_
      refine zs_iload_n dX4_isMemberOrIndexFor_17 rfl ?_
      refine zs_eV (As := [.inl (s)]) (rest := []) (q := 1) dX4_isMemberOrIndexFor_18 rfl (Nat.le_of_ble_eq_true rfl) rfl rfl YX3_isList rfl rfl (Nat.le_of_ble_eq_true rfl) gX4_isMemberOrIndexFor_X3_isList (by decide) ⟨Nat.zero_le _, Nat.zero_le _⟩ rfl (t_X3_isList (v := v) (s) (by omega) (by omega)) ?_
      refine zs_ifz_ne (tgt := 31) dX4_isMemberOrIndexFor_21 (by decide)  (fun h21 => ?_) (fun h21 => ?_)
      · refine zs_iconst (x := 1) dX4_isMemberOrIndexFor_31 (by decide) ?_
        refine zs_goto (tgt := 36) dX4_isMemberOrIndexFor_32 (by decide) ?_
        refine zs_zret dX4_isMemberOrIndexFor_36 rfl (by first | omega | (split <;> omega)) ?_
        exact ⟨(zb_p (by omega)).symm, rfl⟩
      · refine zs_iload_n dX4_isMemberOrIndexFor_24 rfl ?_
        refine zs_eS (As := [.inl (m)]) (rest := []) dX4_isMemberOrIndexFor_25 rfl (Nat.le_of_ble_eq_true rfl) YX4_isMember rfl (Nat.le_of_ble_eq_true rfl) gX4_isMemberOrIndexFor_X4_isMember (by decide) ⟨Nat.zero_le _, Nat.zero_le _⟩ rfl (t_X4_isMember (v := v) (m) (by omega)) ?_
        refine zs_ifz_eq (tgt := 35) dX4_isMemberOrIndexFor_28 (by decide)  (fun h28 => ?_) (fun h28 => ?_)
        · refine zs_iconst (x := 0) dX4_isMemberOrIndexFor_35 (by decide) ?_
          refine zs_zret dX4_isMemberOrIndexFor_36 rfl (by first | omega | (split <;> omega)) ?_
          exact ⟨(zb_n (by omega)).symm, rfl⟩
        · refine zs_iconst (x := 1) dX4_isMemberOrIndexFor_31 (by decide) ?_
          refine zs_goto (tgt := 36) dX4_isMemberOrIndexFor_32 (by decide) ?_
          refine zs_zret dX4_isMemberOrIndexFor_36 rfl (by first | omega | (split <;> omega)) ?_
          exact ⟨(zb_p (by omega)).symm, rfl⟩
set_option maxHeartbeats 4000000 in
set_option maxRecDepth 100000 in
theorem t_X4_slotOf {v : zs_V} (s k m : Int) : zs_R mX4_slotOf 0 0 shX (zs_X (s * 1000 + k * 10 + m) v) v 0 [some (.inl (s)), some (.inl (k)), some (.inl (m))] [] := by
  refine zs_iload_n dX4_slotOf_0 rfl ?_
  refine zs_sipush (x := 1000) dX4_slotOf_1 (by decide) ?_
  refine zs_imul dX4_slotOf_4 ?_
  refine zs_iload_n dX4_slotOf_5 rfl ?_
  refine zs_bipush (x := 10) dX4_slotOf_6 (by decide) ?_
  refine zs_imul dX4_slotOf_8 ?_
  refine zs_iadd dX4_slotOf_9 ?_
  refine zs_iload_n dX4_slotOf_10 rfl ?_
  refine zs_iadd dX4_slotOf_11 ?_
  refine zs_iret dX4_slotOf_12 rfl ?_
  exact ⟨rfl, rfl⟩
set_option maxHeartbeats 4000000 in
set_option maxRecDepth 100000 in
theorem t_X4_slotFor {v : zs_V} (hS : x_S v) (s k m : Int) (hs : 0 ≤ s ∧ s < v 15 0) : zs_R mX4_slotFor 0 0 shX (zs_X (s * 1000 + k * 10 + (if v 0 s = 1 then 0 else m)) v) v 0 [some (.inr 0), some (.inl (s)), some (.inl (k)), some (.inl (m))] [] := by
  have hs1 := x_S_at hS (s := s) (by omega) (by omega)
  refine zs_iload_n dX4_slotFor_0 rfl ?_
  refine zs_iload_n dX4_slotFor_1 rfl ?_
  refine zs_aload_n dX4_slotFor_2 rfl ?_
  refine zs_getr (j := 0) dX4_slotFor_3 rfl rfl rfl (by decide) nX4_slotFor_X4 fX4_slotFor_12 ?_
  refine zs_iload_n dX4_slotFor_6 rfl ?_
  refine zs_eV (As := [.inl (s)]) (rest := [.inl (k), .inl (s)]) (q := 1) dX4_slotFor_7 rfl (Nat.le_of_ble_eq_true rfl) rfl rfl YX3_isList rfl rfl (Nat.le_of_ble_eq_true rfl) gX4_slotFor_X3_isList (by decide) ⟨Nat.zero_le _, Nat.zero_le _⟩ rfl (t_X3_isList (v := v) (s) (by omega) (by omega)) ?_
  refine zs_ifz_eq (tgt := 17) dX4_slotFor_10 (by decide)  (fun h10 => ?_) (fun h10 => ?_)
  · refine zs_iload_n dX4_slotFor_17 rfl ?_
    refine zs_eS (As := [.inl (s), .inl (k), .inl (m)]) (rest := []) dX4_slotFor_18 rfl (Nat.le_of_ble_eq_true rfl) YX4_slotOf rfl (Nat.le_of_ble_eq_true rfl) gX4_slotFor_X4_slotOf (by decide) ⟨Nat.zero_le _, Nat.zero_le _⟩ rfl (t_X4_slotOf (v := v) (s) (k) (m)) ?_
    refine zs_iret dX4_slotFor_21 rfl ?_
    exact ⟨by rw [if_neg h10], rfl⟩
  · refine zs_iconst (x := 0) dX4_slotFor_13 (by decide) ?_
    refine zs_goto (tgt := 18) dX4_slotFor_14 (by decide) ?_
    refine zs_eS (As := [.inl (s), .inl (k), .inl (0)]) (rest := []) dX4_slotFor_18 rfl (Nat.le_of_ble_eq_true rfl) YX4_slotOf rfl (Nat.le_of_ble_eq_true rfl) gX4_slotFor_X4_slotOf (by decide) ⟨Nat.zero_le _, Nat.zero_le _⟩ rfl (t_X4_slotOf (v := v) (s) (k) (0)) ?_
    refine zs_iret dX4_slotFor_21 rfl ?_
    exact ⟨by rw [if_pos h10], rfl⟩
set_option maxHeartbeats 4000000 in
set_option maxRecDepth 100000 in
theorem t_X4_indexFor {v : zs_V} (hS : x_S v) (s m : Int) (hs : 0 ≤ s ∧ s < v 15 0) : zs_R mX4_indexFor 0 0 shX (zs_X (if v 0 s = 1 then m else 0) v) v 0 [some (.inr 0), some (.inl (s)), some (.inl (m))] [] := by
  have hs1 := x_S_at hS (s := s) (by omega) (by omega)
  refine zs_aload_n dX4_indexFor_0 rfl ?_
  refine zs_getr (j := 0) dX4_indexFor_1 rfl rfl rfl (by decide) nX4_indexFor_X4 fX4_indexFor_12 ?_
  refine zs_iload_n dX4_indexFor_4 rfl ?_
  refine zs_eV (As := [.inl (s)]) (rest := []) (q := 1) dX4_indexFor_5 rfl (Nat.le_of_ble_eq_true rfl) rfl rfl YX3_isList rfl rfl (Nat.le_of_ble_eq_true rfl) gX4_indexFor_X3_isList (by decide) ⟨Nat.zero_le _, Nat.zero_le _⟩ rfl (t_X3_isList (v := v) (s) (by omega) (by omega)) ?_
  refine zs_ifz_eq (tgt := 15) dX4_indexFor_8 (by decide)  (fun h8 => ?_) (fun h8 => ?_)
  · refine zs_iconst (x := 0) dX4_indexFor_15 (by decide) ?_
    refine zs_iret dX4_indexFor_16 rfl ?_
    exact ⟨by rw [if_neg h8], rfl⟩
  · refine zs_iload_n dX4_indexFor_11 rfl ?_
    refine zs_goto (tgt := 16) dX4_indexFor_12 (by decide) ?_
    refine zs_iret dX4_indexFor_16 rfl ?_
    exact ⟨by rw [if_pos h8], rfl⟩
set_option maxHeartbeats 4000000 in
set_option maxRecDepth 100000 in
theorem t_X4_isOfKey {v : zs_V} (p s k : Int) (hp : 0 ≤ p ∧ p < 200) (h : 0 ≤ v 5 p ∧ v 5 p < 6000) (hs : zn s) (hk : zn k) : zs_R mX4_isOfKey 0 0 shX (zs_X (zb (v 5 p / 1000 = s ∧ v 5 p / 10 % 100 = k)) v) v 0 [some (.inr 0), some (.inl (p)), some (.inl (s)), some (.inl (k))] [] := by
  refine zs_aload_n dX4_isOfKey_0 rfl ?_
  refine zs_getr (j := 1) dX4_isOfKey_1 rfl rfl rfl (by decide) nX4_isOfKey_X4 fX4_isOfKey_19 ?_
  refine zs_iload_n dX4_isOfKey_4 rfl ?_
  refine zs_eV (As := [.inl (p)]) (rest := []) (q := 7) dX4_isOfKey_5 rfl (Nat.le_of_ble_eq_true rfl) rfl rfl YX1_stateAt rfl rfl (Nat.le_of_ble_eq_true rfl) gX4_isOfKey_X1_stateAt (by decide) ⟨Nat.zero_le _, Nat.zero_le _⟩ rfl (t_X1_stateAt (v := v) (p) (by omega) (by omega)) ?_
  refine zs_iload_n dX4_isOfKey_8 rfl ?_
  refine zs_icmp_ne (tgt := 28) dX4_isOfKey_9 (by decide) (by omega) (by omega) (fun h9 => ?_) (fun h9 => ?_)
  · refine zs_iconst (x := 0) dX4_isOfKey_28 (by decide) ?_
    refine zs_zret dX4_isOfKey_29 rfl (by first | omega | (split <;> omega)) ?_
    exact ⟨(zb_n (by omega)).symm, rfl⟩
  · refine zs_aload_n dX4_isOfKey_12 rfl ?_
    refine zs_getr (j := 1) dX4_isOfKey_13 rfl rfl rfl (by decide) nX4_isOfKey_X4 fX4_isOfKey_19 ?_
    refine zs_iload_n dX4_isOfKey_16 rfl ?_
    refine zs_eV (As := [.inl (p)]) (rest := []) (q := 7) dX4_isOfKey_17 rfl (Nat.le_of_ble_eq_true rfl) rfl rfl YX1_keyAt rfl rfl (Nat.le_of_ble_eq_true rfl) gX4_isOfKey_X1_keyAt (by decide) ⟨Nat.zero_le _, Nat.zero_le _⟩ rfl (t_X1_keyAt (v := v) (p) (by omega) (by omega)) ?_
    refine zs_iload_n dX4_isOfKey_20 rfl ?_
    refine zs_icmp_ne (tgt := 28) dX4_isOfKey_21 (by decide) (by omega) (by omega) (fun h21 => ?_) (fun h21 => ?_)
    · refine zs_iconst (x := 0) dX4_isOfKey_28 (by decide) ?_
      refine zs_zret dX4_isOfKey_29 rfl (by first | omega | (split <;> omega)) ?_
      exact ⟨(zb_n (by omega)).symm, rfl⟩
    · refine zs_iconst (x := 1) dX4_isOfKey_24 (by decide) ?_
      refine zs_goto (tgt := 29) dX4_isOfKey_25 (by decide) ?_
      refine zs_zret dX4_isOfKey_29 rfl (by first | omega | (split <;> omega)) ?_
      exact ⟨(zb_p (by omega)).symm, rfl⟩

theorem x_P_f {v : zs_V} {p : Int} (hS : x_S v) (h : x_P v p) : 0 ≤ p ∧ p < 200 ∧ 0 ≤ v 5 p ∧ v 5 p < 6000 ∧ 0 ≤ v 5 p / 1000 ∧ v 5 p / 1000 < 6 ∧ v 5 p / 1000 < v 15 0 ∧ (v 0 (v 5 p / 1000) = 0 ∨ v 0 (v 5 p / 1000) = 1) ∧ (v 1 (v 5 p / 1000) = 0 ∨ v 1 (v 5 p / 1000) = 1) ∧ 1 ≤ v 2 (v 5 p / 1000) ∧ v 2 (v 5 p / 1000) ≤ 100000 ∧ (v 3 (v 5 p / 1000) = 0 ∨ v 3 (v 5 p / 1000) = 1) ∧ 0 ≤ v 4 (v 1 (v 5 p / 1000)) ∧ v 4 (v 1 (v 5 p / 1000)) ≤ 1000000000 := by
  obtain ⟨h1, h2, h3, h4⟩ := h
  have hm := hS.2.1
  obtain ⟨a, b, c, d, e, f, g, i⟩ := x_S_at hS (s := v 5 p / 1000) (by omega) (by omega)
  exact ⟨h1, h2, h3, by omega, by omega, a, by omega, b, c, d, e, f, g, i⟩
theorem x_left_b {v : zs_V} {p : Int} (hS : x_S v) (h : x_E v p) : -1000000000 ≤ x_left v p ∧ x_left v p ≤ 1000100000 := by
  have hf := x_P_f hS h.1
  have h2 := h.2
  unfold x_left
  omega
theorem x_S_of {u v : zs_V} (h0 : u 0 = v 0) (h1 : u 1 = v 1) (h2 : u 2 = v 2) (h3 : u 3 = v 3) (h4 : u 4 = v 4) (h15 : u 15 = v 15) (h : x_S v) : x_S u := by
  unfold x_S
  rw [h0, h1, h2, h3, h4, h15]
  exact h
theorem x_P_of {u v : zs_V} {p : Int} (h5 : u 5 = v 5) (h15 : u 15 = v 15) (h : x_P v p) : x_P u p := by
  unfold x_P
  rw [h5, h15]
  exact h
theorem x_E_of {u v : zs_V} {p : Int} (h5 : u 5 = v 5) (h8 : u 8 = v 8) (h15 : u 15 = v 15) (h : x_E v p) : x_E u p := by
  unfold x_E
  rw [h8]
  exact ⟨x_P_of h5 h15 h.1, h.2⟩
theorem x_T_of {u v : zs_V} (h5 : u 5 = v 5) (h8 : u 8 = v 8) (h9 : u 9 = v 9) (h15 : u 15 = v 15) (h16 : u 16 = v 16) (h : x_T v) : x_T u := by
  unfold x_T
  rw [h16, h9]
  exact ⟨h.1, h.2.1, fun j a b => x_E_of h5 h8 h15 (h.2.2 j a b)⟩
theorem x_seg_9 {u v : zs_V} (h : u 9 = v 9) (a : Int) (n : Nat) : x_seg u a n = x_seg v a n := x_seg_congr u v a a n (fun i _ _ => by rw [h])
theorem x_L_of {u v : zs_V} (h9 : u 9 = v 9) (h16 : u 16 = v 16) : x_L u = x_L v := by
  unfold x_L
  rw [h16]
  exact x_seg_9 h9 _ _
set_option maxHeartbeats 4000000 in
set_option maxRecDepth 100000 in
theorem t_X4_leftOf {v : zs_V} (p : Int) (hS : x_S v) (hE : x_E v p) : zs_R mX4_leftOf 0 0 shX (zs_X (x_left v p) v) v 0 [some (.inr 0), some (.inl (p))] [] := by
  have hf := x_P_f hS hE.1
  refine zs_aload_n dX4_leftOf_0 rfl ?_
  refine zs_getr (j := 1) dX4_leftOf_1 rfl rfl rfl (by decide) nX4_leftOf_X4 fX4_leftOf_19 ?_
  refine zs_getr (j := 3) dX4_leftOf_4 rfl rfl rfl (by decide) nX4_leftOf_X1 fX4_leftOf_187 ?_
  refine zs_iload_n dX4_leftOf_7 rfl ?_
  refine zs_iaload dX4_leftOf_8 rfl (by decide) (by omega) (by omega) ?_
  refine zs_aload_n dX4_leftOf_9 rfl ?_
  refine zs_getr (j := 0) dX4_leftOf_10 rfl rfl rfl (by decide) nX4_leftOf_X4 fX4_leftOf_12 ?_
  refine zs_aload_n dX4_leftOf_13 rfl ?_
  refine zs_getr (j := 1) dX4_leftOf_14 rfl rfl rfl (by decide) nX4_leftOf_X4 fX4_leftOf_19 ?_
  refine zs_iload_n dX4_leftOf_17 rfl ?_
  refine zs_eV (As := [.inl (p)]) (rest := [.inr 1, .inl (v 8 (p))]) (q := 7) dX4_leftOf_18 rfl (Nat.le_of_ble_eq_true rfl) rfl rfl YX1_stateAt rfl rfl (Nat.le_of_ble_eq_true rfl) gX4_leftOf_X1_stateAt (by decide) ⟨Nat.zero_le _, Nat.zero_le _⟩ rfl (t_X1_stateAt (v := v) (p) (by omega) (by omega)) ?_
  refine zs_eV (As := [.inl (v 5 (p) / 1000)]) (rest := [.inl (v 8 (p))]) (q := 1) dX4_leftOf_21 rfl (Nat.le_of_ble_eq_true rfl) rfl rfl YX3_timeOf rfl rfl (Nat.le_of_ble_eq_true rfl) gX4_leftOf_X3_timeOf (by decide) ⟨Nat.zero_le _, Nat.zero_le _⟩ rfl (t_X3_timeOf (v := v) (v 5 (p) / 1000) (by omega) (by omega)) ?_
  refine zs_isub dX4_leftOf_24 ?_
  refine zs_iret dX4_leftOf_25 rfl ?_
  exact ⟨rfl, rfl⟩
set_option maxHeartbeats 4000000 in
set_option maxRecDepth 100000 in
theorem t_X4_isShown {v : zs_V} (p : Int) (hS : x_S v) (hE : x_E v p) : zs_R mX4_isShown 0 0 shX (zs_X (zb (0 < x_left v p)) v) v 0 [some (.inr 0), some (.inl (p))] [] := by
  have hl := x_left_b hS hE
  refine zs_aload_n dX4_isShown_0 rfl ?_
  refine zs_iload_n dX4_isShown_1 rfl ?_
  refine zs_eV (As := [.inl (p)]) (rest := []) (q := 0) dX4_isShown_2 rfl (Nat.le_of_ble_eq_true rfl) rfl rfl YX4_leftOf rfl rfl (Nat.le_of_ble_eq_true rfl) gX4_isShown_X4_leftOf (by decide) ⟨Nat.zero_le _, Nat.zero_le _⟩ rfl (t_X4_leftOf (v := v) (p) hS hE) ?_
  refine zs_if_le (tgt := 12) dX4_isShown_5 (by decide) (by omega) (fun h5 => ?_) (fun h5 => ?_)
  · refine zs_iconst (x := 0) dX4_isShown_12 (by decide) ?_
    refine zs_zret dX4_isShown_13 rfl (by first | omega | (split <;> omega)) ?_
    exact ⟨(zb_n (by omega)).symm, rfl⟩
  · refine zs_iconst (x := 1) dX4_isShown_8 (by decide) ?_
    refine zs_goto (tgt := 13) dX4_isShown_9 (by decide) ?_
    refine zs_zret dX4_isShown_13 rfl (by first | omega | (split <;> omega)) ?_
    exact ⟨(zb_p (by omega)).symm, rfl⟩
end
section
set_option maxHeartbeats 4000000 in
set_option maxRecDepth 100000 in
theorem l_X4_placeOf {v : zs_V} {slot i over r0 : Int} (hS : x_S v) (hT : x_T v) (hsl : zn slot) (hi : zn i) (hov : zn over) : ∀ (n : Nat) (j b : Int) (x6 : Option zs_A), 0 ≤ j → j + n = v 16 0 → 0 ≤ b → b ≤ j → x_pl v slot i over (x_seg v j n) b = r0 → zs_R mX4_placeOf 0 0 shX (zs_X r0 v) v 6 [some (.inr 0), some (.inl (slot)), some (.inl (i)), some (.inl (over)), some (.inl (b)), some (.inl (j)), x6] [] := by
  have hT1 := hT.2.1
  intro n
  induction n using Nat.strongRecOn with
  | ind n ih =>
    intro j b x6 h0 hn hb hbj hr
    refine zs_iload dX4_placeOf_6 rfl ?_
    refine zs_aload_n dX4_placeOf_8 rfl ?_
    refine zs_getr (j := 1) dX4_placeOf_9 rfl rfl rfl (by decide) nX4_placeOf_X4 fX4_placeOf_19 ?_
    refine zs_geti (j := 5) dX4_placeOf_12 rfl rfl rfl (by decide) nX4_placeOf_X1 fX4_placeOf_142 ?_
    refine zs_icmp_ge (tgt := 75) dX4_placeOf_15 (by decide) (by omega) (by omega) (fun h15 => ?_) (fun h15 => ?_)
    · refine zs_iconst (x := -1) dX4_placeOf_75 (by decide) ?_
      refine zs_iret dX4_placeOf_76 rfl ?_
      obtain rfl : n = 0 := by omega
      exact ⟨hr, rfl⟩
    · obtain ⟨n', rfl⟩ : ∃ n', n = n' + 1 := ⟨n - 1, by omega⟩
      have hE := hT.2.2 j (by omega) (by omega)
      have hf := x_P_f hS hE.1
      refine zs_aload_n dX4_placeOf_18 rfl ?_
      refine zs_getr (j := 1) dX4_placeOf_19 rfl rfl rfl (by decide) nX4_placeOf_X4 fX4_placeOf_19 ?_
      refine zs_getr (j := 4) dX4_placeOf_22 rfl rfl rfl (by decide) nX4_placeOf_X1 fX4_placeOf_145 ?_
      refine zs_iload dX4_placeOf_25 rfl ?_
      refine zs_iaload dX4_placeOf_27 rfl (by decide) (by omega) (by omega) ?_
      refine zs_istore (lv' := [some (.inr 0), some (.inl (slot)), some (.inl (i)), some (.inl (over)), some (.inl (b)), some (.inl (j)), some (.inl (v 9 (j)))]) dX4_placeOf_28 (by decide) rfl ?_
      refine zs_aload_n dX4_placeOf_30 rfl ?_
      refine zs_getr (j := 1) dX4_placeOf_31 rfl rfl rfl (by decide) nX4_placeOf_X4 fX4_placeOf_19 ?_
      refine zs_getr (j := 0) dX4_placeOf_34 rfl rfl rfl (by decide) nX4_placeOf_X1 fX4_placeOf_148 ?_
      refine zs_iload dX4_placeOf_37 rfl ?_
      refine zs_iaload dX4_placeOf_39 rfl (by decide) (by omega) (by omega) ?_
      refine zs_iload_n dX4_placeOf_40 rfl ?_
      refine zs_icmp_ne (tgt := 69) dX4_placeOf_41 (by decide) (by omega) (by omega) (fun h41 => ?_) (fun h41 => ?_)
      · refine zs_iinc (lv' := [some (.inr 0), some (.inl (slot)), some (.inl (i)), some (.inl (over)), some (.inl (b)), some (.inl (j + 1)), some (.inl (v 9 (j)))]) dX4_placeOf_69 rfl (by decide) rfl ?_
        refine zs_goto (tgt := 6) dX4_placeOf_72 (by decide) ?_
        simp only [x_seg, x_pl] at hr
        rw [if_neg (fun q => h41 q.1)] at hr
        exact ih n' (by omega) (j + 1) (b) _ (by omega) (by omega) (by omega) (by omega) hr
      · refine zs_iload_n dX4_placeOf_44 rfl ?_
        refine zs_if_ne (tgt := 57) dX4_placeOf_45 (by decide) (by omega) (fun h45 => ?_) (fun h45 => ?_)
        · refine zs_iload dX4_placeOf_57 rfl ?_
          refine zs_iload_n dX4_placeOf_59 rfl ?_
          refine zs_icmp_ne (tgt := 66) dX4_placeOf_60 (by decide) (by omega) (by omega) (fun h60 => ?_) (fun h60 => ?_)
          · refine zs_iinc (lv' := [some (.inr 0), some (.inl (slot)), some (.inl (i)), some (.inl (over)), some (.inl (b + 1)), some (.inl (j)), some (.inl (v 9 (j)))]) dX4_placeOf_66 rfl (by decide) rfl ?_
            refine zs_iinc (lv' := [some (.inr 0), some (.inl (slot)), some (.inl (i)), some (.inl (over)), some (.inl (b + 1)), some (.inl (j + 1)), some (.inl (v 9 (j)))]) dX4_placeOf_69 rfl (by decide) rfl ?_
            refine zs_goto (tgt := 6) dX4_placeOf_72 (by decide) ?_
            simp only [x_seg, x_pl] at hr
            rw [if_pos ⟨h41, Or.inl h45⟩, if_neg h60] at hr
            exact ih n' (by omega) (j + 1) (b + 1) _ (by omega) (by omega) (by omega) (by omega) hr
          · refine zs_iload dX4_placeOf_63 rfl ?_
            refine zs_iret dX4_placeOf_65 rfl ?_
            simp only [x_seg, x_pl] at hr
            rw [if_pos ⟨h41, Or.inl h45⟩, if_pos h60] at hr
            exact ⟨hr, rfl⟩
        · refine zs_aload_n dX4_placeOf_48 rfl ?_
          refine zs_iload dX4_placeOf_49 rfl ?_
          refine zs_eV (As := [.inl (v 9 (j))]) (rest := []) (q := 0) dX4_placeOf_51 rfl (Nat.le_of_ble_eq_true rfl) rfl rfl YX4_isShown rfl rfl (Nat.le_of_ble_eq_true rfl) gX4_placeOf_X4_isShown (by decide) ⟨Nat.zero_le _, Nat.zero_le _⟩ rfl (t_X4_isShown (v := v) (v 9 (j)) hS hE) ?_
          refine zs_ifz_eq (tgt := 69) dX4_placeOf_54 (by decide)  (fun h54 => ?_) (fun h54 => ?_)
          · refine zs_iinc (lv' := [some (.inr 0), some (.inl (slot)), some (.inl (i)), some (.inl (over)), some (.inl (b)), some (.inl (j + 1)), some (.inl (v 9 (j)))]) dX4_placeOf_69 rfl (by decide) rfl ?_
            refine zs_goto (tgt := 6) dX4_placeOf_72 (by decide) ?_
            simp only [x_seg, x_pl] at hr
            rw [if_neg (fun q => q.2.elim (fun z => z h45) h54)] at hr
            exact ih n' (by omega) (j + 1) (b) _ (by omega) (by omega) (by omega) (by omega) hr
          · refine zs_iload dX4_placeOf_57 rfl ?_
            refine zs_iload_n dX4_placeOf_59 rfl ?_
            refine zs_icmp_ne (tgt := 66) dX4_placeOf_60 (by decide) (by omega) (by omega) (fun h60 => ?_) (fun h60 => ?_)
            · refine zs_iinc (lv' := [some (.inr 0), some (.inl (slot)), some (.inl (i)), some (.inl (over)), some (.inl (b + 1)), some (.inl (j)), some (.inl (v 9 (j)))]) dX4_placeOf_66 rfl (by decide) rfl ?_
              refine zs_iinc (lv' := [some (.inr 0), some (.inl (slot)), some (.inl (i)), some (.inl (over)), some (.inl (b + 1)), some (.inl (j + 1)), some (.inl (v 9 (j)))]) dX4_placeOf_69 rfl (by decide) rfl ?_
              refine zs_goto (tgt := 6) dX4_placeOf_72 (by decide) ?_
              simp only [x_seg, x_pl] at hr
              rw [if_pos ⟨h41, Or.inr h54⟩, if_neg h60] at hr
              exact ih n' (by omega) (j + 1) (b + 1) _ (by omega) (by omega) (by omega) (by omega) hr
            · refine zs_iload dX4_placeOf_63 rfl ?_
              refine zs_iret dX4_placeOf_65 rfl ?_
              simp only [x_seg, x_pl] at hr
              rw [if_pos ⟨h41, Or.inr h54⟩, if_pos h60] at hr
              exact ⟨hr, rfl⟩
set_option maxHeartbeats 4000000 in
set_option maxRecDepth 100000 in
theorem t_X4_placeOf {v : zs_V} (slot i over : Int) (hS : x_S v) (hT : x_T v) (hsl : zn slot) (hi : zn i) (hov : zn over) : zs_R mX4_placeOf 0 0 shX (zs_X (x_pl v slot i over (x_L v) 0) v) v 0 [some (.inr 0), some (.inl (slot)), some (.inl (i)), some (.inl (over)), none, none, none] [] := by
  refine zs_iconst (x := 0) dX4_placeOf_0 (by decide) ?_
  refine zs_istore (lv' := [some (.inr 0), some (.inl (slot)), some (.inl (i)), some (.inl (over)), some (.inl (0)), none, none]) dX4_placeOf_1 (by decide) rfl ?_
  refine zs_iconst (x := 0) dX4_placeOf_3 (by decide) ?_
  refine zs_istore (lv' := [some (.inr 0), some (.inl (slot)), some (.inl (i)), some (.inl (over)), some (.inl (0)), some (.inl (0)), none]) dX4_placeOf_4 (by decide) rfl ?_
  exact l_X4_placeOf hS hT hsl hi hov (v 16 0).toNat 0 0 _ (by omega) (by have := hT.1; omega) (by omega) (by omega) rfl
set_option maxHeartbeats 4000000 in
set_option maxRecDepth 100000 in
theorem l_X4_howMany {v : zs_V} {s k b r0 : Int} (hS : x_S v) (hT : x_T v) (hs : zn s) (hk : zn k) (hb : zn b) : ∀ (n : Nat) (j c : Int) (x6 : Option zs_A), 0 ≤ j → j + n = v 16 0 → c + x_hm v s k b (x_seg v j n) = r0 → zs_R mX4_howMany 0 0 shX (zs_X r0 v) v 6 [some (.inr 0), some (.inl (s)), some (.inl (k)), some (.inl (b)), some (.inl (c)), some (.inl (j)), x6] [] := by
  have hT1 := hT.2.1
  intro n
  induction n using Nat.strongRecOn with
  | ind n ih =>
    intro j c x6 h0 hn hr
    refine zs_iload dX4_howMany_6 rfl ?_
    refine zs_aload_n dX4_howMany_8 rfl ?_
    refine zs_getr (j := 1) dX4_howMany_9 rfl rfl rfl (by decide) nX4_howMany_X4 fX4_howMany_19 ?_
    refine zs_geti (j := 5) dX4_howMany_12 rfl rfl rfl (by decide) nX4_howMany_X1 fX4_howMany_142 ?_
    refine zs_icmp_ge (tgt := 60) dX4_howMany_15 (by decide) (by omega) (by omega) (fun h15 => ?_) (fun h15 => ?_)
    · refine zs_iload dX4_howMany_60 rfl ?_
      refine zs_iret dX4_howMany_62 rfl ?_
      obtain rfl : n = 0 := by omega
      simp only [x_seg, x_hm] at hr
      exact ⟨by omega, rfl⟩
    · obtain ⟨n', rfl⟩ : ∃ n', n = n' + 1 := ⟨n - 1, by omega⟩
      have hE := hT.2.2 j (by omega) (by omega)
      have hf := x_P_f hS hE.1
      refine zs_aload_n dX4_howMany_18 rfl ?_
      refine zs_getr (j := 1) dX4_howMany_19 rfl rfl rfl (by decide) nX4_howMany_X4 fX4_howMany_19 ?_
      refine zs_getr (j := 4) dX4_howMany_22 rfl rfl rfl (by decide) nX4_howMany_X1 fX4_howMany_145 ?_
      refine zs_iload dX4_howMany_25 rfl ?_
      refine zs_iaload dX4_howMany_27 rfl (by decide) (by omega) (by omega) ?_
      refine zs_istore (lv' := [some (.inr 0), some (.inl (s)), some (.inl (k)), some (.inl (b)), some (.inl (c)), some (.inl (j)), some (.inl (v 9 (j)))]) dX4_howMany_28 (by decide) rfl ?_
      refine zs_aload_n dX4_howMany_30 rfl ?_
      refine zs_iload dX4_howMany_31 rfl ?_
      refine zs_iload_n dX4_howMany_33 rfl ?_
      refine zs_iload_n dX4_howMany_34 rfl ?_
      refine zs_eV (As := [.inl (v 9 (j)), .inl (s), .inl (k)]) (rest := []) (q := 0) dX4_howMany_35 rfl (Nat.le_of_ble_eq_true rfl) rfl rfl YX4_isOfKey rfl rfl (Nat.le_of_ble_eq_true rfl) gX4_howMany_X4_isOfKey (by decide) ⟨Nat.zero_le _, Nat.zero_le _⟩ rfl (t_X4_isOfKey (v := v) (v 9 (j)) (s) (k) (by omega) (by omega) (by omega) (by omega)) ?_
      refine zs_ifz_eq (tgt := 54) dX4_howMany_38 (by decide)  (fun h38 => ?_) (fun h38 => ?_)
      · refine zs_iinc (lv' := [some (.inr 0), some (.inl (s)), some (.inl (k)), some (.inl (b)), some (.inl (c)), some (.inl (j + 1)), some (.inl (v 9 (j)))]) dX4_howMany_54 rfl (by decide) rfl ?_
        refine zs_goto (tgt := 6) dX4_howMany_57 (by decide) ?_
        simp only [x_seg, x_hm] at hr
        rw [if_neg (fun q => h38 q.1)] at hr
        exact ih n' (by omega) (j + 1) (c) _ (by omega) (by omega) (by omega)
      · refine zs_aload_n dX4_howMany_41 rfl ?_
        refine zs_iload dX4_howMany_42 rfl ?_
        refine zs_eV (As := [.inl (v 9 (j))]) (rest := []) (q := 0) dX4_howMany_44 rfl (Nat.le_of_ble_eq_true rfl) rfl rfl YX4_isShown rfl rfl (Nat.le_of_ble_eq_true rfl) gX4_howMany_X4_isShown (by decide) ⟨Nat.zero_le _, Nat.zero_le _⟩ rfl (t_X4_isShown (v := v) (v 9 (j)) hS hE) ?_
        refine zs_iload_n dX4_howMany_47 rfl ?_
        refine zs_icmp_ne (tgt := 54) dX4_howMany_48 (by decide) (zb_zn _) (by omega) (fun h48 => ?_) (fun h48 => ?_)
        · refine zs_iinc (lv' := [some (.inr 0), some (.inl (s)), some (.inl (k)), some (.inl (b)), some (.inl (c)), some (.inl (j + 1)), some (.inl (v 9 (j)))]) dX4_howMany_54 rfl (by decide) rfl ?_
          refine zs_goto (tgt := 6) dX4_howMany_57 (by decide) ?_
          simp only [x_seg, x_hm] at hr
          rw [if_neg (fun q => h48 q.2)] at hr
          exact ih n' (by omega) (j + 1) (c) _ (by omega) (by omega) (by omega)
        · refine zs_iinc (lv' := [some (.inr 0), some (.inl (s)), some (.inl (k)), some (.inl (b)), some (.inl (c + 1)), some (.inl (j)), some (.inl (v 9 (j)))]) dX4_howMany_51 rfl (by decide) rfl ?_
          refine zs_iinc (lv' := [some (.inr 0), some (.inl (s)), some (.inl (k)), some (.inl (b)), some (.inl (c + 1)), some (.inl (j + 1)), some (.inl (v 9 (j)))]) dX4_howMany_54 rfl (by decide) rfl ?_
          refine zs_goto (tgt := 6) dX4_howMany_57 (by decide) ?_
          simp only [x_seg, x_hm] at hr
          rw [if_pos ⟨h38, h48⟩] at hr
          exact ih n' (by omega) (j + 1) (c + 1) _ (by omega) (by omega) (by omega)
set_option maxHeartbeats 4000000 in
set_option maxRecDepth 100000 in
theorem t_X4_howMany {v : zs_V} (s k b : Int) (hS : x_S v) (hT : x_T v) (hs : zn s) (hk : zn k) (hb : zn b) : zs_R mX4_howMany 0 0 shX (zs_X (x_hm v s k b (x_L v)) v) v 0 [some (.inr 0), some (.inl (s)), some (.inl (k)), some (.inl (b)), none, none, none] [] := by
  refine zs_iconst (x := 0) dX4_howMany_0 (by decide) ?_
  refine zs_istore (lv' := [some (.inr 0), some (.inl (s)), some (.inl (k)), some (.inl (b)), some (.inl (0)), none, none]) dX4_howMany_1 (by decide) rfl ?_
  refine zs_iconst (x := 0) dX4_howMany_3 (by decide) ?_
  refine zs_istore (lv' := [some (.inr 0), some (.inl (s)), some (.inl (k)), some (.inl (b)), some (.inl (0)), some (.inl (0)), none]) dX4_howMany_4 (by decide) rfl ?_
  exact l_X4_howMany hS hT hs hk hb (v 16 0).toNat 0 0 _ (by omega) (by have := hT.1; omega) (by unfold x_L; omega)
set_option maxHeartbeats 4000000 in
set_option maxRecDepth 100000 in
theorem l_X4_howManyShown {v : zs_V} {r0 : Int} (hS : x_S v) (hT : x_T v) : ∀ (n : Nat) (j c : Int), 0 ≤ j → j + n = v 16 0 → c + x_hs v (x_seg v j n) = r0 → zs_R mX4_howManyShown 0 0 shX (zs_X r0 v) v 4 [some (.inr 0), some (.inl (c)), some (.inl (j))] [] := by
  have hT1 := hT.2.1
  intro n
  induction n using Nat.strongRecOn with
  | ind n ih =>
    intro j c h0 hn hr
    refine zs_iload_n dX4_howManyShown_4 rfl ?_
    refine zs_aload_n dX4_howManyShown_5 rfl ?_
    refine zs_getr (j := 1) dX4_howManyShown_6 rfl rfl rfl (by decide) nX4_howManyShown_X4 fX4_howManyShown_19 ?_
    refine zs_geti (j := 5) dX4_howManyShown_9 rfl rfl rfl (by decide) nX4_howManyShown_X1 fX4_howManyShown_142 ?_
    refine zs_icmp_ge (tgt := 40) dX4_howManyShown_12 (by decide) (by omega) (by omega) (fun h12 => ?_) (fun h12 => ?_)
    · refine zs_iload_n dX4_howManyShown_40 rfl ?_
      refine zs_iret dX4_howManyShown_41 rfl ?_
      obtain rfl : n = 0 := by omega
      simp only [x_seg, x_hs] at hr
      exact ⟨by omega, rfl⟩
    · obtain ⟨n', rfl⟩ : ∃ n', n = n' + 1 := ⟨n - 1, by omega⟩
      have hE := hT.2.2 j (by omega) (by omega)
      have hf := x_P_f hS hE.1
      refine zs_aload_n dX4_howManyShown_15 rfl ?_
      refine zs_aload_n dX4_howManyShown_16 rfl ?_
      refine zs_getr (j := 1) dX4_howManyShown_17 rfl rfl rfl (by decide) nX4_howManyShown_X4 fX4_howManyShown_19 ?_
      refine zs_getr (j := 4) dX4_howManyShown_20 rfl rfl rfl (by decide) nX4_howManyShown_X1 fX4_howManyShown_145 ?_
      refine zs_iload_n dX4_howManyShown_23 rfl ?_
      refine zs_iaload dX4_howManyShown_24 rfl (by decide) (by omega) (by omega) ?_
      refine zs_eV (As := [.inl (v 9 (j))]) (rest := []) (q := 0) dX4_howManyShown_25 rfl (Nat.le_of_ble_eq_true rfl) rfl rfl YX4_isShown rfl rfl (Nat.le_of_ble_eq_true rfl) gX4_howManyShown_X4_isShown (by decide) ⟨Nat.zero_le _, Nat.zero_le _⟩ rfl (t_X4_isShown (v := v) (v 9 (j)) hS hE) ?_
      refine zs_ifz_eq (tgt := 34) dX4_howManyShown_28 (by decide)  (fun h28 => ?_) (fun h28 => ?_)
      · refine zs_iinc (lv' := [some (.inr 0), some (.inl (c)), some (.inl (j + 1))]) dX4_howManyShown_34 rfl (by decide) rfl ?_
        refine zs_goto (tgt := 4) dX4_howManyShown_37 (by decide) ?_
        simp only [x_seg, x_hs] at hr
        rw [if_neg h28] at hr
        exact ih n' (by omega) (j + 1) (c) (by omega) (by omega) (by omega)
      · refine zs_iinc (lv' := [some (.inr 0), some (.inl (c + 1)), some (.inl (j))]) dX4_howManyShown_31 rfl (by decide) rfl ?_
        refine zs_iinc (lv' := [some (.inr 0), some (.inl (c + 1)), some (.inl (j + 1))]) dX4_howManyShown_34 rfl (by decide) rfl ?_
        refine zs_goto (tgt := 4) dX4_howManyShown_37 (by decide) ?_
        simp only [x_seg, x_hs] at hr
        rw [if_pos h28] at hr
        exact ih n' (by omega) (j + 1) (c + 1) (by omega) (by omega) (by omega)
set_option maxHeartbeats 4000000 in
set_option maxRecDepth 100000 in
theorem t_X4_howManyShown {v : zs_V} (hS : x_S v) (hT : x_T v) : zs_R mX4_howManyShown 0 0 shX (zs_X (x_hs v (x_L v)) v) v 0 [some (.inr 0), none, none] [] := by
  refine zs_iconst (x := 0) dX4_howManyShown_0 (by decide) ?_
  refine zs_istore_n (lv' := [some (.inr 0), some (.inl (0)), none]) dX4_howManyShown_1 (by decide) rfl ?_
  refine zs_iconst (x := 0) dX4_howManyShown_2 (by decide) ?_
  refine zs_istore_n (lv' := [some (.inr 0), some (.inl (0)), some (.inl (0))]) dX4_howManyShown_3 (by decide) rfl ?_
  exact l_X4_howManyShown hS hT (v 16 0).toNat 0 0 (by omega) (by have := hT.1; omega) (by unfold x_L; omega)
set_option maxHeartbeats 4000000 in
set_option maxRecDepth 100000 in
theorem t_X4_stamp {v : zs_V} (p l : Int) (hS : x_S v) (hP : x_P v p) : zs_R mX4_stamp 0 0 shX (zs_X 0 (x_stamp v p l)) v 0 [some (.inr 0), some (.inl (p)), some (.inl (l)), none] [] := by
  have hf := x_P_f hS hP
  refine zs_aload_n dX4_stamp_0 rfl ?_
  refine zs_getr (j := 0) dX4_stamp_1 rfl rfl rfl (by decide) nX4_stamp_X4 fX4_stamp_12 ?_
  refine zs_aload_n dX4_stamp_4 rfl ?_
  refine zs_getr (j := 1) dX4_stamp_5 rfl rfl rfl (by decide) nX4_stamp_X4 fX4_stamp_19 ?_
  refine zs_iload_n dX4_stamp_8 rfl ?_
  refine zs_eV (As := [.inl (p)]) (rest := [.inr 1]) (q := 7) dX4_stamp_9 rfl (Nat.le_of_ble_eq_true rfl) rfl rfl YX1_stateAt rfl rfl (Nat.le_of_ble_eq_true rfl) gX4_stamp_X1_stateAt (by decide) ⟨Nat.zero_le _, Nat.zero_le _⟩ rfl (t_X1_stateAt (v := v) (p) (by omega) (by omega)) ?_
  refine zs_eV (As := [.inl (v 5 (p) / 1000)]) (rest := []) (q := 1) dX4_stamp_12 rfl (Nat.le_of_ble_eq_true rfl) rfl rfl YX3_timeOf rfl rfl (Nat.le_of_ble_eq_true rfl) gX4_stamp_X3_timeOf (by decide) ⟨Nat.zero_le _, Nat.zero_le _⟩ rfl (t_X3_timeOf (v := v) (v 5 (p) / 1000) (by omega) (by omega)) ?_
  refine zs_istore_n (lv' := [some (.inr 0), some (.inl (p)), some (.inl (l)), some (.inl (v 4 (v 1 (v 5 (p) / 1000))))]) dX4_stamp_15 (by decide) rfl ?_
  refine zs_aload_n dX4_stamp_16 rfl ?_
  refine zs_getr (j := 1) dX4_stamp_17 rfl rfl rfl (by decide) nX4_stamp_X4 fX4_stamp_19 ?_
  refine zs_getr (j := 2) dX4_stamp_20 rfl rfl rfl (by decide) nX4_stamp_X1 fX4_stamp_212 ?_
  refine zs_iload_n dX4_stamp_23 rfl ?_
  refine zs_iload_n dX4_stamp_24 rfl ?_
  refine zs_iastore dX4_stamp_25 rfl (by decide) (by decide) (by omega) (by omega) ?_
  refine zs_aload_n dX4_stamp_26 rfl ?_
  refine zs_getr (j := 1) dX4_stamp_27 rfl rfl rfl (by decide) nX4_stamp_X4 fX4_stamp_19 ?_
  refine zs_getr (j := 3) dX4_stamp_30 rfl rfl rfl (by decide) nX4_stamp_X1 fX4_stamp_187 ?_
  refine zs_iload_n dX4_stamp_33 rfl ?_
  refine zs_iload_n dX4_stamp_34 rfl ?_
  refine zs_iload_n dX4_stamp_35 rfl ?_
  refine zs_iadd dX4_stamp_36 ?_
  refine zs_iastore dX4_stamp_37 rfl (by decide) (by decide) (by omega) (by omega) ?_
  refine zs_vret dX4_stamp_38 rfl ?_
  exact ⟨rfl, rfl⟩
set_option maxHeartbeats 4000000 in
set_option maxRecDepth 100000 in
theorem t_X4_write {v : zs_V} (p x : Int) (hS0 : x_S v) (hP0 : x_P v p) : zs_R mX4_write 0 0 shX (zs_X 0 (x_write v p x)) v 0 [some (.inr 0), some (.inl (p)), some (.inl (x))] [] := by
  have hf := x_P_f hS0 hP0
  refine zs_aload_n dX4_write_0 rfl ?_
  refine zs_getr (j := 1) dX4_write_1 rfl rfl rfl (by decide) nX4_write_X4 fX4_write_19 ?_
  refine zs_getr (j := 1) dX4_write_4 rfl rfl rfl (by decide) nX4_write_X1 fX4_write_151 ?_
  refine zs_iload_n dX4_write_7 rfl ?_
  refine zs_iload_n dX4_write_8 rfl ?_
  refine zs_iastore dX4_write_9 rfl (by decide) (by decide) (by omega) (by omega) ?_
  have hS : x_S (zs_put v 6 (p) (x)) := x_S_of rfl rfl rfl rfl rfl rfl hS0
  have hP : x_P (zs_put v 6 (p) (x)) p := x_P_of rfl rfl hP0
  have hf1 := x_P_f hS hP
  refine zs_aload_n dX4_write_10 rfl ?_
  refine zs_iload_n dX4_write_11 rfl ?_
  refine zs_aload_n dX4_write_12 rfl ?_
  refine zs_getr (j := 0) dX4_write_13 rfl rfl rfl (by decide) nX4_write_X4 fX4_write_12 ?_
  refine zs_getr (j := 2) dX4_write_16 rfl rfl rfl (by decide) nX4_write_X3 fX4_write_130 ?_
  refine zs_aload_n dX4_write_19 rfl ?_
  refine zs_getr (j := 1) dX4_write_20 rfl rfl rfl (by decide) nX4_write_X4 fX4_write_19 ?_
  refine zs_iload_n dX4_write_23 rfl ?_
  refine zs_eV (As := [.inl (p)]) (rest := [.inr 4, .inl (p), .inr 0]) (q := 7) dX4_write_24 rfl (Nat.le_of_ble_eq_true rfl) rfl rfl YX1_stateAt rfl rfl (Nat.le_of_ble_eq_true rfl) gX4_write_X1_stateAt (by decide) ⟨Nat.zero_le _, Nat.zero_le _⟩ rfl (t_X1_stateAt (v := (zs_put v 6 (p) (x))) (p) (by omega) (by omega)) ?_
  refine zs_iaload dX4_write_27 rfl (by decide) (by omega) (by omega) ?_
  refine zs_eVv (As := [.inl (p), .inl ((zs_put v 6 (p) (x)) 2 ((zs_put v 6 (p) (x)) 5 (p) / 1000))]) (rest := []) (q := 0) dX4_write_28 rfl (Nat.le_of_ble_eq_true rfl) rfl rfl YX4_stamp rfl rfl (Nat.le_of_ble_eq_true rfl) gX4_write_X4_stamp (by decide) ⟨Nat.zero_le _, Nat.zero_le _⟩ rfl (t_X4_stamp (v := (zs_put v 6 (p) (x))) (p) ((zs_put v 6 (p) (x)) 2 ((zs_put v 6 (p) (x)) 5 (p) / 1000)) hS hP) ?_
  refine zs_vret dX4_write_31 rfl ?_
  exact ⟨rfl, rfl⟩

def x_read (v : zs_V) (p : Int) : zs_V := if p = -1 then v else if v 3 (v 5 p / 1000) = 1 then x_stamp v p (v 2 (v 5 p / 1000)) else v
set_option maxHeartbeats 4000000 in
set_option maxRecDepth 100000 in
theorem t_X4_read {v : zs_V} (p : Int) (hS : x_S v) (h : p = -1 ∨ x_P v p) : zs_R mX4_read 0 0 shX (zs_X (if p = -1 then -99999999 else v 6 p) (x_read v p)) v 0 [some (.inr 0), some (.inl (p)), none] [] := by
  have hpz : zn p := by rcases h with h | h; omega; have := h.1; have := h.2.1; omega
  refine zs_iload_n dX4_read_0 rfl ?_
  refine zs_iconst (x := -1) dX4_read_1 (by decide) ?_
  refine zs_icmp_ne (tgt := 8) dX4_read_2 (by decide) (by omega) (by omega) (fun h2 => ?_) (fun h2 => ?_)
  · have hP : x_P v p := h.resolve_left h2
    have hf := x_P_f hS hP
    refine zs_aload_n dX4_read_8 rfl ?_
    refine zs_getr (j := 1) dX4_read_9 rfl rfl rfl (by decide) nX4_read_X4 fX4_read_19 ?_
    refine zs_iload_n dX4_read_12 rfl ?_
    refine zs_eV (As := [.inl (p)]) (rest := []) (q := 7) dX4_read_13 rfl (Nat.le_of_ble_eq_true rfl) rfl rfl YX1_stateAt rfl rfl (Nat.le_of_ble_eq_true rfl) gX4_read_X1_stateAt (by decide) ⟨Nat.zero_le _, Nat.zero_le _⟩ rfl (t_X1_stateAt (v := v) (p) (by omega) (by omega)) ?_
    refine zs_istore_n (lv' := [some (.inr 0), some (.inl (p)), some (.inl (v 5 (p) / 1000))]) dX4_read_16 (by decide) rfl ?_
    refine zs_aload_n dX4_read_17 rfl ?_
    refine zs_getr (j := 0) dX4_read_18 rfl rfl rfl (by decide) nX4_read_X4 fX4_read_12 ?_
    refine zs_iload_n dX4_read_21 rfl ?_
    refine zs_eV (As := [.inl (v 5 (p) / 1000)]) (rest := []) (q := 1) dX4_read_22 rfl (Nat.le_of_ble_eq_true rfl) rfl rfl YX3_isStampedByReads rfl rfl (Nat.le_of_ble_eq_true rfl) gX4_read_X3_isStampedByReads (by decide) ⟨Nat.zero_le _, Nat.zero_le _⟩ rfl (t_X3_isStampedByReads (v := v) (v 5 (p) / 1000) (by omega) (by omega)) ?_
    refine zs_ifz_eq (tgt := 42) dX4_read_25 (by decide)  (fun h25 => ?_) (fun h25 => ?_)
    · refine zs_aload_n dX4_read_42 rfl ?_
      refine zs_getr (j := 1) dX4_read_43 rfl rfl rfl (by decide) nX4_read_X4 fX4_read_19 ?_
      refine zs_getr (j := 1) dX4_read_46 rfl rfl rfl (by decide) nX4_read_X1 fX4_read_151 ?_
      refine zs_iload_n dX4_read_49 rfl ?_
      refine zs_iaload dX4_read_50 rfl (by decide) (by omega) (by omega) ?_
      refine zs_iret dX4_read_51 rfl ?_
      exact ⟨by rw [if_neg h2], by unfold x_read; rw [if_neg h2, if_neg h25]⟩
    · refine zs_aload_n dX4_read_28 rfl ?_
      refine zs_iload_n dX4_read_29 rfl ?_
      refine zs_aload_n dX4_read_30 rfl ?_
      refine zs_getr (j := 0) dX4_read_31 rfl rfl rfl (by decide) nX4_read_X4 fX4_read_12 ?_
      refine zs_getr (j := 2) dX4_read_34 rfl rfl rfl (by decide) nX4_read_X3 fX4_read_130 ?_
      refine zs_iload_n dX4_read_37 rfl ?_
      refine zs_iaload dX4_read_38 rfl (by decide) (by omega) (by omega) ?_
      refine zs_eVv (As := [.inl (p), .inl (v 2 (v 5 (p) / 1000))]) (rest := []) (q := 0) dX4_read_39 rfl (Nat.le_of_ble_eq_true rfl) rfl rfl YX4_stamp rfl rfl (Nat.le_of_ble_eq_true rfl) gX4_read_X4_stamp (by decide) ⟨Nat.zero_le _, Nat.zero_le _⟩ rfl (t_X4_stamp (v := v) (p) (v 2 (v 5 (p) / 1000)) hS hP) ?_
      refine zs_aload_n dX4_read_42 rfl ?_
      refine zs_getr (j := 1) dX4_read_43 rfl rfl rfl (by decide) nX4_read_X4 fX4_read_19 ?_
      refine zs_getr (j := 1) dX4_read_46 rfl rfl rfl (by decide) nX4_read_X1 fX4_read_151 ?_
      refine zs_iload_n dX4_read_49 rfl ?_
      refine zs_iaload dX4_read_50 rfl (by decide) (by omega) (by omega) ?_
      refine zs_iret dX4_read_51 rfl ?_
      exact ⟨by rw [if_neg h2]; rfl, by unfold x_read; rw [if_neg h2, if_pos h25]⟩
  · refine zs_ldc (x := -99999999) dX4_read_5 kX4_read_114 (by decide) ?_
    refine zs_iret dX4_read_7 rfl ?_
    exact ⟨by rw [if_pos h2], by unfold x_read; rw [if_pos h2]⟩

theorem x_rb_r (v : zs_V) {r : Nat} (h1 : r ≠ 17) (h2 : r ≠ 18) (h3 : r ≠ 19) : x_rb v r = v r := by
  unfold x_rb
  rw [zs_put_r _ _ _ _ h3]
  split
  · exact zs_put_r _ _ _ _ h1
  · exact zs_put_r _ _ _ _ h2
theorem x_rb_k {v : zs_V} (h : 0 ≤ v 17 0 ∧ v 17 0 < 150) (hk : 0 ≤ v 18 0 ∧ v 18 0 ≤ 150) : 1 ≤ (x_rb v) 18 0 ∧ (x_rb v) 18 0 ≤ 150 ∧ 0 ≤ (x_rb v) 17 0 ∧ (x_rb v) 17 0 < 150 := by
  unfold x_rb
  rw [zs_put_r _ _ _ _ (by decide : 18 ≠ 19), zs_put_r _ _ _ _ (by decide : 17 ≠ 19)]
  split
  · rw [zs_put_r _ _ _ _ (by decide : 18 ≠ 17), zs_put_s]
    omega
  · rw [zs_put_s, zs_put_r _ _ _ _ (by decide : 17 ≠ 18)]
    omega
theorem x_rb_i {v : zs_V} (h : 0 ≤ v 17 0 ∧ v 17 0 < 150) (hk : 0 ≤ v 18 0 ∧ v 18 0 ≤ 150) : 0 ≤ x_ri (x_rb v) ((x_rb v) 18 0 - 1) ∧ x_ri (x_rb v) ((x_rb v) 18 0 - 1) ≤ 894 := by
  have := x_rb_k h hk
  unfold x_ri
  omega
set_option maxHeartbeats 4000000 in
set_option maxRecDepth 100000 in
theorem t_X4_tell {v : zs_V} (p : Int) (hS : x_S v) (hP : x_P v p) (h : 0 ≤ v 17 0 ∧ v 17 0 < 150) (hk : 0 ≤ v 18 0 ∧ v 18 0 ≤ 150) : zs_R mX4_tell 0 0 shX (zs_X 0 (x_tell v p)) v 0 [some (.inr 0), some (.inl (p)), none] [] := by
  have hf := x_P_f hS hP
  refine zs_aload_n dX4_tell_0 rfl ?_
  refine zs_getr (j := 2) dX4_tell_1 rfl rfl rfl (by decide) nX4_tell_X4 fX4_tell_26 ?_
  refine zs_eV (As := []) (rest := []) (q := 13) dX4_tell_4 rfl (Nat.le_of_ble_eq_true rfl) rfl rfl YX2_begin rfl rfl (Nat.le_of_ble_eq_true rfl) gX4_tell_X2_begin (by decide) ⟨Nat.zero_le _, Nat.zero_le _⟩ rfl (t_X2_begin (v := v) (by omega) (by omega)) ?_
  refine zs_istore_n (lv' := [some (.inr 0), some (.inl (p)), some (.inl (x_ri (x_rb v) ((x_rb v) 18 0 - 1)))]) dX4_tell_7 (by decide) rfl ?_
  have hi := x_rb_i h hk
  have hq : 0 ≤ (x_rb v) 5 p ∧ (x_rb v) 5 p < 6000 := by rw [x_rb_r v (by decide) (by decide) (by decide)]; omega
  refine zs_aload_n dX4_tell_8 rfl ?_
  refine zs_getr (j := 2) dX4_tell_9 rfl rfl rfl (by decide) nX4_tell_X4 fX4_tell_26 ?_
  refine zs_getr (j := 0) dX4_tell_12 rfl rfl rfl (by decide) nX4_tell_X2 fX4_tell_220 ?_
  refine zs_iload_n dX4_tell_15 rfl ?_
  refine zs_aload_n dX4_tell_16 rfl ?_
  refine zs_getr (j := 1) dX4_tell_17 rfl rfl rfl (by decide) nX4_tell_X4 fX4_tell_19 ?_
  refine zs_iload_n dX4_tell_20 rfl ?_
  refine zs_eV (As := [.inl (p)]) (rest := [.inl (x_ri (x_rb v) ((x_rb v) 18 0 - 1)), .inr 14]) (q := 7) dX4_tell_21 rfl (Nat.le_of_ble_eq_true rfl) rfl rfl YX1_stateAt rfl rfl (Nat.le_of_ble_eq_true rfl) gX4_tell_X1_stateAt (by decide) ⟨Nat.zero_le _, Nat.zero_le _⟩ rfl (t_X1_stateAt (v := (x_rb v)) (p) (by omega) (by omega)) ?_
  refine zs_iastore dX4_tell_24 rfl (by decide) (by decide) (by omega) (by omega) ?_
  refine zs_aload_n dX4_tell_25 rfl ?_
  refine zs_getr (j := 2) dX4_tell_26 rfl rfl rfl (by decide) nX4_tell_X4 fX4_tell_26 ?_
  refine zs_getr (j := 0) dX4_tell_29 rfl rfl rfl (by decide) nX4_tell_X2 fX4_tell_220 ?_
  refine zs_iload_n dX4_tell_32 rfl ?_
  refine zs_iconst (x := 1) dX4_tell_33 (by decide) ?_
  refine zs_iadd dX4_tell_34 ?_
  refine zs_aload_n dX4_tell_35 rfl ?_
  refine zs_getr (j := 1) dX4_tell_36 rfl rfl rfl (by decide) nX4_tell_X4 fX4_tell_19 ?_
  refine zs_iload_n dX4_tell_39 rfl ?_
  have hq40 : 0 ≤ (zs_put (x_rb v) 10 (x_ri (x_rb v) ((x_rb v) 18 0 - 1)) ((x_rb v) 5 (p) / 1000)) 5 p ∧ (zs_put (x_rb v) 10 (x_ri (x_rb v) ((x_rb v) 18 0 - 1)) ((x_rb v) 5 (p) / 1000)) 5 p < 6000 := hq
  refine zs_eV (As := [.inl (p)]) (rest := [.inl ((x_ri (x_rb v) ((x_rb v) 18 0 - 1)) + (1)), .inr 14]) (q := 7) dX4_tell_40 rfl (Nat.le_of_ble_eq_true rfl) rfl rfl YX1_keyAt rfl rfl (Nat.le_of_ble_eq_true rfl) gX4_tell_X1_keyAt (by decide) ⟨Nat.zero_le _, Nat.zero_le _⟩ rfl (t_X1_keyAt (v := (zs_put (x_rb v) 10 (x_ri (x_rb v) ((x_rb v) 18 0 - 1)) ((x_rb v) 5 (p) / 1000))) (p) (by omega) (by omega)) ?_
  refine zs_iastore dX4_tell_43 rfl (by decide) (by decide) (by omega) (by omega) ?_
  refine zs_aload_n dX4_tell_44 rfl ?_
  refine zs_getr (j := 2) dX4_tell_45 rfl rfl rfl (by decide) nX4_tell_X4 fX4_tell_26 ?_
  refine zs_getr (j := 0) dX4_tell_48 rfl rfl rfl (by decide) nX4_tell_X2 fX4_tell_220 ?_
  refine zs_iload_n dX4_tell_51 rfl ?_
  refine zs_iconst (x := 2) dX4_tell_52 (by decide) ?_
  refine zs_iadd dX4_tell_53 ?_
  refine zs_aload_n dX4_tell_54 rfl ?_
  refine zs_getr (j := 1) dX4_tell_55 rfl rfl rfl (by decide) nX4_tell_X4 fX4_tell_19 ?_
  refine zs_iload_n dX4_tell_58 rfl ?_
  have hq59 : 0 ≤ (zs_put (zs_put (x_rb v) 10 (x_ri (x_rb v) ((x_rb v) 18 0 - 1)) ((x_rb v) 5 (p) / 1000)) 10 ((x_ri (x_rb v) ((x_rb v) 18 0 - 1)) + (1)) ((zs_put (x_rb v) 10 (x_ri (x_rb v) ((x_rb v) 18 0 - 1)) ((x_rb v) 5 (p) / 1000)) 5 (p) / 10 % 100)) 5 p ∧ (zs_put (zs_put (x_rb v) 10 (x_ri (x_rb v) ((x_rb v) 18 0 - 1)) ((x_rb v) 5 (p) / 1000)) 10 ((x_ri (x_rb v) ((x_rb v) 18 0 - 1)) + (1)) ((zs_put (x_rb v) 10 (x_ri (x_rb v) ((x_rb v) 18 0 - 1)) ((x_rb v) 5 (p) / 1000)) 5 (p) / 10 % 100)) 5 p < 6000 := hq
  refine zs_eV (As := [.inl (p)]) (rest := [.inl ((x_ri (x_rb v) ((x_rb v) 18 0 - 1)) + (2)), .inr 14]) (q := 7) dX4_tell_59 rfl (Nat.le_of_ble_eq_true rfl) rfl rfl YX1_memberAt rfl rfl (Nat.le_of_ble_eq_true rfl) gX4_tell_X1_memberAt (by decide) ⟨Nat.zero_le _, Nat.zero_le _⟩ rfl (t_X1_memberAt (v := (zs_put (zs_put (x_rb v) 10 (x_ri (x_rb v) ((x_rb v) 18 0 - 1)) ((x_rb v) 5 (p) / 1000)) 10 ((x_ri (x_rb v) ((x_rb v) 18 0 - 1)) + (1)) ((zs_put (x_rb v) 10 (x_ri (x_rb v) ((x_rb v) 18 0 - 1)) ((x_rb v) 5 (p) / 1000)) 5 (p) / 10 % 100))) (p) (by omega) (by omega)) ?_
  refine zs_iastore dX4_tell_62 rfl (by decide) (by decide) (by omega) (by omega) ?_
  refine zs_aload_n dX4_tell_63 rfl ?_
  refine zs_getr (j := 2) dX4_tell_64 rfl rfl rfl (by decide) nX4_tell_X4 fX4_tell_26 ?_
  refine zs_getr (j := 0) dX4_tell_67 rfl rfl rfl (by decide) nX4_tell_X2 fX4_tell_220 ?_
  refine zs_iload_n dX4_tell_70 rfl ?_
  refine zs_iconst (x := 3) dX4_tell_71 (by decide) ?_
  refine zs_iadd dX4_tell_72 ?_
  refine zs_aload_n dX4_tell_73 rfl ?_
  refine zs_getr (j := 1) dX4_tell_74 rfl rfl rfl (by decide) nX4_tell_X4 fX4_tell_19 ?_
  refine zs_getr (j := 1) dX4_tell_77 rfl rfl rfl (by decide) nX4_tell_X1 fX4_tell_151 ?_
  refine zs_iload_n dX4_tell_80 rfl ?_
  refine zs_iaload dX4_tell_81 rfl (by decide) (by omega) (by omega) ?_
  refine zs_iastore dX4_tell_82 rfl (by decide) (by decide) (by omega) (by omega) ?_
  refine zs_aload_n dX4_tell_83 rfl ?_
  refine zs_getr (j := 2) dX4_tell_84 rfl rfl rfl (by decide) nX4_tell_X4 fX4_tell_26 ?_
  refine zs_getr (j := 0) dX4_tell_87 rfl rfl rfl (by decide) nX4_tell_X2 fX4_tell_220 ?_
  refine zs_iload_n dX4_tell_90 rfl ?_
  refine zs_iconst (x := 4) dX4_tell_91 (by decide) ?_
  refine zs_iadd dX4_tell_92 ?_
  refine zs_aload_n dX4_tell_93 rfl ?_
  refine zs_getr (j := 1) dX4_tell_94 rfl rfl rfl (by decide) nX4_tell_X4 fX4_tell_19 ?_
  refine zs_getr (j := 3) dX4_tell_97 rfl rfl rfl (by decide) nX4_tell_X1 fX4_tell_187 ?_
  refine zs_iload_n dX4_tell_100 rfl ?_
  refine zs_iaload dX4_tell_101 rfl (by decide) (by omega) (by omega) ?_
  refine zs_iastore dX4_tell_102 rfl (by decide) (by decide) (by omega) (by omega) ?_
  refine zs_aload_n dX4_tell_103 rfl ?_
  refine zs_getr (j := 2) dX4_tell_104 rfl rfl rfl (by decide) nX4_tell_X4 fX4_tell_26 ?_
  refine zs_getr (j := 0) dX4_tell_107 rfl rfl rfl (by decide) nX4_tell_X2 fX4_tell_220 ?_
  refine zs_iload_n dX4_tell_110 rfl ?_
  refine zs_iconst (x := 5) dX4_tell_111 (by decide) ?_
  refine zs_iadd dX4_tell_112 ?_
  refine zs_aload_n dX4_tell_113 rfl ?_
  refine zs_getr (j := 0) dX4_tell_114 rfl rfl rfl (by decide) nX4_tell_X4 fX4_tell_12 ?_
  refine zs_getr (j := 4) dX4_tell_117 rfl rfl rfl (by decide) nX4_tell_X3 fX4_tell_119 ?_
  refine zs_iconst (x := 0) dX4_tell_120 (by decide) ?_
  refine zs_iaload dX4_tell_121 rfl (by decide) (by omega) (by omega) ?_
  refine zs_iastore dX4_tell_122 rfl (by decide) (by decide) (by omega) (by omega) ?_
  refine zs_vret dX4_tell_123 rfl ?_
  exact ⟨rfl, rfl⟩
set_option maxHeartbeats 4000000 in
set_option maxRecDepth 100000 in
theorem t_X4_moveClock {v : zs_V} (c t : Int) (hS : x_S v) (hT : x_T v) (hc : c = 0 ∨ c = 1) (ht : 0 ≤ t ∧ t ≤ 1000000000) : zs_R mX4_moveClock 0 0 shX (zs_X (x_hs v (x_L v) - x_hs (zs_put v 4 c t) (x_L v)) (zs_put v 4 c t)) v 0 [some (.inr 0), some (.inl (c)), some (.inl (t)), none] [] := by
  refine zs_aload_n dX4_moveClock_0 rfl ?_
  refine zs_eV (As := []) (rest := []) (q := 0) dX4_moveClock_1 rfl (Nat.le_of_ble_eq_true rfl) rfl rfl YX4_howManyShown rfl rfl (Nat.le_of_ble_eq_true rfl) gX4_moveClock_X4_howManyShown (by decide) ⟨Nat.zero_le _, Nat.zero_le _⟩ rfl (t_X4_howManyShown (v := v) hS hT) ?_
  refine zs_istore_n (lv' := [some (.inr 0), some (.inl (c)), some (.inl (t)), some (.inl (x_hs v (x_L v)))]) dX4_moveClock_4 (by decide) rfl ?_
  refine zs_aload_n dX4_moveClock_5 rfl ?_
  refine zs_getr (j := 0) dX4_moveClock_6 rfl rfl rfl (by decide) nX4_moveClock_X4 fX4_moveClock_12 ?_
  refine zs_getr (j := 4) dX4_moveClock_9 rfl rfl rfl (by decide) nX4_moveClock_X3 fX4_moveClock_119 ?_
  refine zs_iload_n dX4_moveClock_12 rfl ?_
  refine zs_iload_n dX4_moveClock_13 rfl ?_
  refine zs_iastore dX4_moveClock_14 rfl (by decide) (by decide) (by omega) (by omega) ?_
  have hS0 := hS
  have hT0 := hT
  have hS : x_S (zs_put v 4 c t) := by
    obtain ⟨g1, g2, g3, g4, g5, g6, g7⟩ := hS
    refine ⟨g1, g2, g3, ?_⟩
    rw [zs_put_e, zs_put_e]
    rcases hc with rfl | rfl <;> simp <;> omega
  have hT : x_T (zs_put v 4 c t) := x_T_of rfl rfl rfl rfl rfl hT0
  refine zs_iload_n dX4_moveClock_15 rfl ?_
  refine zs_aload_n dX4_moveClock_16 rfl ?_
  refine zs_eV (As := []) (rest := [.inl (x_hs v (x_L v))]) (q := 0) dX4_moveClock_17 rfl (Nat.le_of_ble_eq_true rfl) rfl rfl YX4_howManyShown rfl rfl (Nat.le_of_ble_eq_true rfl) gX4_moveClock_X4_howManyShown (by decide) ⟨Nat.zero_le _, Nat.zero_le _⟩ rfl (t_X4_howManyShown (v := (zs_put v 4 (c) (t))) hS hT) ?_
  refine zs_isub dX4_moveClock_20 ?_
  refine zs_iret dX4_moveClock_21 rfl ?_
  exact ⟨by rw [x_L_of (u := zs_put v 4 c t) (v := v) rfl rfl], rfl⟩

def x_U (v : zs_V) : Prop := ∀ j : Int, 0 ≤ j → j < v 16 0 → 0 ≤ v 7 (v 9 j) ∧ v 7 (v 9 j) ≤ 1000000000
theorem x_sa_T {u : zs_V} {j x : Int} (hT : x_T u) (hx : 0 ≤ x ∧ x ≤ 1000100000) : x_T (zs_put u 8 (u 9 j) x) := by
  refine ⟨hT.1, hT.2.1, fun i h0 h1 => ?_⟩
  have := hT.2.2 i h0 h1
  refine ⟨x_P_of rfl rfl this.1, ?_⟩
  rw [zs_put_e]
  split
  · exact hx
  · exact this.2
set_option maxHeartbeats 4000000 in
set_option maxRecDepth 100000 in
theorem l_X4_spanShownAnew {s : Int} : ∀ (n : Nat) (u : zs_V) (hS : x_S u) (hT : x_T u) (hU : x_U u) (j : Int) (x3 : Option zs_A), 0 ≤ j → j + n = u 16 0 → 0 ≤ s ∧ s < u 15 0 → zs_R mX4_spanShownAnew 0 0 shX (zs_X 0 (x_sa s (x_seg u j n) u)) u 2 [some (.inr 0), some (.inl (s)), some (.inl (j)), x3] [] := by
  intro n
  induction n using Nat.strongRecOn with
  | ind n ih =>
    intro u hS hT hU j x3 h0 hn hs
    have hT1 := hT.2.1
    refine zs_iload_n dX4_spanShownAnew_2 rfl ?_
    refine zs_aload_n dX4_spanShownAnew_3 rfl ?_
    refine zs_getr (j := 1) dX4_spanShownAnew_4 rfl rfl rfl (by decide) nX4_spanShownAnew_X4 fX4_spanShownAnew_19 ?_
    refine zs_geti (j := 5) dX4_spanShownAnew_7 rfl rfl rfl (by decide) nX4_spanShownAnew_X1 fX4_spanShownAnew_142 ?_
    refine zs_icmp_ge (tgt := 77) dX4_spanShownAnew_10 (by decide) (by omega) (by omega) (fun h10 => ?_) (fun h10 => ?_)
    · refine zs_vret dX4_spanShownAnew_77 rfl ?_
      obtain rfl : n = 0 := by omega
      exact ⟨rfl, rfl⟩
    · obtain ⟨n', rfl⟩ : ∃ n', n = n' + 1 := ⟨n - 1, by omega⟩
      have hE := hT.2.2 j (by omega) (by omega)
      have hf := x_P_f hS hE.1
      have hn' : j + 1 + n' = u 16 0 := by omega
      have hu := hU j (by omega) (by omega)
      have hs1 := x_S_at hS (s := s) (by omega) (by omega)
      refine zs_aload_n dX4_spanShownAnew_13 rfl ?_
      refine zs_getr (j := 1) dX4_spanShownAnew_14 rfl rfl rfl (by decide) nX4_spanShownAnew_X4 fX4_spanShownAnew_19 ?_
      refine zs_getr (j := 4) dX4_spanShownAnew_17 rfl rfl rfl (by decide) nX4_spanShownAnew_X1 fX4_spanShownAnew_145 ?_
      refine zs_iload_n dX4_spanShownAnew_20 rfl ?_
      refine zs_iaload dX4_spanShownAnew_21 rfl (by decide) (by omega) (by omega) ?_
      refine zs_istore_n (lv' := [some (.inr 0), some (.inl (s)), some (.inl (j)), some (.inl (u 9 (j)))]) dX4_spanShownAnew_22 (by decide) rfl ?_
      refine zs_aload_n dX4_spanShownAnew_23 rfl ?_
      refine zs_getr (j := 1) dX4_spanShownAnew_24 rfl rfl rfl (by decide) nX4_spanShownAnew_X4 fX4_spanShownAnew_19 ?_
      refine zs_iload_n dX4_spanShownAnew_27 rfl ?_
      refine zs_eV (As := [.inl (u 9 (j))]) (rest := []) (q := 7) dX4_spanShownAnew_28 rfl (Nat.le_of_ble_eq_true rfl) rfl rfl YX1_stateAt rfl rfl (Nat.le_of_ble_eq_true rfl) gX4_spanShownAnew_X1_stateAt (by decide) ⟨Nat.zero_le _, Nat.zero_le _⟩ rfl (t_X1_stateAt (v := u) (u 9 (j)) (by omega) (by omega)) ?_
      refine zs_iload_n dX4_spanShownAnew_31 rfl ?_
      refine zs_icmp_ne (tgt := 71) dX4_spanShownAnew_32 (by decide) (by omega) (by omega) (fun h32 => ?_) (fun h32 => ?_)
      · refine zs_iinc (lv' := [some (.inr 0), some (.inl (s)), some (.inl (j + 1)), some (.inl (u 9 (j)))]) dX4_spanShownAnew_71 rfl (by decide) rfl ?_
        refine zs_goto (tgt := 2) dX4_spanShownAnew_74 (by decide) ?_
        simp only [x_seg, x_sa]
        rw [if_neg (fun q => h32 q.1)]
        exact ih n' (by omega) u hS hT hU (j + 1) _ (by omega) hn' hs
      · refine zs_aload_n dX4_spanShownAnew_35 rfl ?_
        refine zs_iload_n dX4_spanShownAnew_36 rfl ?_
        refine zs_eV (As := [.inl (u 9 (j))]) (rest := []) (q := 0) dX4_spanShownAnew_37 rfl (Nat.le_of_ble_eq_true rfl) rfl rfl YX4_isShown rfl rfl (Nat.le_of_ble_eq_true rfl) gX4_spanShownAnew_X4_isShown (by decide) ⟨Nat.zero_le _, Nat.zero_le _⟩ rfl (t_X4_isShown (v := u) (u 9 (j)) hS hE) ?_
        refine zs_ifz_eq (tgt := 71) dX4_spanShownAnew_40 (by decide)  (fun h40 => ?_) (fun h40 => ?_)
        · refine zs_iinc (lv' := [some (.inr 0), some (.inl (s)), some (.inl (j + 1)), some (.inl (u 9 (j)))]) dX4_spanShownAnew_71 rfl (by decide) rfl ?_
          refine zs_goto (tgt := 2) dX4_spanShownAnew_74 (by decide) ?_
          simp only [x_seg, x_sa]
          rw [if_neg (fun q => h40 q.2)]
          exact ih n' (by omega) u hS hT hU (j + 1) _ (by omega) hn' hs
        · refine zs_aload_n dX4_spanShownAnew_43 rfl ?_
          refine zs_getr (j := 1) dX4_spanShownAnew_44 rfl rfl rfl (by decide) nX4_spanShownAnew_X4 fX4_spanShownAnew_19 ?_
          refine zs_getr (j := 3) dX4_spanShownAnew_47 rfl rfl rfl (by decide) nX4_spanShownAnew_X1 fX4_spanShownAnew_187 ?_
          refine zs_iload_n dX4_spanShownAnew_50 rfl ?_
          refine zs_aload_n dX4_spanShownAnew_51 rfl ?_
          refine zs_getr (j := 1) dX4_spanShownAnew_52 rfl rfl rfl (by decide) nX4_spanShownAnew_X4 fX4_spanShownAnew_19 ?_
          refine zs_getr (j := 2) dX4_spanShownAnew_55 rfl rfl rfl (by decide) nX4_spanShownAnew_X1 fX4_spanShownAnew_212 ?_
          refine zs_iload_n dX4_spanShownAnew_58 rfl ?_
          refine zs_iaload dX4_spanShownAnew_59 rfl (by decide) (by omega) (by omega) ?_
          refine zs_aload_n dX4_spanShownAnew_60 rfl ?_
          refine zs_getr (j := 0) dX4_spanShownAnew_61 rfl rfl rfl (by decide) nX4_spanShownAnew_X4 fX4_spanShownAnew_12 ?_
          refine zs_getr (j := 2) dX4_spanShownAnew_64 rfl rfl rfl (by decide) nX4_spanShownAnew_X3 fX4_spanShownAnew_130 ?_
          refine zs_iload_n dX4_spanShownAnew_67 rfl ?_
          refine zs_iaload dX4_spanShownAnew_68 rfl (by decide) (by omega) (by omega) ?_
          refine zs_iadd dX4_spanShownAnew_69 ?_
          refine zs_iastore dX4_spanShownAnew_70 rfl (by decide) (by decide) (by omega) (by omega) ?_
          refine zs_iinc (lv' := [some (.inr 0), some (.inl (s)), some (.inl (j + 1)), some (.inl (u 9 (j)))]) dX4_spanShownAnew_71 rfl (by decide) rfl ?_
          refine zs_goto (tgt := 2) dX4_spanShownAnew_74 (by decide) ?_
          simp only [x_seg, x_sa]
          rw [if_pos ⟨h32, h40⟩]
          rw [← x_seg_9 (show (zs_put u 8 (u 9 j) (u 7 (u 9 j) + u 2 s)) 9 = u 9 from rfl) (j + 1) n']
          exact ih n' (by omega) (zs_put u 8 (u 9 j) (u 7 (u 9 j) + u 2 s)) (x_S_of rfl rfl rfl rfl rfl rfl hS) (x_sa_T hT (by omega)) hU (j + 1) _ (by omega) hn' hs
set_option maxHeartbeats 4000000 in
set_option maxRecDepth 100000 in
theorem t_X4_spanShownAnew {v : zs_V} (s : Int) (hS : x_S v) (hT : x_T v) (hU : x_U v) (hs : 0 ≤ s ∧ s < v 15 0) : zs_R mX4_spanShownAnew 0 0 shX (zs_X 0 (x_sa s (x_L v) v)) v 0 [some (.inr 0), some (.inl (s)), none, none] [] := by
  refine zs_iconst (x := 0) dX4_spanShownAnew_0 (by decide) ?_
  refine zs_istore_n (lv' := [some (.inr 0), some (.inl (s)), some (.inl (0)), none]) dX4_spanShownAnew_1 (by decide) rfl ?_
  exact l_X4_spanShownAnew (v 16 0).toNat v hS hT hU 0 _ (by omega) (by have := hT.1; omega) hs
end
section

theorem x_L_E {v : zs_V} (hT : x_T v) {p : Int} (h : p ∈ x_L v) : x_E v p := by
  obtain ⟨j, h1, h2, rfl⟩ := x_seg_mem h
  have := hT.1
  exact hT.2.2 j h1 (by omega)
theorem x_L_line {v : zs_V} {j : Int} (h0 : 0 ≤ j) (h1 : j < v 16 0) : v 9 j ∈ x_L v := x_seg_in v 0 _ j h0 (by omega)
theorem x_T_z {v : zs_V} (hT : x_T v) : ∀ j : Int, 0 ≤ j → j < v 16 0 → zn (v 9 j) := fun j h0 h1 => by
  have := (hT.2.2 j h0 h1).1
  have a := this.1
  have b := this.2.1
  omega
theorem x_pl_m (v : zs_V) (sl i ov : Int) (L : List Int) : ∀ b, x_pl v sl i ov L b = -1 ∨ x_pl v sl i ov L b ∈ L := by
  induction L with
  | nil => intro b; exact Or.inl rfl
  | cons p ps ih =>
    intro b
    simp only [x_pl]
    split
    · split
      · exact Or.inr List.mem_cons_self
      · exact (ih _).imp id (List.mem_cons_of_mem _)
    · exact (ih _).imp id (List.mem_cons_of_mem _)
theorem x_pl_c {v : zs_V} (hT : x_T v) (sl i ov : Int) : (x_pl v sl i ov (x_L v) 0 = -1 ∨ x_E v (x_pl v sl i ov (x_L v) 0)) ∧ -1 ≤ x_pl v sl i ov (x_L v) 0 ∧ x_pl v sl i ov (x_L v) 0 < 200 := by
  rcases x_pl_m v sl i ov (x_L v) 0 with h | h
  · rw [h]; exact ⟨Or.inl rfl, by omega, by omega⟩
  · have hE := x_L_E hT h
    have a := hE.1.1
    have b := hE.1.2.1
    exact ⟨Or.inr hE, by omega, b⟩
theorem x_lf_c (v : zs_V) (n : Nat) : ∀ p : Int, 0 ≤ p → x_lf v n p = -1 ∨ (p ≤ x_lf v n p ∧ x_lf v n p < p + n ∧ v 5 (x_lf v n p) = -1) := by
  induction n with
  | zero => intro p _; exact Or.inl rfl
  | succ n ih =>
    intro p hp
    simp only [x_lf]
    split
    · next h => exact Or.inr ⟨by omega, by omega, h⟩
    · rcases ih (p + 1) (by omega) with h | h
      · exact Or.inl h
      · exact Or.inr ⟨by omega, by omega, h.2.2⟩

noncomputable def x_stR (v : zs_V) (f c s w : Int) : Int := if (f = 0 ∨ f = 1) ∧ (c = 0 ∨ c = 1) ∧ (w = 0 ∨ w = 1) ∧ 1 ≤ s ∧ s ≤ 100000 then (if v 15 0 < 6 then v 15 0 else -3) else -1
noncomputable def x_stS (v : zs_V) (f c s w : Int) : zs_V := if (f = 0 ∨ f = 1) ∧ (c = 0 ∨ c = 1) ∧ (w = 0 ∨ w = 1) ∧ 1 ≤ s ∧ s ≤ 100000 then (if v 15 0 < 6 then zs_put (zs_put (zs_put (zs_put (zs_put v 0 (v 15 0) f) 1 (v 15 0) c) 2 (v 15 0) s) 3 (v 15 0) w) 15 0 (v 15 0 + 1) else v) else v
set_option maxHeartbeats 4000000 in
set_option maxRecDepth 100000 in
theorem t_X4_state {v : zs_V} (f c s w : Int) (hf : zn f) (hc : zn c) (hs : zn s) (hw : zn w) (hm : 0 ≤ v 15 0 ∧ v 15 0 ≤ 6) : zs_R mX4_state 0 0 shX (zs_X (x_stR v f c s w) (x_stS v f c s w)) v 0 [some (.inr 0), some (.inl (f)), some (.inl (c)), some (.inl (s)), some (.inl (w))] [] := by
  refine zs_iload_n dX4_state_0 rfl ?_
  refine zs_eS (As := [.inl (f)]) (rest := []) dX4_state_1 rfl (Nat.le_of_ble_eq_true rfl) YX4_isZeroOrOne rfl (Nat.le_of_ble_eq_true rfl) gX4_state_X4_isZeroOrOne (by decide) ⟨Nat.zero_le _, Nat.zero_le _⟩ rfl (t_X4_isZeroOrOne (v := v) (f) (by omega)) ?_
  refine zs_ifz_eq (tgt := 29) dX4_state_4 (by decide)  (fun h4 => ?_) (fun h4 => ?_)
  · refine zs_iconst (x := -1) dX4_state_29 (by decide) ?_
    refine zs_iret dX4_state_30 rfl ?_
    have hn : ¬ ((f = 0 ∨ f = 1) ∧ (c = 0 ∨ c = 1) ∧ (w = 0 ∨ w = 1) ∧ 1 ≤ s ∧ s ≤ 100000) := by omega
    exact ⟨by unfold x_stR; rw [if_neg hn], by unfold x_stS; rw [if_neg hn]⟩
  · refine zs_iload_n dX4_state_7 rfl ?_
    refine zs_eS (As := [.inl (c)]) (rest := []) dX4_state_8 rfl (Nat.le_of_ble_eq_true rfl) YX4_isZeroOrOne rfl (Nat.le_of_ble_eq_true rfl) gX4_state_X4_isZeroOrOne (by decide) ⟨Nat.zero_le _, Nat.zero_le _⟩ rfl (t_X4_isZeroOrOne (v := v) (c) (by omega)) ?_
    refine zs_ifz_eq (tgt := 29) dX4_state_11 (by decide)  (fun h11 => ?_) (fun h11 => ?_)
    · refine zs_iconst (x := -1) dX4_state_29 (by decide) ?_
      refine zs_iret dX4_state_30 rfl ?_
      have hn : ¬ ((f = 0 ∨ f = 1) ∧ (c = 0 ∨ c = 1) ∧ (w = 0 ∨ w = 1) ∧ 1 ≤ s ∧ s ≤ 100000) := by omega
      exact ⟨by unfold x_stR; rw [if_neg hn], by unfold x_stS; rw [if_neg hn]⟩
    · refine zs_iload dX4_state_14 rfl ?_
      refine zs_eS (As := [.inl (w)]) (rest := []) dX4_state_16 rfl (Nat.le_of_ble_eq_true rfl) YX4_isZeroOrOne rfl (Nat.le_of_ble_eq_true rfl) gX4_state_X4_isZeroOrOne (by decide) ⟨Nat.zero_le _, Nat.zero_le _⟩ rfl (t_X4_isZeroOrOne (v := v) (w) (by omega)) ?_
      refine zs_ifz_eq (tgt := 29) dX4_state_19 (by decide)  (fun h19 => ?_) (fun h19 => ?_)
      · refine zs_iconst (x := -1) dX4_state_29 (by decide) ?_
        refine zs_iret dX4_state_30 rfl ?_
        have hn : ¬ ((f = 0 ∨ f = 1) ∧ (c = 0 ∨ c = 1) ∧ (w = 0 ∨ w = 1) ∧ 1 ≤ s ∧ s ≤ 100000) := by omega
        exact ⟨by unfold x_stR; rw [if_neg hn], by unfold x_stS; rw [if_neg hn]⟩
      · refine zs_iload_n dX4_state_22 rfl ?_
        refine zs_eS (As := [.inl (s)]) (rest := []) dX4_state_23 rfl (Nat.le_of_ble_eq_true rfl) YX4_isSpan rfl (Nat.le_of_ble_eq_true rfl) gX4_state_X4_isSpan (by decide) ⟨Nat.zero_le _, Nat.zero_le _⟩ rfl (t_X4_isSpan (v := v) (s) (by omega)) ?_
        refine zs_ifz_ne (tgt := 31) dX4_state_26 (by decide)  (fun h26 => ?_) (fun h26 => ?_)
        · refine zs_aload_n dX4_state_31 rfl ?_
          refine zs_getr (j := 0) dX4_state_32 rfl rfl rfl (by decide) nX4_state_X4 fX4_state_12 ?_
          refine zs_geti (j := 5) dX4_state_35 rfl rfl rfl (by decide) nX4_state_X3 fX4_state_48 ?_
          refine zs_bipush (x := 6) dX4_state_38 (by decide) ?_
          refine zs_icmp_lt (tgt := 46) dX4_state_40 (by decide) (by omega) (by omega) (fun h40 => ?_) (fun h40 => ?_)
          · refine zs_aload_n dX4_state_46 rfl ?_
            refine zs_getr (j := 0) dX4_state_47 rfl rfl rfl (by decide) nX4_state_X4 fX4_state_12 ?_
            refine zs_iload_n dX4_state_50 rfl ?_
            refine zs_iload_n dX4_state_51 rfl ?_
            refine zs_iload_n dX4_state_52 rfl ?_
            refine zs_iload dX4_state_53 rfl ?_
            refine zs_eV (As := [.inl (f), .inl (c), .inl (s), .inl (w)]) (rest := []) (q := 1) dX4_state_55 rfl (Nat.le_of_ble_eq_true rfl) rfl rfl YX3_make rfl rfl (Nat.le_of_ble_eq_true rfl) gX4_state_X3_make (by decide) ⟨Nat.zero_le _, Nat.zero_le _⟩ rfl (t_X3_make (f) (c) (s) (w) (by omega)) ?_
            refine zs_iret dX4_state_58 rfl ?_
            have hn : ((f = 0 ∨ f = 1) ∧ (c = 0 ∨ c = 1) ∧ (w = 0 ∨ w = 1) ∧ 1 ≤ s ∧ s ≤ 100000) := by omega
            exact ⟨by unfold x_stR; rw [if_pos hn, if_pos h40], by unfold x_stS; rw [if_pos hn, if_pos h40]⟩
          · refine zs_bipush (x := -3) dX4_state_43 (by decide) ?_
            refine zs_iret dX4_state_45 rfl ?_
            have hn : ((f = 0 ∨ f = 1) ∧ (c = 0 ∨ c = 1) ∧ (w = 0 ∨ w = 1) ∧ 1 ≤ s ∧ s ≤ 100000) := by omega
            exact ⟨by unfold x_stR; rw [if_pos hn, if_neg h40], by unfold x_stS; rw [if_pos hn, if_neg h40]⟩
        · refine zs_iconst (x := -1) dX4_state_29 (by decide) ?_
          refine zs_iret dX4_state_30 rfl ?_
          have hn : ¬ ((f = 0 ∨ f = 1) ∧ (c = 0 ∨ c = 1) ∧ (w = 0 ∨ w = 1) ∧ 1 ≤ s ∧ s ≤ 100000) := by omega
          exact ⟨by unfold x_stR; rw [if_neg hn], by unfold x_stS; rw [if_neg hn]⟩

noncomputable def x_getR (v : zs_V) (s k m : Int) : Int := if (((0 ≤ s ∧ s < v 15 0) ∧ 0 ≤ k ∧ k < 100) ∧ ¬ v 0 s = 1 ∧ 0 ≤ m ∧ m < 10) then (if x_pl v (s * 1000 + k * 10 + m) 0 0 (x_L v) 0 = -1 then -99999999 else v 6 (x_pl v (s * 1000 + k * 10 + m) 0 0 (x_L v) 0)) else -1
noncomputable def x_getS (v : zs_V) (s k m : Int) : zs_V := if (((0 ≤ s ∧ s < v 15 0) ∧ 0 ≤ k ∧ k < 100) ∧ ¬ v 0 s = 1 ∧ 0 ≤ m ∧ m < 10) then x_read v (x_pl v (s * 1000 + k * 10 + m) 0 0 (x_L v) 0) else v
noncomputable def x_atR (v : zs_V) (s k i : Int) : Int := if (((0 ≤ s ∧ s < v 15 0) ∧ 0 ≤ k ∧ k < 100) ∧ v 0 s = 1) then (if x_pl v (s * 1000 + k * 10 + 0) i 0 (x_L v) 0 = -1 then -99999999 else v 6 (x_pl v (s * 1000 + k * 10 + 0) i 0 (x_L v) 0)) else -1
noncomputable def x_atS (v : zs_V) (s k i : Int) : zs_V := if (((0 ≤ s ∧ s < v 15 0) ∧ 0 ≤ k ∧ k < 100) ∧ v 0 s = 1) then x_read v (x_pl v (s * 1000 + k * 10 + 0) i 0 (x_L v) 0) else v
set_option maxHeartbeats 4000000 in
set_option maxRecDepth 100000 in
theorem t_X4_get {v : zs_V} (hS : x_S v) (hT : x_T v) (s k m : Int) (hs : zn s) (hk : zn k) (hm : zn m) : zs_R mX4_get 0 0 shX (zs_X (x_getR v s k m) (x_getS v s k m)) v 0 [some (.inr 0), some (.inl (s)), some (.inl (k)), some (.inl (m))] [] := by
  have hm2 := hS.2.1
  refine zs_aload_n dX4_get_0 rfl ?_
  refine zs_iload_n dX4_get_1 rfl ?_
  refine zs_iload_n dX4_get_2 rfl ?_
  refine zs_iload_n dX4_get_3 rfl ?_
  refine zs_eV (As := [.inl (s), .inl (k), .inl (m)]) (rest := []) (q := 0) dX4_get_4 rfl (Nat.le_of_ble_eq_true rfl) rfl rfl YX4_isNumberFor rfl rfl (Nat.le_of_ble_eq_true rfl) gX4_get_X4_isNumberFor (by decide) ⟨Nat.zero_le _, Nat.zero_le _⟩ rfl (t_X4_isNumberFor (v := v) hS (s) (k) (m) (by omega) (by omega) (by omega)) ?_
  refine zs_ifz_ne (tgt := 12) dX4_get_7 (by decide)  (fun h7 => ?_) (fun h7 => ?_)
  · refine zs_aload_n dX4_get_12 rfl ?_
    refine zs_aload_n dX4_get_13 rfl ?_
    refine zs_iload_n dX4_get_14 rfl ?_
    refine zs_iload_n dX4_get_15 rfl ?_
    refine zs_iload_n dX4_get_16 rfl ?_
    refine zs_eS (As := [.inl (s), .inl (k), .inl (m)]) (rest := [.inr 0, .inr 0]) dX4_get_17 rfl (Nat.le_of_ble_eq_true rfl) YX4_slotOf rfl (Nat.le_of_ble_eq_true rfl) gX4_get_X4_slotOf (by decide) ⟨Nat.zero_le _, Nat.zero_le _⟩ rfl (t_X4_slotOf (v := v) (s) (k) (m)) ?_
    refine zs_iconst (x := 0) dX4_get_20 (by decide) ?_
    refine zs_iconst (x := 0) dX4_get_21 (by decide) ?_
    refine zs_eV (As := [.inl ((s) * 1000 + (k) * 10 + (m)), .inl (0), .inl (0)]) (rest := [.inr 0]) (q := 0) dX4_get_22 rfl (Nat.le_of_ble_eq_true rfl) rfl rfl YX4_placeOf rfl rfl (Nat.le_of_ble_eq_true rfl) gX4_get_X4_placeOf (by decide) ⟨Nat.zero_le _, Nat.zero_le _⟩ rfl (t_X4_placeOf (v := v) ((s) * 1000 + (k) * 10 + (m)) (0) (0) hS hT (by omega) (by omega) (by omega)) ?_
    have hR := (x_pl_c hT (s * 1000 + k * 10 + m) 0 0).1.imp id (fun h => h.1)
    refine zs_eV (As := [.inl (x_pl v ((s) * 1000 + (k) * 10 + (m)) (0) (0) (x_L v) 0)]) (rest := []) (q := 0) dX4_get_25 rfl (Nat.le_of_ble_eq_true rfl) rfl rfl YX4_read rfl rfl (Nat.le_of_ble_eq_true rfl) gX4_get_X4_read (by decide) ⟨Nat.zero_le _, Nat.zero_le _⟩ rfl (t_X4_read (v := v) (x_pl v ((s) * 1000 + (k) * 10 + (m)) (0) (0) (x_L v) 0) hS hR) ?_
    refine zs_iret dX4_get_28 rfl ?_
    exact ⟨by unfold x_getR; rw [if_pos h7], by unfold x_getS; rw [if_pos h7]⟩
  · refine zs_iconst (x := -1) dX4_get_10 (by decide) ?_
    refine zs_iret dX4_get_11 rfl ?_
    exact ⟨by unfold x_getR; rw [if_neg h7], by unfold x_getS; rw [if_neg h7]⟩
set_option maxHeartbeats 4000000 in
set_option maxRecDepth 100000 in
theorem t_X4_at {v : zs_V} (hS : x_S v) (hT : x_T v) (s k i : Int) (hs : zn s) (hk : zn k) (hi : zn i) : zs_R mX4_at 0 0 shX (zs_X (x_atR v s k i) (x_atS v s k i)) v 0 [some (.inr 0), some (.inl (s)), some (.inl (k)), some (.inl (i))] [] := by
  have hm2 := hS.2.1
  refine zs_aload_n dX4_at_0 rfl ?_
  refine zs_iload_n dX4_at_1 rfl ?_
  refine zs_iload_n dX4_at_2 rfl ?_
  refine zs_eV (As := [.inl (s), .inl (k)]) (rest := []) (q := 0) dX4_at_3 rfl (Nat.le_of_ble_eq_true rfl) rfl rfl YX4_isListFor rfl rfl (Nat.le_of_ble_eq_true rfl) gX4_at_X4_isListFor (by decide) ⟨Nat.zero_le _, Nat.zero_le _⟩ rfl (t_X4_isListFor (v := v) hS (s) (k) (by omega) (by omega)) ?_
  refine zs_ifz_ne (tgt := 11) dX4_at_6 (by decide)  (fun h6 => ?_) (fun h6 => ?_)
  · refine zs_aload_n dX4_at_11 rfl ?_
    refine zs_aload_n dX4_at_12 rfl ?_
    refine zs_iload_n dX4_at_13 rfl ?_
    refine zs_iload_n dX4_at_14 rfl ?_
    refine zs_iconst (x := 0) dX4_at_15 (by decide) ?_
    refine zs_eS (As := [.inl (s), .inl (k), .inl (0)]) (rest := [.inr 0, .inr 0]) dX4_at_16 rfl (Nat.le_of_ble_eq_true rfl) YX4_slotOf rfl (Nat.le_of_ble_eq_true rfl) gX4_at_X4_slotOf (by decide) ⟨Nat.zero_le _, Nat.zero_le _⟩ rfl (t_X4_slotOf (v := v) (s) (k) (0)) ?_
    refine zs_iload_n dX4_at_19 rfl ?_
    refine zs_iconst (x := 0) dX4_at_20 (by decide) ?_
    refine zs_eV (As := [.inl ((s) * 1000 + (k) * 10 + (0)), .inl (i), .inl (0)]) (rest := [.inr 0]) (q := 0) dX4_at_21 rfl (Nat.le_of_ble_eq_true rfl) rfl rfl YX4_placeOf rfl rfl (Nat.le_of_ble_eq_true rfl) gX4_at_X4_placeOf (by decide) ⟨Nat.zero_le _, Nat.zero_le _⟩ rfl (t_X4_placeOf (v := v) ((s) * 1000 + (k) * 10 + (0)) (i) (0) hS hT (by omega) (by omega) (by omega)) ?_
    have hR := (x_pl_c hT (s * 1000 + k * 10 + 0) i 0).1.imp id (fun h => h.1)
    refine zs_eV (As := [.inl (x_pl v ((s) * 1000 + (k) * 10 + (0)) (i) (0) (x_L v) 0)]) (rest := []) (q := 0) dX4_at_24 rfl (Nat.le_of_ble_eq_true rfl) rfl rfl YX4_read rfl rfl (Nat.le_of_ble_eq_true rfl) gX4_at_X4_read (by decide) ⟨Nat.zero_le _, Nat.zero_le _⟩ rfl (t_X4_read (v := v) (x_pl v ((s) * 1000 + (k) * 10 + (0)) (i) (0) (x_L v) 0) hS hR) ?_
    refine zs_iret dX4_at_27 rfl ?_
    exact ⟨by unfold x_atR; rw [if_pos h6], by unfold x_atS; rw [if_pos h6]⟩
  · refine zs_iconst (x := -1) dX4_at_9 (by decide) ?_
    refine zs_iret dX4_at_10 rfl ?_
    exact ⟨by unfold x_atR; rw [if_neg h6], by unfold x_atS; rw [if_neg h6]⟩

noncomputable def x_heldR (v : zs_V) (s k o : Int) : Int := if ((0 ≤ s ∧ s < v 15 0) ∧ 0 ≤ k ∧ k < 100) then x_hm v s k (if o = 0 then 1 else 0) (x_L v) else -1
set_option maxHeartbeats 4000000 in
set_option maxRecDepth 100000 in
theorem t_X4_held {v : zs_V} (hS : x_S v) (hT : x_T v) (s k o : Int) (hs : zn s) (hk : zn k) (ho : zn o) : zs_R mX4_held 0 0 shX (zs_X (x_heldR v s k o) v) v 0 [some (.inr 0), some (.inl (s)), some (.inl (k)), some (.inl (o))] [] := by
  have hm1 := hS.1
  have hm2 := hS.2.1
  refine zs_aload_n dX4_held_0 rfl ?_
  refine zs_iload_n dX4_held_1 rfl ?_
  refine zs_iload_n dX4_held_2 rfl ?_
  refine zs_eV (As := [.inl (s), .inl (k)]) (rest := []) (q := 0) dX4_held_3 rfl (Nat.le_of_ble_eq_true rfl) rfl rfl YX4_isStateAndKey rfl rfl (Nat.le_of_ble_eq_true rfl) gX4_held_X4_isStateAndKey (by decide) ⟨Nat.zero_le _, Nat.zero_le _⟩ rfl (t_X4_isStateAndKey (v := v) (s) (k) (by omega) (by omega) (by omega)) ?_
  refine zs_ifz_ne (tgt := 11) dX4_held_6 (by decide)  (fun h6 => ?_) (fun h6 => ?_)
  · refine zs_aload_n dX4_held_11 rfl ?_
    refine zs_iload_n dX4_held_12 rfl ?_
    refine zs_iload_n dX4_held_13 rfl ?_
    refine zs_iload_n dX4_held_14 rfl ?_
    refine zs_if_ne (tgt := 22) dX4_held_15 (by decide) (by omega) (fun h15 => ?_) (fun h15 => ?_)
    · refine zs_iconst (x := 0) dX4_held_22 (by decide) ?_
      refine zs_eV (As := [.inl (s), .inl (k), .inl (0)]) (rest := []) (q := 0) dX4_held_23 rfl (Nat.le_of_ble_eq_true rfl) rfl rfl YX4_howMany rfl rfl (Nat.le_of_ble_eq_true rfl) gX4_held_X4_howMany (by decide) ⟨Nat.zero_le _, Nat.zero_le _⟩ rfl (t_X4_howMany (v := v) (s) (k) (0) hS hT (by omega) (by omega) (by omega)) ?_
      refine zs_iret dX4_held_26 rfl ?_
      exact ⟨by unfold x_heldR; rw [if_pos h6, if_neg h15], rfl⟩
    · refine zs_iconst (x := 1) dX4_held_18 (by decide) ?_
      refine zs_goto (tgt := 23) dX4_held_19 (by decide) ?_
      refine zs_eV (As := [.inl (s), .inl (k), .inl (1)]) (rest := []) (q := 0) dX4_held_23 rfl (Nat.le_of_ble_eq_true rfl) rfl rfl YX4_howMany rfl rfl (Nat.le_of_ble_eq_true rfl) gX4_held_X4_howMany (by decide) ⟨Nat.zero_le _, Nat.zero_le _⟩ rfl (t_X4_howMany (v := v) (s) (k) (1) hS hT (by omega) (by omega) (by omega)) ?_
      refine zs_iret dX4_held_26 rfl ?_
      exact ⟨by unfold x_heldR; rw [if_pos h6, if_pos h15], rfl⟩
  · refine zs_iconst (x := -1) dX4_held_9 (by decide) ?_
    refine zs_iret dX4_held_10 rfl ?_
    exact ⟨by unfold x_heldR; rw [if_neg h6], rfl⟩

noncomputable def x_ask (v : zs_V) (s k m o : Int) : Int := x_pl v (s * 1000 + k * 10 + (if v 0 s = 1 then 0 else m)) (if v 0 s = 1 then m else 0) o (x_L v) 0
noncomputable def x_leftR (v : zs_V) (s k m : Int) : Int := if (((0 ≤ s ∧ s < v 15 0) ∧ 0 ≤ k ∧ k < 100) ∧ 0 ≤ m ∧ (v 0 s = 1 ∨ m < 10)) then (if x_ask v s k m 0 = -1 then -99999999 else x_left v (x_ask v s k m 0)) else -1
noncomputable def x_placeR (v : zs_V) (s k m : Int) : Int := if (((0 ≤ s ∧ s < v 15 0) ∧ 0 ≤ k ∧ k < 100) ∧ 0 ≤ m ∧ (v 0 s = 1 ∨ m < 10)) then (if x_ask v s k m 1 = -1 then -99999999 else x_ask v s k m 1) else -1
theorem x_ask_z {v : zs_V} {s k m : Int} (hS : x_S v) (h : (((0 ≤ s ∧ s < v 15 0) ∧ 0 ≤ k ∧ k < 100) ∧ 0 ≤ m ∧ (v 0 s = 1 ∨ m < 10))) (hm : zn m) : zn (s * 1000 + k * 10 + (if v 0 s = 1 then 0 else m)) ∧ zn (if v 0 s = 1 then m else 0) := by
  have hm2 := hS.2.1
  split
  · omega
  · omega
set_option maxHeartbeats 4000000 in
set_option maxRecDepth 100000 in
theorem t_X4_left {v : zs_V} (hS : x_S v) (hT : x_T v) (s k m : Int) (hs : zn s) (hk : zn k) (hm : zn m) : zs_R mX4_left 0 0 shX (zs_X (x_leftR v s k m) v) v 0 [some (.inr 0), some (.inl (s)), some (.inl (k)), some (.inl (m)), none] [] := by
  refine zs_aload_n dX4_left_0 rfl ?_
  refine zs_iload_n dX4_left_1 rfl ?_
  refine zs_iload_n dX4_left_2 rfl ?_
  refine zs_iload_n dX4_left_3 rfl ?_
  refine zs_eV (As := [.inl (s), .inl (k), .inl (m)]) (rest := []) (q := 0) dX4_left_4 rfl (Nat.le_of_ble_eq_true rfl) rfl rfl YX4_isMemberOrIndexFor rfl rfl (Nat.le_of_ble_eq_true rfl) gX4_left_X4_isMemberOrIndexFor (by decide) ⟨Nat.zero_le _, Nat.zero_le _⟩ rfl (t_X4_isMemberOrIndexFor (v := v) hS (s) (k) (m) (by omega) (by omega) (by omega)) ?_
  refine zs_ifz_ne (tgt := 12) dX4_left_7 (by decide)  (fun h7 => ?_) (fun h7 => ?_)
  · have haz := x_ask_z hS h7 hm
    have hm2 := hS.2.1
    refine zs_aload_n dX4_left_12 rfl ?_
    refine zs_aload_n dX4_left_13 rfl ?_
    refine zs_iload_n dX4_left_14 rfl ?_
    refine zs_iload_n dX4_left_15 rfl ?_
    refine zs_iload_n dX4_left_16 rfl ?_
    refine zs_eV (As := [.inl (s), .inl (k), .inl (m)]) (rest := [.inr 0]) (q := 0) dX4_left_17 rfl (Nat.le_of_ble_eq_true rfl) rfl rfl YX4_slotFor rfl rfl (Nat.le_of_ble_eq_true rfl) gX4_left_X4_slotFor (by decide) ⟨Nat.zero_le _, Nat.zero_le _⟩ rfl (t_X4_slotFor (v := v) hS (s) (k) (m) (by omega)) ?_
    refine zs_aload_n dX4_left_20 rfl ?_
    refine zs_iload_n dX4_left_21 rfl ?_
    refine zs_iload_n dX4_left_22 rfl ?_
    refine zs_eV (As := [.inl (s), .inl (m)]) (rest := [.inl ((s) * 1000 + (k) * 10 + (if v 0 (s) = 1 then 0 else m)), .inr 0]) (q := 0) dX4_left_23 rfl (Nat.le_of_ble_eq_true rfl) rfl rfl YX4_indexFor rfl rfl (Nat.le_of_ble_eq_true rfl) gX4_left_X4_indexFor (by decide) ⟨Nat.zero_le _, Nat.zero_le _⟩ rfl (t_X4_indexFor (v := v) hS (s) (m) (by omega)) ?_
    refine zs_iconst (x := 0) dX4_left_26 (by decide) ?_
    refine zs_eV (As := [.inl ((s) * 1000 + (k) * 10 + (if v 0 (s) = 1 then 0 else m)), .inl ((if v 0 (s) = 1 then m else 0)), .inl (0)]) (rest := []) (q := 0) dX4_left_27 rfl (Nat.le_of_ble_eq_true rfl) rfl rfl YX4_placeOf rfl rfl (Nat.le_of_ble_eq_true rfl) gX4_left_X4_placeOf (by decide) ⟨Nat.zero_le _, Nat.zero_le _⟩ rfl (t_X4_placeOf (v := v) ((s) * 1000 + (k) * 10 + (if v 0 (s) = 1 then 0 else m)) ((if v 0 (s) = 1 then m else 0)) (0) hS hT haz.1 haz.2 (by omega)) ?_
    have hpc := x_pl_c hT (s * 1000 + k * 10 + (if v 0 s = 1 then 0 else m)) (if v 0 s = 1 then m else 0) 0
    refine zs_istore (lv' := [some (.inr 0), some (.inl (s)), some (.inl (k)), some (.inl (m)), some (.inl (x_pl v ((s) * 1000 + (k) * 10 + (if v 0 (s) = 1 then 0 else m)) ((if v 0 (s) = 1 then m else 0)) (0) (x_L v) 0))]) dX4_left_30 (by decide) rfl ?_
    refine zs_iload dX4_left_32 rfl ?_
    refine zs_iconst (x := -1) dX4_left_34 (by decide) ?_
    refine zs_icmp_ne (tgt := 43) dX4_left_35 (by decide) (by omega) (by omega) (fun h35 => ?_) (fun h35 => ?_)
    · have hE := hpc.1.resolve_left h35
      refine zs_aload_n dX4_left_43 rfl ?_
      refine zs_iload dX4_left_44 rfl ?_
      refine zs_eV (As := [.inl (x_pl v ((s) * 1000 + (k) * 10 + (if v 0 (s) = 1 then 0 else m)) ((if v 0 (s) = 1 then m else 0)) (0) (x_L v) 0)]) (rest := []) (q := 0) dX4_left_46 rfl (Nat.le_of_ble_eq_true rfl) rfl rfl YX4_leftOf rfl rfl (Nat.le_of_ble_eq_true rfl) gX4_left_X4_leftOf (by decide) ⟨Nat.zero_le _, Nat.zero_le _⟩ rfl (t_X4_leftOf (v := v) (x_pl v ((s) * 1000 + (k) * 10 + (if v 0 (s) = 1 then 0 else m)) ((if v 0 (s) = 1 then m else 0)) (0) (x_L v) 0) hS hE) ?_
      refine zs_iret dX4_left_49 rfl ?_
      have h35 : ¬ x_ask v s k m 0 = -1 := h35
      exact ⟨by unfold x_leftR; rw [if_pos h7, if_neg h35]; rfl, rfl⟩
    · refine zs_ldc (x := -99999999) dX4_left_38 kX4_left_114 (by decide) ?_
      refine zs_goto (tgt := 49) dX4_left_40 (by decide) ?_
      refine zs_iret dX4_left_49 rfl ?_
      have h35 : x_ask v s k m 0 = -1 := h35
      exact ⟨by unfold x_leftR; rw [if_pos h7, if_pos h35], rfl⟩
  · refine zs_iconst (x := -1) dX4_left_10 (by decide) ?_
    refine zs_iret dX4_left_11 rfl ?_
    exact ⟨by unfold x_leftR; rw [if_neg h7], rfl⟩
set_option maxHeartbeats 4000000 in
set_option maxRecDepth 100000 in
theorem t_X4_place {v : zs_V} (hS : x_S v) (hT : x_T v) (s k m : Int) (hs : zn s) (hk : zn k) (hm : zn m) : zs_R mX4_place 0 0 shX (zs_X (x_placeR v s k m) v) v 0 [some (.inr 0), some (.inl (s)), some (.inl (k)), some (.inl (m)), none] [] := by
  refine zs_aload_n dX4_place_0 rfl ?_
  refine zs_iload_n dX4_place_1 rfl ?_
  refine zs_iload_n dX4_place_2 rfl ?_
  refine zs_iload_n dX4_place_3 rfl ?_
  refine zs_eV (As := [.inl (s), .inl (k), .inl (m)]) (rest := []) (q := 0) dX4_place_4 rfl (Nat.le_of_ble_eq_true rfl) rfl rfl YX4_isMemberOrIndexFor rfl rfl (Nat.le_of_ble_eq_true rfl) gX4_place_X4_isMemberOrIndexFor (by decide) ⟨Nat.zero_le _, Nat.zero_le _⟩ rfl (t_X4_isMemberOrIndexFor (v := v) hS (s) (k) (m) (by omega) (by omega) (by omega)) ?_
  refine zs_ifz_ne (tgt := 12) dX4_place_7 (by decide)  (fun h7 => ?_) (fun h7 => ?_)
  · have haz := x_ask_z hS h7 hm
    have hm2 := hS.2.1
    refine zs_aload_n dX4_place_12 rfl ?_
    refine zs_aload_n dX4_place_13 rfl ?_
    refine zs_iload_n dX4_place_14 rfl ?_
    refine zs_iload_n dX4_place_15 rfl ?_
    refine zs_iload_n dX4_place_16 rfl ?_
    refine zs_eV (As := [.inl (s), .inl (k), .inl (m)]) (rest := [.inr 0]) (q := 0) dX4_place_17 rfl (Nat.le_of_ble_eq_true rfl) rfl rfl YX4_slotFor rfl rfl (Nat.le_of_ble_eq_true rfl) gX4_place_X4_slotFor (by decide) ⟨Nat.zero_le _, Nat.zero_le _⟩ rfl (t_X4_slotFor (v := v) hS (s) (k) (m) (by omega)) ?_
    refine zs_aload_n dX4_place_20 rfl ?_
    refine zs_iload_n dX4_place_21 rfl ?_
    refine zs_iload_n dX4_place_22 rfl ?_
    refine zs_eV (As := [.inl (s), .inl (m)]) (rest := [.inl ((s) * 1000 + (k) * 10 + (if v 0 (s) = 1 then 0 else m)), .inr 0]) (q := 0) dX4_place_23 rfl (Nat.le_of_ble_eq_true rfl) rfl rfl YX4_indexFor rfl rfl (Nat.le_of_ble_eq_true rfl) gX4_place_X4_indexFor (by decide) ⟨Nat.zero_le _, Nat.zero_le _⟩ rfl (t_X4_indexFor (v := v) hS (s) (m) (by omega)) ?_
    refine zs_iconst (x := 1) dX4_place_26 (by decide) ?_
    refine zs_eV (As := [.inl ((s) * 1000 + (k) * 10 + (if v 0 (s) = 1 then 0 else m)), .inl ((if v 0 (s) = 1 then m else 0)), .inl (1)]) (rest := []) (q := 0) dX4_place_27 rfl (Nat.le_of_ble_eq_true rfl) rfl rfl YX4_placeOf rfl rfl (Nat.le_of_ble_eq_true rfl) gX4_place_X4_placeOf (by decide) ⟨Nat.zero_le _, Nat.zero_le _⟩ rfl (t_X4_placeOf (v := v) ((s) * 1000 + (k) * 10 + (if v 0 (s) = 1 then 0 else m)) ((if v 0 (s) = 1 then m else 0)) (1) hS hT haz.1 haz.2 (by omega)) ?_
    have hpc := x_pl_c hT (s * 1000 + k * 10 + (if v 0 s = 1 then 0 else m)) (if v 0 s = 1 then m else 0) 1
    refine zs_istore (lv' := [some (.inr 0), some (.inl (s)), some (.inl (k)), some (.inl (m)), some (.inl (x_pl v ((s) * 1000 + (k) * 10 + (if v 0 (s) = 1 then 0 else m)) ((if v 0 (s) = 1 then m else 0)) (1) (x_L v) 0))]) dX4_place_30 (by decide) rfl ?_
    refine zs_iload dX4_place_32 rfl ?_
    refine zs_iconst (x := -1) dX4_place_34 (by decide) ?_
    refine zs_icmp_ne (tgt := 43) dX4_place_35 (by decide) (by omega) (by omega) (fun h35 => ?_) (fun h35 => ?_)
    · have hE := hpc.1.resolve_left h35
      refine zs_iload dX4_place_43 rfl ?_
      refine zs_iret dX4_place_45 rfl ?_
      have h35 : ¬ x_ask v s k m 1 = -1 := h35
      exact ⟨by unfold x_placeR; rw [if_pos h7, if_neg h35]; rfl, rfl⟩
    · refine zs_ldc (x := -99999999) dX4_place_38 kX4_place_114 (by decide) ?_
      refine zs_goto (tgt := 45) dX4_place_40 (by decide) ?_
      refine zs_iret dX4_place_45 rfl ?_
      have h35 : x_ask v s k m 1 = -1 := h35
      exact ⟨by unfold x_placeR; rw [if_pos h7, if_pos h35], rfl⟩
  · refine zs_iconst (x := -1) dX4_place_10 (by decide) ?_
    refine zs_iret dX4_place_11 rfl ?_
    exact ⟨by unfold x_placeR; rw [if_neg h7], rfl⟩

noncomputable def x_tickR (v : zs_V) (n : Int) : Int := if 1 ≤ n ∧ n ≤ 100000 then (if v 4 0 + n ≤ 1000000000 then x_hs v (x_L v) - x_hs (zs_put v 4 0 (v 4 0 + n)) (x_L v) else -2) else -1
noncomputable def x_tickS (v : zs_V) (n : Int) : zs_V := if 1 ≤ n ∧ n ≤ 100000 then (if v 4 0 + n ≤ 1000000000 then zs_put v 4 0 (v 4 0 + n) else v) else v
noncomputable def x_wmR (v : zs_V) (t : Int) : Int := if 0 ≤ t ∧ t ≤ 1000000000 then (if v 4 1 ≤ t then x_hs v (x_L v) - x_hs (zs_put v 4 1 t) (x_L v) else -2) else -1
noncomputable def x_wmS (v : zs_V) (t : Int) : zs_V := if 0 ≤ t ∧ t ≤ 1000000000 then (if v 4 1 ≤ t then zs_put v 4 1 t else v) else v
set_option maxHeartbeats 4000000 in
set_option maxRecDepth 100000 in
theorem t_X4_tick {v : zs_V} (hS : x_S v) (hT : x_T v) (n : Int) (hn : zn n) : zs_R mX4_tick 0 0 shX (zs_X (x_tickR v n) (x_tickS v n)) v 0 [some (.inr 0), some (.inl (n)), none] [] := by
  refine zs_iload_n dX4_tick_0 rfl ?_
  refine zs_iconst (x := 1) dX4_tick_1 (by decide) ?_
  refine zs_icmp_lt (tgt := 11) dX4_tick_2 (by decide) (by omega) (by omega) (fun h2 => ?_) (fun h2 => ?_)
  · refine zs_iconst (x := -1) dX4_tick_11 (by decide) ?_
    refine zs_iret dX4_tick_12 rfl ?_
    have hc : ¬ (1 ≤ n ∧ n ≤ 100000) := by omega
    exact ⟨by unfold x_tickR; rw [if_neg hc], by unfold x_tickS; rw [if_neg hc]⟩
  · refine zs_iload_n dX4_tick_5 rfl ?_
    refine zs_ldc (x := 100000) dX4_tick_6 kX4_tick_118 (by decide) ?_
    refine zs_icmp_le (tgt := 13) dX4_tick_8 (by decide) (by omega) (by omega) (fun h8 => ?_) (fun h8 => ?_)
    · obtain ⟨-, -, -, g1, g2, g3, g4⟩ := id hS
      refine zs_aload_n dX4_tick_13 rfl ?_
      refine zs_getr (j := 0) dX4_tick_14 rfl rfl rfl (by decide) nX4_tick_X4 fX4_tick_12 ?_
      refine zs_getr (j := 4) dX4_tick_17 rfl rfl rfl (by decide) nX4_tick_X3 fX4_tick_119 ?_
      refine zs_iconst (x := 0) dX4_tick_20 (by decide) ?_
      refine zs_iaload dX4_tick_21 rfl (by decide) (by omega) (by omega) ?_
      refine zs_iload_n dX4_tick_22 rfl ?_
      refine zs_iadd dX4_tick_23 ?_
      refine zs_istore_n (lv' := [some (.inr 0), some (.inl (n)), some (.inl ((v 4 (0)) + (n)))]) dX4_tick_24 (by decide) rfl ?_
      refine zs_iload_n dX4_tick_25 rfl ?_
      refine zs_ldc (x := 1000000000) dX4_tick_26 kX4_tick_123 (by decide) ?_
      refine zs_icmp_le (tgt := 34) dX4_tick_28 (by decide) (by omega) (by omega) (fun h28 => ?_) (fun h28 => ?_)
      · refine zs_aload_n dX4_tick_34 rfl ?_
        refine zs_iconst (x := 0) dX4_tick_35 (by decide) ?_
        refine zs_iload_n dX4_tick_36 rfl ?_
        refine zs_eV (As := [.inl (0), .inl ((v 4 (0)) + (n))]) (rest := []) (q := 0) dX4_tick_37 rfl (Nat.le_of_ble_eq_true rfl) rfl rfl YX4_moveClock rfl rfl (Nat.le_of_ble_eq_true rfl) gX4_tick_X4_moveClock (by decide) ⟨Nat.zero_le _, Nat.zero_le _⟩ rfl (t_X4_moveClock (v := v) (0) ((v 4 (0)) + (n)) hS hT (by omega) (by omega)) ?_
        refine zs_iret dX4_tick_40 rfl ?_
        have hc : 1 ≤ n ∧ n ≤ 100000 := by omega
        exact ⟨by unfold x_tickR; rw [if_pos hc, if_pos h28], by unfold x_tickS; rw [if_pos hc, if_pos h28]⟩
      · refine zs_bipush (x := -2) dX4_tick_31 (by decide) ?_
        refine zs_iret dX4_tick_33 rfl ?_
        have hc : 1 ≤ n ∧ n ≤ 100000 := by omega
        exact ⟨by unfold x_tickR; rw [if_pos hc, if_neg h28], by unfold x_tickS; rw [if_pos hc, if_neg h28]⟩
    · refine zs_iconst (x := -1) dX4_tick_11 (by decide) ?_
      refine zs_iret dX4_tick_12 rfl ?_
      have hc : ¬ (1 ≤ n ∧ n ≤ 100000) := by omega
      exact ⟨by unfold x_tickR; rw [if_neg hc], by unfold x_tickS; rw [if_neg hc]⟩
set_option maxHeartbeats 4000000 in
set_option maxRecDepth 100000 in
theorem t_X4_watermark {v : zs_V} (hS : x_S v) (hT : x_T v) (t : Int) (ht : zn t) : zs_R mX4_watermark 0 0 shX (zs_X (x_wmR v t) (x_wmS v t)) v 0 [some (.inr 0), some (.inl (t))] [] := by
  refine zs_iload_n dX4_watermark_0 rfl ?_
  refine zs_if_lt (tgt := 10) dX4_watermark_1 (by decide) (by omega) (fun h1 => ?_) (fun h1 => ?_)
  · refine zs_iconst (x := -1) dX4_watermark_10 (by decide) ?_
    refine zs_iret dX4_watermark_11 rfl ?_
    have hc : ¬ (0 ≤ t ∧ t ≤ 1000000000) := by omega
    exact ⟨by unfold x_wmR; rw [if_neg hc], by unfold x_wmS; rw [if_neg hc]⟩
  · refine zs_iload_n dX4_watermark_4 rfl ?_
    refine zs_ldc (x := 1000000000) dX4_watermark_5 kX4_watermark_123 (by decide) ?_
    refine zs_icmp_le (tgt := 12) dX4_watermark_7 (by decide) (by omega) (by omega) (fun h7 => ?_) (fun h7 => ?_)
    · obtain ⟨-, -, -, g1, g2, g3, g4⟩ := id hS
      refine zs_aload_n dX4_watermark_12 rfl ?_
      refine zs_getr (j := 0) dX4_watermark_13 rfl rfl rfl (by decide) nX4_watermark_X4 fX4_watermark_12 ?_
      refine zs_getr (j := 4) dX4_watermark_16 rfl rfl rfl (by decide) nX4_watermark_X3 fX4_watermark_119 ?_
      refine zs_iconst (x := 1) dX4_watermark_19 (by decide) ?_
      refine zs_iaload dX4_watermark_20 rfl (by decide) (by omega) (by omega) ?_
      refine zs_iload_n dX4_watermark_21 rfl ?_
      refine zs_icmp_le (tgt := 28) dX4_watermark_22 (by decide) (by omega) (by omega) (fun h22 => ?_) (fun h22 => ?_)
      · refine zs_aload_n dX4_watermark_28 rfl ?_
        refine zs_iconst (x := 1) dX4_watermark_29 (by decide) ?_
        refine zs_iload_n dX4_watermark_30 rfl ?_
        refine zs_eV (As := [.inl (1), .inl (t)]) (rest := []) (q := 0) dX4_watermark_31 rfl (Nat.le_of_ble_eq_true rfl) rfl rfl YX4_moveClock rfl rfl (Nat.le_of_ble_eq_true rfl) gX4_watermark_X4_moveClock (by decide) ⟨Nat.zero_le _, Nat.zero_le _⟩ rfl (t_X4_moveClock (v := v) (1) (t) hS hT (by omega) (by omega)) ?_
        refine zs_iret dX4_watermark_34 rfl ?_
        have hc : 0 ≤ t ∧ t ≤ 1000000000 := by omega
        exact ⟨by unfold x_wmR; rw [if_pos hc, if_pos h22], by unfold x_wmS; rw [if_pos hc, if_pos h22]⟩
      · refine zs_bipush (x := -2) dX4_watermark_25 (by decide) ?_
        refine zs_iret dX4_watermark_27 rfl ?_
        have hc : 0 ≤ t ∧ t ≤ 1000000000 := by omega
        exact ⟨by unfold x_wmR; rw [if_pos hc, if_neg h22], by unfold x_wmS; rw [if_pos hc, if_neg h22]⟩
    · refine zs_iconst (x := -1) dX4_watermark_10 (by decide) ?_
      refine zs_iret dX4_watermark_11 rfl ?_
      have hc : ¬ (0 ≤ t ∧ t ≤ 1000000000) := by omega
      exact ⟨by unfold x_wmR; rw [if_neg hc], by unfold x_wmS; rw [if_neg hc]⟩

noncomputable def x_setR (v : zs_V) (s l : Int) : Int := if (0 ≤ s ∧ s < v 15 0) ∧ 1 ≤ l ∧ l ≤ 100000 then v 2 s else -1
noncomputable def x_setS (v : zs_V) (s l a : Int) : zs_V := if (0 ≤ s ∧ s < v 15 0) ∧ 1 ≤ l ∧ l ≤ 100000 then (if a = 0 then zs_put v 2 s l else x_sa s (x_L v) (zs_put v 2 s l)) else v
theorem x_set_S {v : zs_V} {s l : Int} (hS : x_S v) (hl : 1 ≤ l ∧ l ≤ 100000) : x_S (zs_put v 2 s l) := by
  obtain ⟨g1, g2, g3, g4⟩ := hS
  refine ⟨g1, g2, fun q h0 h1 => ?_, g4⟩
  obtain ⟨a, b, c, d, e⟩ := g3 q h0 h1
  refine ⟨a, b, ?_, ?_, e⟩ <;> rw [zs_put_e] <;> split <;> omega
set_option maxHeartbeats 4000000 in
set_option maxRecDepth 100000 in
theorem t_X4_setting {v : zs_V} (hS : x_S v) (hT : x_T v) (hU : x_U v) (s l a : Int) (hs : zn s) (hl : zn l) (ha : zn a) : zs_R mX4_setting 0 0 shX (zs_X (x_setR v s l) (x_setS v s l a)) v 0 [some (.inr 0), some (.inl (s)), some (.inl (l)), some (.inl (a)), none] [] := by
  have hm1 := hS.1
  have hm2 := hS.2.1
  refine zs_aload_n dX4_setting_0 rfl ?_
  refine zs_getr (j := 0) dX4_setting_1 rfl rfl rfl (by decide) nX4_setting_X4 fX4_setting_12 ?_
  refine zs_iload_n dX4_setting_4 rfl ?_
  refine zs_eV (As := [.inl (s)]) (rest := []) (q := 1) dX4_setting_5 rfl (Nat.le_of_ble_eq_true rfl) rfl rfl YX3_has rfl rfl (Nat.le_of_ble_eq_true rfl) gX4_setting_X3_has (by decide) ⟨Nat.zero_le _, Nat.zero_le _⟩ rfl (t_X3_has (v := v) (s) (by omega) (by omega)) ?_
  refine zs_ifz_eq (tgt := 18) dX4_setting_8 (by decide)  (fun h8 => ?_) (fun h8 => ?_)
  · refine zs_iconst (x := -1) dX4_setting_18 (by decide) ?_
    refine zs_iret dX4_setting_19 rfl ?_
    have hc : ¬ ((0 ≤ s ∧ s < v 15 0) ∧ 1 ≤ l ∧ l ≤ 100000) := by omega
    exact ⟨by unfold x_setR; rw [if_neg hc], by unfold x_setS; rw [if_neg hc]⟩
  · refine zs_iload_n dX4_setting_11 rfl ?_
    refine zs_eS (As := [.inl (l)]) (rest := []) dX4_setting_12 rfl (Nat.le_of_ble_eq_true rfl) YX4_isSpan rfl (Nat.le_of_ble_eq_true rfl) gX4_setting_X4_isSpan (by decide) ⟨Nat.zero_le _, Nat.zero_le _⟩ rfl (t_X4_isSpan (v := v) (l) (by omega)) ?_
    refine zs_ifz_ne (tgt := 20) dX4_setting_15 (by decide)  (fun h15 => ?_) (fun h15 => ?_)
    · have hx : s < 6 := by omega
      refine zs_aload_n dX4_setting_20 rfl ?_
      refine zs_getr (j := 0) dX4_setting_21 rfl rfl rfl (by decide) nX4_setting_X4 fX4_setting_12 ?_
      refine zs_getr (j := 2) dX4_setting_24 rfl rfl rfl (by decide) nX4_setting_X3 fX4_setting_130 ?_
      refine zs_iload_n dX4_setting_27 rfl ?_
      refine zs_iaload dX4_setting_28 rfl (by decide) (by omega) (by omega) ?_
      refine zs_istore (lv' := [some (.inr 0), some (.inl (s)), some (.inl (l)), some (.inl (a)), some (.inl (v 2 (s)))]) dX4_setting_29 (by decide) rfl ?_
      refine zs_aload_n dX4_setting_31 rfl ?_
      refine zs_getr (j := 0) dX4_setting_32 rfl rfl rfl (by decide) nX4_setting_X4 fX4_setting_12 ?_
      refine zs_getr (j := 2) dX4_setting_35 rfl rfl rfl (by decide) nX4_setting_X3 fX4_setting_130 ?_
      refine zs_iload_n dX4_setting_38 rfl ?_
      refine zs_iload_n dX4_setting_39 rfl ?_
      refine zs_iastore dX4_setting_40 rfl (by decide) (by decide) (by omega) (by omega) ?_
      refine zs_iload_n dX4_setting_41 rfl ?_
      refine zs_if_eq (tgt := 50) dX4_setting_42 (by decide) (by omega) (fun h42 => ?_) (fun h42 => ?_)
      · refine zs_iload dX4_setting_50 rfl ?_
        refine zs_iret dX4_setting_52 rfl ?_
        have hc : (0 ≤ s ∧ s < v 15 0) ∧ 1 ≤ l ∧ l ≤ 100000 := by omega
        exact ⟨by unfold x_setR; rw [if_pos hc], by unfold x_setS; rw [if_pos hc, if_pos h42]⟩
      · have hS : x_S (zs_put v 2 s l) := x_set_S hS (by omega)
        have hT : x_T (zs_put v 2 s l) := x_T_of rfl rfl rfl rfl rfl hT
        have hU : x_U (zs_put v 2 s l) := hU
        have e15 : (zs_put v 2 s l) 15 0 = v 15 0 := rfl
        refine zs_aload_n dX4_setting_45 rfl ?_
        refine zs_iload_n dX4_setting_46 rfl ?_
        refine zs_eVv (As := [.inl (s)]) (rest := []) (q := 0) dX4_setting_47 rfl (Nat.le_of_ble_eq_true rfl) rfl rfl YX4_spanShownAnew rfl rfl (Nat.le_of_ble_eq_true rfl) gX4_setting_X4_spanShownAnew (by decide) ⟨Nat.zero_le _, Nat.zero_le _⟩ rfl (t_X4_spanShownAnew (v := (zs_put v 2 (s) (l))) (s) hS hT hU (by omega)) ?_
        refine zs_iload dX4_setting_50 rfl ?_
        refine zs_iret dX4_setting_52 rfl ?_
        have hc : (0 ≤ s ∧ s < v 15 0) ∧ 1 ≤ l ∧ l ≤ 100000 := by omega
        exact ⟨by unfold x_setR; rw [if_pos hc], by unfold x_setS; rw [if_pos hc, if_neg h42]; rw [x_L_of (u := zs_put v 2 s l) (v := v) rfl rfl]⟩
    · refine zs_iconst (x := -1) dX4_setting_18 (by decide) ?_
      refine zs_iret dX4_setting_19 rfl ?_
      have hc : ¬ ((0 ≤ s ∧ s < v 15 0) ∧ 1 ≤ l ∧ l ≤ 100000) := by omega
      exact ⟨by unfold x_setR; rw [if_neg hc], by unfold x_setS; rw [if_neg hc]⟩

noncomputable def x_rowR (v : zs_V) (i c : Int) : Int := if (0 ≤ i ∧ i < v 18 0) ∧ 0 ≤ c ∧ c < 6 then v 10 (x_ri v i + c) else -99999999
set_option maxHeartbeats 4000000 in
set_option maxRecDepth 100000 in
theorem t_X4_row {v : zs_V} (i c : Int) (hi : zn i) (hc : zn c) (hF : 0 ≤ v 17 0 ∧ v 17 0 < 150) (hK : 0 ≤ v 18 0 ∧ v 18 0 ≤ 150) : zs_R mX4_row 0 0 shX (zs_X (x_rowR v i c) v) v 0 [some (.inr 0), some (.inl (i)), some (.inl (c))] [] := by
  refine zs_iload_n dX4_row_0 rfl ?_
  refine zs_if_lt (tgt := 25) dX4_row_1 (by decide) (by omega) (fun h1 => ?_) (fun h1 => ?_)
  · refine zs_ldc (x := -99999999) dX4_row_25 kX4_row_114 (by decide) ?_
    refine zs_iret dX4_row_27 rfl ?_
    exact ⟨by unfold x_rowR; rw [if_neg (by omega)], rfl⟩
  · refine zs_iload_n dX4_row_4 rfl ?_
    refine zs_aload_n dX4_row_5 rfl ?_
    refine zs_getr (j := 2) dX4_row_6 rfl rfl rfl (by decide) nX4_row_X4 fX4_row_26 ?_
    refine zs_geti (j := 2) dX4_row_9 rfl rfl rfl (by decide) nX4_row_X2 fX4_row_178 ?_
    refine zs_icmp_ge (tgt := 25) dX4_row_12 (by decide) (by omega) (by omega) (fun h12 => ?_) (fun h12 => ?_)
    · refine zs_ldc (x := -99999999) dX4_row_25 kX4_row_114 (by decide) ?_
      refine zs_iret dX4_row_27 rfl ?_
      exact ⟨by unfold x_rowR; rw [if_neg (by omega)], rfl⟩
    · refine zs_iload_n dX4_row_15 rfl ?_
      refine zs_if_lt (tgt := 25) dX4_row_16 (by decide) (by omega) (fun h16 => ?_) (fun h16 => ?_)
      · refine zs_ldc (x := -99999999) dX4_row_25 kX4_row_114 (by decide) ?_
        refine zs_iret dX4_row_27 rfl ?_
        exact ⟨by unfold x_rowR; rw [if_neg (by omega)], rfl⟩
      · refine zs_iload_n dX4_row_19 rfl ?_
        refine zs_bipush (x := 6) dX4_row_20 (by decide) ?_
        refine zs_icmp_lt (tgt := 28) dX4_row_22 (by decide) (by omega) (by omega) (fun h22 => ?_) (fun h22 => ?_)
        · refine zs_aload_n dX4_row_28 rfl ?_
          refine zs_getr (j := 2) dX4_row_29 rfl rfl rfl (by decide) nX4_row_X4 fX4_row_26 ?_
          refine zs_iload_n dX4_row_32 rfl ?_
          refine zs_iload_n dX4_row_33 rfl ?_
          refine zs_eV (As := [.inl (i), .inl (c)]) (rest := []) (q := 13) dX4_row_34 rfl (Nat.le_of_ble_eq_true rfl) rfl rfl YX2_cell rfl rfl (Nat.le_of_ble_eq_true rfl) gX4_row_X2_cell (by decide) ⟨Nat.zero_le _, Nat.zero_le _⟩ rfl (t_X2_cell (v := v) (i) (c) (by omega) (by omega) (by omega)) ?_
          refine zs_iret dX4_row_37 rfl ?_
          exact ⟨by unfold x_rowR; rw [if_pos (by omega)], rfl⟩
        · refine zs_ldc (x := -99999999) dX4_row_25 kX4_row_114 (by decide) ?_
          refine zs_iret dX4_row_27 rfl ?_
          exact ⟨by unfold x_rowR; rw [if_neg (by omega)], rfl⟩
set_option maxHeartbeats 4000000 in
set_option maxRecDepth 100000 in
theorem l_X4_next {v : zs_V} {s r0 : Int} (hS : x_S v) (hT : x_T v) (hs : zn s) : ∀ (n : Nat) (j l : Int) (x4 : Option zs_A), 0 ≤ j → j + n = v 16 0 → zn l → x_nx v s (x_seg v j n) l = r0 → zs_R mX4_next 0 0 shX (zs_X r0 v) v 18 [some (.inr 0), some (.inl (s)), some (.inl (l)), some (.inl (j)), x4] [] := by
  have hT1 := hT.2.1
  intro n
  induction n using Nat.strongRecOn with
  | ind n ih =>
    intro j l x4 h0 hn hl hr
    refine zs_iload_n dX4_next_18 rfl ?_
    refine zs_aload_n dX4_next_19 rfl ?_
    refine zs_getr (j := 1) dX4_next_20 rfl rfl rfl (by decide) nX4_next_X4 fX4_next_19 ?_
    refine zs_geti (j := 5) dX4_next_23 rfl rfl rfl (by decide) nX4_next_X1 fX4_next_142 ?_
    refine zs_icmp_ge (tgt := 99) dX4_next_26 (by decide) (by omega) (by omega) (fun h26 => ?_) (fun h26 => ?_)
    · refine zs_iload_n dX4_next_99 rfl ?_
      refine zs_iret dX4_next_100 rfl ?_
      obtain rfl : n = 0 := by omega
      exact ⟨hr, rfl⟩
    · obtain ⟨n', rfl⟩ : ∃ n', n = n' + 1 := ⟨n - 1, by omega⟩
      have hE := hT.2.2 j (by omega) (by omega)
      have hf := x_P_f hS hE.1
      have hE2 := hE.2
      refine zs_aload_n dX4_next_29 rfl ?_
      refine zs_getr (j := 1) dX4_next_30 rfl rfl rfl (by decide) nX4_next_X4 fX4_next_19 ?_
      refine zs_getr (j := 4) dX4_next_33 rfl rfl rfl (by decide) nX4_next_X1 fX4_next_145 ?_
      refine zs_iload_n dX4_next_36 rfl ?_
      refine zs_iaload dX4_next_37 rfl (by decide) (by omega) (by omega) ?_
      refine zs_istore (lv' := [some (.inr 0), some (.inl (s)), some (.inl (l)), some (.inl (j)), some (.inl (v 9 (j)))]) dX4_next_38 (by decide) rfl ?_
      refine zs_aload_n dX4_next_40 rfl ?_
      refine zs_getr (j := 1) dX4_next_41 rfl rfl rfl (by decide) nX4_next_X4 fX4_next_19 ?_
      refine zs_iload dX4_next_44 rfl ?_
      refine zs_eV (As := [.inl (v 9 (j))]) (rest := []) (q := 7) dX4_next_46 rfl (Nat.le_of_ble_eq_true rfl) rfl rfl YX1_stateAt rfl rfl (Nat.le_of_ble_eq_true rfl) gX4_next_X1_stateAt (by decide) ⟨Nat.zero_le _, Nat.zero_le _⟩ rfl (t_X1_stateAt (v := v) (v 9 (j)) (by omega) (by omega)) ?_
      refine zs_iload_n dX4_next_49 rfl ?_
      refine zs_icmp_ne (tgt := 93) dX4_next_50 (by decide) (by omega) (by omega) (fun h50 => ?_) (fun h50 => ?_)
      · refine zs_iinc (lv' := [some (.inr 0), some (.inl (s)), some (.inl (l)), some (.inl (j + 1)), some (.inl (v 9 (j)))]) dX4_next_93 rfl (by decide) rfl ?_
        refine zs_goto (tgt := 18) dX4_next_96 (by decide) ?_
        simp only [x_seg, x_nx] at hr
        rw [if_neg (fun q => h50 q.1)] at hr
        exact ih n' (by omega) (j + 1) (l) _ (by omega) (by omega) (by omega) hr
      · refine zs_aload_n dX4_next_53 rfl ?_
        refine zs_iload dX4_next_54 rfl ?_
        refine zs_eV (As := [.inl (v 9 (j))]) (rest := []) (q := 0) dX4_next_56 rfl (Nat.le_of_ble_eq_true rfl) rfl rfl YX4_isShown rfl rfl (Nat.le_of_ble_eq_true rfl) gX4_next_X4_isShown (by decide) ⟨Nat.zero_le _, Nat.zero_le _⟩ rfl (t_X4_isShown (v := v) (v 9 (j)) hS hE) ?_
        refine zs_ifz_eq (tgt := 93) dX4_next_59 (by decide)  (fun h59 => ?_) (fun h59 => ?_)
        · refine zs_iinc (lv' := [some (.inr 0), some (.inl (s)), some (.inl (l)), some (.inl (j + 1)), some (.inl (v 9 (j)))]) dX4_next_93 rfl (by decide) rfl ?_
          refine zs_goto (tgt := 18) dX4_next_96 (by decide) ?_
          simp only [x_seg, x_nx] at hr
          rw [if_neg (fun q => h59 q.2.1)] at hr
          exact ih n' (by omega) (j + 1) (l) _ (by omega) (by omega) (by omega) hr
        · refine zs_iload_n dX4_next_62 rfl ?_
          refine zs_ldc (x := -99999999) dX4_next_63 kX4_next_114 (by decide) ?_
          refine zs_icmp_eq (tgt := 82) dX4_next_65 (by decide) (by omega) (by omega) (fun h65 => ?_) (fun h65 => ?_)
          · refine zs_aload_n dX4_next_82 rfl ?_
            refine zs_getr (j := 1) dX4_next_83 rfl rfl rfl (by decide) nX4_next_X4 fX4_next_19 ?_
            refine zs_getr (j := 3) dX4_next_86 rfl rfl rfl (by decide) nX4_next_X1 fX4_next_187 ?_
            refine zs_iload dX4_next_89 rfl ?_
            refine zs_iaload dX4_next_91 rfl (by decide) (by omega) (by omega) ?_
            refine zs_istore_n (lv' := [some (.inr 0), some (.inl (s)), some (.inl (v 8 (v 9 (j)))), some (.inl (j)), some (.inl (v 9 (j)))]) dX4_next_92 (by decide) rfl ?_
            refine zs_iinc (lv' := [some (.inr 0), some (.inl (s)), some (.inl (v 8 (v 9 (j)))), some (.inl (j + 1)), some (.inl (v 9 (j)))]) dX4_next_93 rfl (by decide) rfl ?_
            refine zs_goto (tgt := 18) dX4_next_96 (by decide) ?_
            simp only [x_seg, x_nx] at hr
            rw [if_pos ⟨h50, h59, Or.inl h65⟩] at hr
            exact ih n' (by omega) (j + 1) (v 8 (v 9 j)) _ (by omega) (by omega) (by omega) hr
          · refine zs_aload_n dX4_next_68 rfl ?_
            refine zs_getr (j := 1) dX4_next_69 rfl rfl rfl (by decide) nX4_next_X4 fX4_next_19 ?_
            refine zs_getr (j := 3) dX4_next_72 rfl rfl rfl (by decide) nX4_next_X1 fX4_next_187 ?_
            refine zs_iload dX4_next_75 rfl ?_
            refine zs_iaload dX4_next_77 rfl (by decide) (by omega) (by omega) ?_
            refine zs_iload_n dX4_next_78 rfl ?_
            refine zs_icmp_ge (tgt := 93) dX4_next_79 (by decide) (by omega) (by omega) (fun h79 => ?_) (fun h79 => ?_)
            · refine zs_iinc (lv' := [some (.inr 0), some (.inl (s)), some (.inl (l)), some (.inl (j + 1)), some (.inl (v 9 (j)))]) dX4_next_93 rfl (by decide) rfl ?_
              refine zs_goto (tgt := 18) dX4_next_96 (by decide) ?_
              simp only [x_seg, x_nx] at hr
              rw [if_neg (fun q => q.2.2.elim h65 (by omega))] at hr
              exact ih n' (by omega) (j + 1) (l) _ (by omega) (by omega) (by omega) hr
            · refine zs_aload_n dX4_next_82 rfl ?_
              refine zs_getr (j := 1) dX4_next_83 rfl rfl rfl (by decide) nX4_next_X4 fX4_next_19 ?_
              refine zs_getr (j := 3) dX4_next_86 rfl rfl rfl (by decide) nX4_next_X1 fX4_next_187 ?_
              refine zs_iload dX4_next_89 rfl ?_
              refine zs_iaload dX4_next_91 rfl (by decide) (by omega) (by omega) ?_
              refine zs_istore_n (lv' := [some (.inr 0), some (.inl (s)), some (.inl (v 8 (v 9 (j)))), some (.inl (j)), some (.inl (v 9 (j)))]) dX4_next_92 (by decide) rfl ?_
              refine zs_iinc (lv' := [some (.inr 0), some (.inl (s)), some (.inl (v 8 (v 9 (j)))), some (.inl (j + 1)), some (.inl (v 9 (j)))]) dX4_next_93 rfl (by decide) rfl ?_
              refine zs_goto (tgt := 18) dX4_next_96 (by decide) ?_
              simp only [x_seg, x_nx] at hr
              rw [if_pos ⟨h50, h59, Or.inr (by omega)⟩] at hr
              exact ih n' (by omega) (j + 1) (v 8 (v 9 j)) _ (by omega) (by omega) (by omega) hr

noncomputable def x_nextR (v : zs_V) (s : Int) : Int := if 0 ≤ s ∧ s < v 15 0 then x_nx v s (x_L v) (-99999999) else -1
set_option maxHeartbeats 4000000 in
set_option maxRecDepth 100000 in
theorem t_X4_next {v : zs_V} (hS : x_S v) (hT : x_T v) (s : Int) (hs : zn s) : zs_R mX4_next 0 0 shX (zs_X (x_nextR v s) v) v 0 [some (.inr 0), some (.inl (s)), none, none, none] [] := by
  have hm1 := hS.1
  have hm2 := hS.2.1
  refine zs_aload_n dX4_next_0 rfl ?_
  refine zs_getr (j := 0) dX4_next_1 rfl rfl rfl (by decide) nX4_next_X4 fX4_next_12 ?_
  refine zs_iload_n dX4_next_4 rfl ?_
  refine zs_eV (As := [.inl (s)]) (rest := []) (q := 1) dX4_next_5 rfl (Nat.le_of_ble_eq_true rfl) rfl rfl YX3_has rfl rfl (Nat.le_of_ble_eq_true rfl) gX4_next_X3_has (by decide) ⟨Nat.zero_le _, Nat.zero_le _⟩ rfl (t_X3_has (v := v) (s) (by omega) (by omega)) ?_
  refine zs_ifz_ne (tgt := 13) dX4_next_8 (by decide)  (fun h8 => ?_) (fun h8 => ?_)
  · refine zs_ldc (x := -99999999) dX4_next_13 kX4_next_114 (by decide) ?_
    refine zs_istore_n (lv' := [some (.inr 0), some (.inl (s)), some (.inl (-99999999)), none, none]) dX4_next_15 (by decide) rfl ?_
    refine zs_iconst (x := 0) dX4_next_16 (by decide) ?_
    refine zs_istore_n (lv' := [some (.inr 0), some (.inl (s)), some (.inl (-99999999)), some (.inl (0)), none]) dX4_next_17 (by decide) rfl ?_
    exact l_X4_next hS hT hs (v 16 0).toNat 0 (-99999999) _ (by omega) (by have := hT.1; omega) (by omega) (by unfold x_nextR; rw [if_pos h8]; rfl)
  · refine zs_iconst (x := -1) dX4_next_11 (by decide) ?_
    refine zs_iret dX4_next_12 rfl ?_
    exact ⟨by unfold x_nextR; rw [if_neg h8], rfl⟩

noncomputable def x_countR (v : zs_V) (c : Int) : Int := if c = 0 then v 15 0 else if c = 1 then v 16 0 else if c = 2 then x_hs v (x_L v) else if c = 3 then v 18 0 else if c = 4 then v 19 0 else if c = 5 then v 4 0 else if c = 6 then v 4 1 else if c = 7 then v 20 0 else -1
set_option maxHeartbeats 4000000 in
set_option maxRecDepth 100000 in
theorem t_X4_count {v : zs_V} (hS : x_S v) (hT : x_T v) (c : Int) (hc : zn c) : zs_R mX4_count 0 0 shX (zs_X (x_countR v c) v) v 0 [some (.inr 0), some (.inl (c))] [] := by
  refine zs_iload_n dX4_count_0 rfl ?_
  by_cases h1 : c < 0 ∨ 7 < c
  · refine zs_swOut (tgt := 110) dX4_count_1 (by omega) h1 (by decide) ?_
    refine zs_iconst (x := -1) dX4_count_110 (by decide) ?_
    refine zs_iret dX4_count_111 rfl ?_
    exact ⟨by unfold x_countR; simp only [show ¬ c = 0 by omega, show ¬ c = 1 by omega, show ¬ c = 2 by omega, show ¬ c = 3 by omega, show ¬ c = 4 by omega, show ¬ c = 5 by omega, show ¬ c = 6 by omega, show ¬ c = 7 by omega, if_false], rfl⟩
  · rcases (show c = 0 ∨ c = 1 ∨ c = 2 ∨ c = 3 ∨ c = 4 ∨ c = 5 ∨ c = 6 ∨ c = 7 by omega) with h1 | h1 | h1 | h1 | h1 | h1 | h1 | h1
    · refine zs_swIn (tgt := 48) dX4_count_1 (by omega) (by omega) (by omega) (by rw [h1]; rfl) (by decide) ?_
      refine zs_aload_n dX4_count_48 rfl ?_
      refine zs_getr (j := 0) dX4_count_49 rfl rfl rfl (by decide) nX4_count_X4 fX4_count_12 ?_
      refine zs_geti (j := 5) dX4_count_52 rfl rfl rfl (by decide) nX4_count_X3 fX4_count_48 ?_
      refine zs_iret dX4_count_55 rfl ?_
      exact ⟨by unfold x_countR; simp [h1], rfl⟩
    · refine zs_swIn (tgt := 56) dX4_count_1 (by omega) (by omega) (by omega) (by rw [h1]; rfl) (by decide) ?_
      refine zs_aload_n dX4_count_56 rfl ?_
      refine zs_getr (j := 1) dX4_count_57 rfl rfl rfl (by decide) nX4_count_X4 fX4_count_19 ?_
      refine zs_geti (j := 5) dX4_count_60 rfl rfl rfl (by decide) nX4_count_X1 fX4_count_142 ?_
      refine zs_iret dX4_count_63 rfl ?_
      exact ⟨by unfold x_countR; simp [h1], rfl⟩
    · refine zs_swIn (tgt := 64) dX4_count_1 (by omega) (by omega) (by omega) (by rw [h1]; rfl) (by decide) ?_
      refine zs_aload_n dX4_count_64 rfl ?_
      refine zs_eV (As := []) (rest := []) (q := 0) dX4_count_65 rfl (Nat.le_of_ble_eq_true rfl) rfl rfl YX4_howManyShown rfl rfl (Nat.le_of_ble_eq_true rfl) gX4_count_X4_howManyShown (by decide) ⟨Nat.zero_le _, Nat.zero_le _⟩ rfl (t_X4_howManyShown (v := v) hS hT) ?_
      refine zs_iret dX4_count_68 rfl ?_
      exact ⟨by unfold x_countR; simp [h1], rfl⟩
    · refine zs_swIn (tgt := 69) dX4_count_1 (by omega) (by omega) (by omega) (by rw [h1]; rfl) (by decide) ?_
      refine zs_aload_n dX4_count_69 rfl ?_
      refine zs_getr (j := 2) dX4_count_70 rfl rfl rfl (by decide) nX4_count_X4 fX4_count_26 ?_
      refine zs_geti (j := 2) dX4_count_73 rfl rfl rfl (by decide) nX4_count_X2 fX4_count_178 ?_
      refine zs_iret dX4_count_76 rfl ?_
      exact ⟨by unfold x_countR; simp [h1], rfl⟩
    · refine zs_swIn (tgt := 77) dX4_count_1 (by omega) (by omega) (by omega) (by rw [h1]; rfl) (by decide) ?_
      refine zs_aload_n dX4_count_77 rfl ?_
      refine zs_getr (j := 2) dX4_count_78 rfl rfl rfl (by decide) nX4_count_X4 fX4_count_26 ?_
      refine zs_geti (j := 3) dX4_count_81 rfl rfl rfl (by decide) nX4_count_X2 fX4_count_194 ?_
      refine zs_iret dX4_count_84 rfl ?_
      exact ⟨by unfold x_countR; simp [h1], rfl⟩
    · refine zs_swIn (tgt := 85) dX4_count_1 (by omega) (by omega) (by omega) (by rw [h1]; rfl) (by decide) ?_
      refine zs_aload_n dX4_count_85 rfl ?_
      refine zs_getr (j := 0) dX4_count_86 rfl rfl rfl (by decide) nX4_count_X4 fX4_count_12 ?_
      refine zs_getr (j := 4) dX4_count_89 rfl rfl rfl (by decide) nX4_count_X3 fX4_count_119 ?_
      refine zs_iconst (x := 0) dX4_count_92 (by decide) ?_
      refine zs_iaload dX4_count_93 rfl (by decide) (by omega) (by omega) ?_
      refine zs_iret dX4_count_94 rfl ?_
      exact ⟨by unfold x_countR; simp [h1], rfl⟩
    · refine zs_swIn (tgt := 95) dX4_count_1 (by omega) (by omega) (by omega) (by rw [h1]; rfl) (by decide) ?_
      refine zs_aload_n dX4_count_95 rfl ?_
      refine zs_getr (j := 0) dX4_count_96 rfl rfl rfl (by decide) nX4_count_X4 fX4_count_12 ?_
      refine zs_getr (j := 4) dX4_count_99 rfl rfl rfl (by decide) nX4_count_X3 fX4_count_119 ?_
      refine zs_iconst (x := 1) dX4_count_102 (by decide) ?_
      refine zs_iaload dX4_count_103 rfl (by decide) (by omega) (by omega) ?_
      refine zs_iret dX4_count_104 rfl ?_
      exact ⟨by unfold x_countR; simp [h1], rfl⟩
    · refine zs_swIn (tgt := 105) dX4_count_1 (by omega) (by omega) (by omega) (by rw [h1]; rfl) (by decide) ?_
      refine zs_aload_n dX4_count_105 rfl ?_
      refine zs_geti (j := 4) dX4_count_106 rfl rfl rfl (by decide) nX4_count_X4 fX4_count_37 ?_
      refine zs_iret dX4_count_109 rfl ?_
      exact ⟨by unfold x_countR; simp [h1], rfl⟩
end
section

/-- what every public method takes for granted -/
def x_J (v : zs_V) : Prop := x_S v ∧ x_T v ∧ (∀ p : Int, 0 ≤ p → p < 200 → v 5 p = -1 ∨ x_E v p) ∧ (0 ≤ v 17 0 ∧ v 17 0 < 150) ∧ (0 ≤ v 18 0 ∧ v 18 0 ≤ 150) ∧ 0 ≤ v 20 0 ∧ v 20 0 < 200
theorem x_J_z {v : zs_V} (h : x_J v) : ∀ p : Int, 0 ≤ p → p < 200 → zn (v 5 p) := fun p h0 h1 => by
  have hm := h.1.2.1
  rcases h.2.2.1 p h0 h1 with e | e
  · omega
  · have a := e.1.2.2.1
    have b := e.1.2.2.2
    omega
theorem x_tk_J {v : zs_V} (h : x_J v) {p slot : Int} (hp : 0 ≤ p ∧ p < 200) (hs : v 5 p = -1) (hz : zn slot) (ht : v 16 0 < 200) : x_tkP v p slot := by
  refine ⟨h.2.1.1, ht, hp.1, hp.2, hz, fun j h0 h1 => ?_⟩
  have hE := h.2.1.2.2 j h0 h1
  refine ⟨hE.1.1, hE.1.2.1, x_J_z h _ hE.1.1 hE.1.2.1, fun e => ?_⟩
  have := hE.1.2.2.1
  rw [e] at this
  omega
theorem x_Tak_S {v u : zs_V} {p slot : Int} (h : x_Tak v p slot u) (hS : x_S v) : x_S u := x_S_of (h.1 0 (by decide) (by decide) (by decide)) (h.1 1 (by decide) (by decide) (by decide)) (h.1 2 (by decide) (by decide) (by decide)) (h.1 3 (by decide) (by decide) (by decide)) (h.1 4 (by decide) (by decide) (by decide)) (h.1 15 (by decide) (by decide) (by decide)) hS
theorem x_Tak_P {v u : zs_V} {p slot : Int} (h : x_Tak v p slot u) (hp : 0 ≤ p ∧ p < 200) (hs : 0 ≤ slot ∧ slot < 1000 * v 15 0) : x_P u p := by
  refine ⟨hp.1, hp.2, ?_⟩
  rw [h.2.1 p, if_pos rfl, h.1 15 (by decide) (by decide) (by decide)]
  exact hs
theorem x_Vac_S {v u : zs_V} {p : Int} (h : x_Vac v p u) (hS : x_S v) : x_S u := x_S_of (h.1 0 (by decide) (by decide) (by decide)) (h.1 1 (by decide) (by decide) (by decide)) (h.1 2 (by decide) (by decide) (by decide)) (h.1 3 (by decide) (by decide) (by decide)) (h.1 4 (by decide) (by decide) (by decide)) (h.1 15 (by decide) (by decide) (by decide)) hS
theorem x_tell_r (v : zs_V) (p : Int) {r : Nat} (h0 : r ≠ 10) (h1 : r ≠ 17) (h2 : r ≠ 18) (h3 : r ≠ 19) : x_tell v p r = v r := by
  unfold x_tell x_tellA
  rw [zs_put_r _ _ _ _ h0, zs_put_r _ _ _ _ h0, zs_put_r _ _ _ _ h0, zs_put_r _ _ _ _ h0, zs_put_r _ _ _ _ h0, zs_put_r _ _ _ _ h0, x_rb_r v h1 h2 h3]
theorem x_tell_S {v : zs_V} {p : Int} (hS : x_S v) : x_S (x_tell v p) := x_S_of (x_tell_r v p (by decide) (by decide) (by decide) (by decide)) (x_tell_r v p (by decide) (by decide) (by decide) (by decide)) (x_tell_r v p (by decide) (by decide) (by decide) (by decide)) (x_tell_r v p (by decide) (by decide) (by decide) (by decide)) (x_tell_r v p (by decide) (by decide) (by decide) (by decide)) (x_tell_r v p (by decide) (by decide) (by decide) (by decide)) hS
theorem x_tell_P {v : zs_V} {p q : Int} (h : x_P v q) : x_P (x_tell v p) q := x_P_of (x_tell_r v p (by decide) (by decide) (by decide) (by decide)) (x_tell_r v p (by decide) (by decide) (by decide) (by decide)) h
theorem x_tell_E {v : zs_V} {p q : Int} (h : x_E v q) : x_E (x_tell v p) q := x_E_of (x_tell_r v p (by decide) (by decide) (by decide) (by decide)) (x_tell_r v p (by decide) (by decide) (by decide) (by decide)) (x_tell_r v p (by decide) (by decide) (by decide) (by decide)) h
theorem x_tell_T {v : zs_V} {p : Int} (h : x_T v) : x_T (x_tell v p) := x_T_of (x_tell_r v p (by decide) (by decide) (by decide) (by decide)) (x_tell_r v p (by decide) (by decide) (by decide) (by decide)) (x_tell_r v p (by decide) (by decide) (by decide) (by decide)) (x_tell_r v p (by decide) (by decide) (by decide) (by decide)) (x_tell_r v p (by decide) (by decide) (by decide) (by decide)) h
theorem x_tell_L (v : zs_V) (p : Int) : x_L (x_tell v p) = x_L v := x_L_of (x_tell_r v p (by decide) (by decide) (by decide) (by decide)) (x_tell_r v p (by decide) (by decide) (by decide) (by decide))
theorem x_tell_K {v : zs_V} {p : Int} (h : 0 ≤ v 17 0 ∧ v 17 0 < 150) (hk : 0 ≤ v 18 0 ∧ v 18 0 ≤ 150) : (0 ≤ (x_tell v p) 17 0 ∧ (x_tell v p) 17 0 < 150) ∧ 0 ≤ (x_tell v p) 18 0 ∧ (x_tell v p) 18 0 ≤ 150 := by
  have := x_rb_k h hk
  unfold x_tell x_tellA
  simp only [zs_put_r _ _ _ _ (by decide : 17 ≠ 10), zs_put_r _ _ _ _ (by decide : 18 ≠ 10)]
  omega
theorem x_Vac_T {v u : zs_V} {p : Int} (h : x_Vac v p u) (hT : x_T v) : x_T u := by
  have h8 := h.1 8 (by decide) (by decide) (by decide)
  have h15 := h.1 15 (by decide) (by decide) (by decide)
  refine ⟨h.2.2.1, by have := hT.2.1; have := h.2.2.2.1; omega, fun j h0 h1 => ?_⟩
  have hm := x_L_line (v := u) h0 h1
  rw [h.2.2.2.2] at hm
  obtain ⟨hm1, hm2⟩ := List.mem_filter.mp hm
  have hne : u 9 j ≠ p := by simpa using hm2
  have hE := x_L_E hT hm1
  obtain ⟨⟨e1, e2, e3, e4⟩, e5⟩ := hE
  refine ⟨⟨e1, e2, ?_⟩, ?_⟩
  · rw [h.2.1, if_neg hne, h15]
    exact ⟨e3, e4⟩
  · rw [h8]; exact e5
def x_Br (v : zs_V) (slot x r : Int) (v' : zs_V) : Prop := (x_lf v 200 0 = -1 ∧ r = 0 ∧ v' = v) ∨ (¬ x_lf v 200 0 = -1 ∧ r = 1 ∧ ∃ u, x_Tak v (x_lf v 200 0) slot u ∧ v' = x_write u (x_lf v 200 0) x)
set_option maxHeartbeats 4000000 in
set_option maxRecDepth 100000 in
theorem t_X4_bring {v : zs_V} (hJ : x_J v) (slot x : Int) (hs : 0 ≤ slot ∧ slot < 1000 * v 15 0) (hfu : x_lf v 200 0 = -1 ∨ v 16 0 < 200) : zs_R mX4_bring 0 0 shX (fun r v' => x_Br v slot x r v') v 0 [some (.inr 0), some (.inl (slot)), some (.inl (x)), none] [] := by
  have hz := x_J_z hJ
  have hm2 := hJ.1.2.1
  have hlf := x_lf_c v 200 0 (by omega)
  refine zs_aload_n dX4_bring_0 rfl ?_
  refine zs_getr (j := 1) dX4_bring_1 rfl rfl rfl (by decide) nX4_bring_X4 fX4_bring_19 ?_
  refine zs_eV (As := []) (rest := []) (q := 7) dX4_bring_4 rfl (Nat.le_of_ble_eq_true rfl) rfl rfl YX1_leastFree rfl rfl (Nat.le_of_ble_eq_true rfl) gX4_bring_X1_leastFree (by decide) ⟨Nat.zero_le _, Nat.zero_le _⟩ rfl (t_X1_leastFree (v := v) hz) ?_
  refine zs_istore_n (lv' := [some (.inr 0), some (.inl (slot)), some (.inl (x)), some (.inl (x_lf v 200 0))]) dX4_bring_7 (by decide) rfl ?_
  refine zs_iload_n dX4_bring_8 rfl ?_
  refine zs_iconst (x := -1) dX4_bring_9 (by decide) ?_
  refine zs_icmp_ne (tgt := 15) dX4_bring_10 (by decide) (by omega) (by omega) (fun h10 => ?_) (fun h10 => ?_)
  · have hq := hlf.resolve_left h10
    have htk := hfu.resolve_left h10
    refine zs_aload_n dX4_bring_15 rfl ?_
    refine zs_getr (j := 1) dX4_bring_16 rfl rfl rfl (by decide) nX4_bring_X4 fX4_bring_19 ?_
    refine zs_iload_n dX4_bring_19 rfl ?_
    refine zs_iload_n dX4_bring_20 rfl ?_
    refine zs_callVv (As := [.inl (x_lf v 200 0), .inl (slot)]) (rest := []) (q := 7) dX4_bring_21 rfl (Nat.le_of_ble_eq_true rfl) rfl rfl YX1_take rfl rfl (Nat.le_of_ble_eq_true rfl) gX4_bring_X1_take (by decide) ⟨Nat.zero_le _, Nat.zero_le _⟩ rfl (t_X1_take (v := v) (p := x_lf v 200 0) (slot := slot) (x_tk_J hJ (by omega) hq.2.2 (by omega) htk)) ?_
    intro u hu
    have hS := x_Tak_S hu hJ.1
    have hP := x_Tak_P hu (by omega) hs
    refine zs_aload_n dX4_bring_24 rfl ?_
    refine zs_iload_n dX4_bring_25 rfl ?_
    refine zs_iload_n dX4_bring_26 rfl ?_
    refine zs_eVv (As := [.inl (x_lf v 200 0), .inl (x)]) (rest := []) (q := 0) dX4_bring_27 rfl (Nat.le_of_ble_eq_true rfl) rfl rfl YX4_write rfl rfl (Nat.le_of_ble_eq_true rfl) gX4_bring_X4_write (by decide) ⟨Nat.zero_le _, Nat.zero_le _⟩ rfl (t_X4_write (v := u) (x_lf v 200 0) (x) hS hP) ?_
    refine zs_iconst (x := 1) dX4_bring_30 (by decide) ?_
    refine zs_zret dX4_bring_31 rfl (by first | omega | (split <;> omega)) ?_
    exact Or.inr ⟨h10, rfl, u, hu, rfl⟩
  · refine zs_iconst (x := 0) dX4_bring_13 (by decide) ?_
    refine zs_zret dX4_bring_14 rfl (by first | omega | (split <;> omega)) ?_
    exact Or.inl ⟨h10, rfl, rfl⟩

def x_Put (v : zs_V) (s k m x r : Int) (v' : zs_V) : Prop := (¬ (((0 ≤ s ∧ s < v 15 0) ∧ 0 ≤ k ∧ k < 100) ∧ ¬ v 0 s = 1 ∧ 0 ≤ m ∧ m < 10) ∧ r = -1 ∧ v' = v) ∨ ((((0 ≤ s ∧ s < v 15 0) ∧ 0 ≤ k ∧ k < 100) ∧ ¬ v 0 s = 1 ∧ 0 ≤ m ∧ m < 10) ∧ x_pl v (s * 1000 + k * 10 + m) 0 1 (x_L v) 0 = -1 ∧ ((x_lf v 200 0 = -1 ∧ r = -3 ∧ v' = v) ∨ (¬ x_lf v 200 0 = -1 ∧ r = 0 ∧ ∃ u, x_Tak v (x_lf v 200 0) (s * 1000 + k * 10 + m) u ∧ v' = x_write u (x_lf v 200 0) x))) ∨ ((((0 ≤ s ∧ s < v 15 0) ∧ 0 ≤ k ∧ k < 100) ∧ ¬ v 0 s = 1 ∧ 0 ≤ m ∧ m < 10) ∧ ¬ x_pl v (s * 1000 + k * 10 + m) 0 1 (x_L v) 0 = -1 ∧ ((0 < x_left v (x_pl v (s * 1000 + k * 10 + m) 0 1 (x_L v) 0) ∧ r = 1 ∧ v' = x_write v (x_pl v (s * 1000 + k * 10 + m) 0 1 (x_L v) 0) x) ∨ (¬ 0 < x_left v (x_pl v (s * 1000 + k * 10 + m) 0 1 (x_L v) 0) ∧ r = 0 ∧ v' = x_write (x_tell v (x_pl v (s * 1000 + k * 10 + m) 0 1 (x_L v) 0)) (x_pl v (s * 1000 + k * 10 + m) 0 1 (x_L v) 0) x)))
set_option maxHeartbeats 4000000 in
set_option maxRecDepth 100000 in
theorem t_X4_put {v : zs_V} (hJ : x_J v) (hfu : x_lf v 200 0 = -1 ∨ v 16 0 < 200) (s k m x : Int) (hs : zn s) (hk : zn k) (hm : zn m) (hx : zn x) : zs_R mX4_put 0 0 shX (fun r v' => x_Put v s k m x r v') v 0 [some (.inr 0), some (.inl (s)), some (.inl (k)), some (.inl (m)), some (.inl (x)), none, none, none] [] := by
  have hS := hJ.1
  have hT := hJ.2.1
  have hm2 := hS.2.1
  refine zs_aload_n dX4_put_0 rfl ?_
  refine zs_iload_n dX4_put_1 rfl ?_
  refine zs_iload_n dX4_put_2 rfl ?_
  refine zs_iload_n dX4_put_3 rfl ?_
  refine zs_eV (As := [.inl (s), .inl (k), .inl (m)]) (rest := []) (q := 0) dX4_put_4 rfl (Nat.le_of_ble_eq_true rfl) rfl rfl YX4_isNumberFor rfl rfl (Nat.le_of_ble_eq_true rfl) gX4_put_X4_isNumberFor (by decide) ⟨Nat.zero_le _, Nat.zero_le _⟩ rfl (t_X4_isNumberFor (v := v) hS (s) (k) (m) (by omega) (by omega) (by omega)) ?_
  refine zs_ifz_ne (tgt := 12) dX4_put_7 (by decide)  (fun h7 => ?_) (fun h7 => ?_)
  · refine zs_iload_n dX4_put_12 rfl ?_
    refine zs_iload_n dX4_put_13 rfl ?_
    refine zs_iload_n dX4_put_14 rfl ?_
    refine zs_eS (As := [.inl (s), .inl (k), .inl (m)]) (rest := []) dX4_put_15 rfl (Nat.le_of_ble_eq_true rfl) YX4_slotOf rfl (Nat.le_of_ble_eq_true rfl) gX4_put_X4_slotOf (by decide) ⟨Nat.zero_le _, Nat.zero_le _⟩ rfl (t_X4_slotOf (v := v) (s) (k) (m)) ?_
    refine zs_istore (lv' := [some (.inr 0), some (.inl (s)), some (.inl (k)), some (.inl (m)), some (.inl (x)), some (.inl ((s) * 1000 + (k) * 10 + (m))), none, none]) dX4_put_18 (by decide) rfl ?_
    refine zs_aload_n dX4_put_20 rfl ?_
    refine zs_iload dX4_put_21 rfl ?_
    refine zs_iconst (x := 0) dX4_put_23 (by decide) ?_
    refine zs_iconst (x := 1) dX4_put_24 (by decide) ?_
    refine zs_eV (As := [.inl ((s) * 1000 + (k) * 10 + (m)), .inl (0), .inl (1)]) (rest := []) (q := 0) dX4_put_25 rfl (Nat.le_of_ble_eq_true rfl) rfl rfl YX4_placeOf rfl rfl (Nat.le_of_ble_eq_true rfl) gX4_put_X4_placeOf (by decide) ⟨Nat.zero_le _, Nat.zero_le _⟩ rfl (t_X4_placeOf (v := v) ((s) * 1000 + (k) * 10 + (m)) (0) (1) hS hT (by omega) (by omega) (by omega)) ?_
    have hpc := x_pl_c hT (s * 1000 + k * 10 + m) 0 1
    refine zs_istore (lv' := [some (.inr 0), some (.inl (s)), some (.inl (k)), some (.inl (m)), some (.inl (x)), some (.inl ((s) * 1000 + (k) * 10 + (m))), some (.inl (x_pl v ((s) * 1000 + (k) * 10 + (m)) (0) (1) (x_L v) 0)), none]) dX4_put_28 (by decide) rfl ?_
    refine zs_iload dX4_put_30 rfl ?_
    refine zs_iconst (x := -1) dX4_put_32 (by decide) ?_
    refine zs_icmp_ne (tgt := 54) dX4_put_33 (by decide) (by omega) (by omega) (fun h33 => ?_) (fun h33 => ?_)
    · have hE := hpc.1.resolve_left h33
      have hP := hE.1
      have hF := hJ.2.2.2.1
      have hK := hJ.2.2.2.2.1
      refine zs_aload_n dX4_put_54 rfl ?_
      refine zs_iload dX4_put_55 rfl ?_
      refine zs_eV (As := [.inl (x_pl v ((s) * 1000 + (k) * 10 + (m)) (0) (1) (x_L v) 0)]) (rest := []) (q := 0) dX4_put_57 rfl (Nat.le_of_ble_eq_true rfl) rfl rfl YX4_isShown rfl rfl (Nat.le_of_ble_eq_true rfl) gX4_put_X4_isShown (by decide) ⟨Nat.zero_le _, Nat.zero_le _⟩ rfl (t_X4_isShown (v := v) (x_pl v ((s) * 1000 + (k) * 10 + (m)) (0) (1) (x_L v) 0) hS hE) ?_
      refine zs_istore (lv' := [some (.inr 0), some (.inl (s)), some (.inl (k)), some (.inl (m)), some (.inl (x)), some (.inl ((s) * 1000 + (k) * 10 + (m))), some (.inl (x_pl v ((s) * 1000 + (k) * 10 + (m)) (0) (1) (x_L v) 0)), some (.inl (zb (0 < x_left v (x_pl v ((s) * 1000 + (k) * 10 + (m)) (0) (1) (x_L v) 0))))]) dX4_put_60 (by decide) rfl ?_
      refine zs_iload dX4_put_62 rfl ?_
      refine zs_ifz_ne (tgt := 73) dX4_put_64 (by decide)  (fun h64 => ?_) (fun h64 => ?_)
      · refine zs_aload_n dX4_put_73 rfl ?_
        refine zs_iload dX4_put_74 rfl ?_
        refine zs_iload dX4_put_76 rfl ?_
        refine zs_eVv (As := [.inl (x_pl v ((s) * 1000 + (k) * 10 + (m)) (0) (1) (x_L v) 0), .inl (x)]) (rest := []) (q := 0) dX4_put_78 rfl (Nat.le_of_ble_eq_true rfl) rfl rfl YX4_write rfl rfl (Nat.le_of_ble_eq_true rfl) gX4_put_X4_write (by decide) ⟨Nat.zero_le _, Nat.zero_le _⟩ rfl (t_X4_write (v := v) (x_pl v ((s) * 1000 + (k) * 10 + (m)) (0) (1) (x_L v) 0) (x) hS hP) ?_
        refine zs_iload dX4_put_81 rfl ?_
        refine zs_ifz_eq (tgt := 90) dX4_put_83 (by decide)  (fun h83 => ?_) (fun h83 => ?_)
        · exact absurd h64 h83
        · refine zs_iconst (x := 1) dX4_put_86 (by decide) ?_
          refine zs_goto (tgt := 91) dX4_put_87 (by decide) ?_
          refine zs_iret dX4_put_91 rfl ?_
          exact Or.inr (Or.inr ⟨h7, h33, Or.inl ⟨h64, rfl, rfl⟩⟩)
      · refine zs_aload_n dX4_put_67 rfl ?_
        refine zs_iload dX4_put_68 rfl ?_
        refine zs_eVv (As := [.inl (x_pl v ((s) * 1000 + (k) * 10 + (m)) (0) (1) (x_L v) 0)]) (rest := []) (q := 0) dX4_put_70 rfl (Nat.le_of_ble_eq_true rfl) rfl rfl YX4_tell rfl rfl (Nat.le_of_ble_eq_true rfl) gX4_put_X4_tell (by decide) ⟨Nat.zero_le _, Nat.zero_le _⟩ rfl (t_X4_tell (v := v) (x_pl v ((s) * 1000 + (k) * 10 + (m)) (0) (1) (x_L v) 0) hS hP hF hK) ?_
        have hS := x_tell_S (p := x_pl v (s * 1000 + k * 10 + m) 0 1 (x_L v) 0) hS
        have hP := x_tell_P (p := x_pl v (s * 1000 + k * 10 + m) 0 1 (x_L v) 0) hP
        refine zs_aload_n dX4_put_73 rfl ?_
        refine zs_iload dX4_put_74 rfl ?_
        refine zs_iload dX4_put_76 rfl ?_
        refine zs_eVv (As := [.inl (x_pl v ((s) * 1000 + (k) * 10 + (m)) (0) (1) (x_L v) 0), .inl (x)]) (rest := []) (q := 0) dX4_put_78 rfl (Nat.le_of_ble_eq_true rfl) rfl rfl YX4_write rfl rfl (Nat.le_of_ble_eq_true rfl) gX4_put_X4_write (by decide) ⟨Nat.zero_le _, Nat.zero_le _⟩ rfl (t_X4_write (v := (x_tell v (x_pl v ((s) * 1000 + (k) * 10 + (m)) (0) (1) (x_L v) 0))) (x_pl v ((s) * 1000 + (k) * 10 + (m)) (0) (1) (x_L v) 0) (x) hS hP) ?_
        refine zs_iload dX4_put_81 rfl ?_
        refine zs_ifz_eq (tgt := 90) dX4_put_83 (by decide)  (fun h83 => ?_) (fun h83 => ?_)
        · refine zs_iconst (x := 0) dX4_put_90 (by decide) ?_
          refine zs_iret dX4_put_91 rfl ?_
          exact Or.inr (Or.inr ⟨h7, h33, Or.inr ⟨h64, rfl, rfl⟩⟩)
        · exact absurd h83 h64
    · refine zs_aload_n dX4_put_36 rfl ?_
      refine zs_iload dX4_put_37 rfl ?_
      refine zs_iload dX4_put_39 rfl ?_
      refine zs_callV (As := [.inl ((s) * 1000 + (k) * 10 + (m)), .inl (x)]) (rest := []) (q := 0) dX4_put_41 rfl (Nat.le_of_ble_eq_true rfl) rfl rfl YX4_bring rfl rfl (Nat.le_of_ble_eq_true rfl) gX4_put_X4_bring (by decide) ⟨Nat.zero_le _, Nat.zero_le _⟩ rfl (t_X4_bring (v := v) hJ ((s) * 1000 + (k) * 10 + (m)) (x) (by omega) hfu) ?_
      intro r u hbr
      have hr01 : r = 0 ∨ r = 1 := by rcases hbr with ⟨-, b, -⟩ | ⟨-, b, -⟩ <;> omega
      refine zs_if_eq (tgt := 51) dX4_put_44 (by decide) (by omega) (fun h44 => ?_) (fun h44 => ?_)
      · refine zs_bipush (x := -3) dX4_put_51 (by decide) ?_
        refine zs_iret dX4_put_53 rfl ?_
        refine Or.inr (Or.inl ⟨h7, h33, ?_⟩)
        rcases hbr with ⟨b1, b2, b3⟩ | ⟨b1, b2, b3⟩
        · exact Or.inl ⟨b1, rfl, b3⟩
        · exfalso; omega
      · refine zs_iconst (x := 0) dX4_put_47 (by decide) ?_
        refine zs_goto (tgt := 53) dX4_put_48 (by decide) ?_
        refine zs_iret dX4_put_53 rfl ?_
        refine Or.inr (Or.inl ⟨h7, h33, ?_⟩)
        rcases hbr with ⟨b1, b2, b3⟩ | ⟨b1, b2, b3⟩
        · exfalso; omega
        · exact Or.inr ⟨b1, rfl, b3⟩
  · refine zs_iconst (x := -1) dX4_put_10 (by decide) ?_
    refine zs_iret dX4_put_11 rfl ?_
    exact Or.inl ⟨h7, rfl, rfl⟩

def x_Rem (v : zs_V) (s k m r : Int) (v' : zs_V) : Prop := (¬ (((0 ≤ s ∧ s < v 15 0) ∧ 0 ≤ k ∧ k < 100) ∧ ¬ v 0 s = 1 ∧ 0 ≤ m ∧ m < 10) ∧ r = -1 ∧ v' = v) ∨ ((((0 ≤ s ∧ s < v 15 0) ∧ 0 ≤ k ∧ k < 100) ∧ ¬ v 0 s = 1 ∧ 0 ≤ m ∧ m < 10) ∧ x_pl v (s * 1000 + k * 10 + m) 0 1 (x_L v) 0 = -1 ∧ r = -2 ∧ v' = v) ∨ ((((0 ≤ s ∧ s < v 15 0) ∧ 0 ≤ k ∧ k < 100) ∧ ¬ v 0 s = 1 ∧ 0 ≤ m ∧ m < 10) ∧ ¬ x_pl v (s * 1000 + k * 10 + m) 0 1 (x_L v) 0 = -1 ∧ r = zb (0 < x_left v (x_pl v (s * 1000 + k * 10 + m) 0 1 (x_L v) 0)) ∧ x_Vac v (x_pl v (s * 1000 + k * 10 + m) 0 1 (x_L v) 0) v')
set_option maxHeartbeats 4000000 in
set_option maxRecDepth 100000 in
theorem t_X4_remove {v : zs_V} (hJ : x_J v) (s k m : Int) (hs : zn s) (hk : zn k) (hm : zn m) : zs_R mX4_remove 0 0 shX (fun r v' => x_Rem v s k m r v') v 0 [some (.inr 0), some (.inl (s)), some (.inl (k)), some (.inl (m)), none, none] [] := by
  have hS := hJ.1
  have hT := hJ.2.1
  have hm2 := hS.2.1
  refine zs_aload_n dX4_remove_0 rfl ?_
  refine zs_iload_n dX4_remove_1 rfl ?_
  refine zs_iload_n dX4_remove_2 rfl ?_
  refine zs_iload_n dX4_remove_3 rfl ?_
  refine zs_eV (As := [.inl (s), .inl (k), .inl (m)]) (rest := []) (q := 0) dX4_remove_4 rfl (Nat.le_of_ble_eq_true rfl) rfl rfl YX4_isNumberFor rfl rfl (Nat.le_of_ble_eq_true rfl) gX4_remove_X4_isNumberFor (by decide) ⟨Nat.zero_le _, Nat.zero_le _⟩ rfl (t_X4_isNumberFor (v := v) hS (s) (k) (m) (by omega) (by omega) (by omega)) ?_
  refine zs_ifz_ne (tgt := 12) dX4_remove_7 (by decide)  (fun h7 => ?_) (fun h7 => ?_)
  · refine zs_aload_n dX4_remove_12 rfl ?_
    refine zs_iload_n dX4_remove_13 rfl ?_
    refine zs_iload_n dX4_remove_14 rfl ?_
    refine zs_iload_n dX4_remove_15 rfl ?_
    refine zs_eS (As := [.inl (s), .inl (k), .inl (m)]) (rest := [.inr 0]) dX4_remove_16 rfl (Nat.le_of_ble_eq_true rfl) YX4_slotOf rfl (Nat.le_of_ble_eq_true rfl) gX4_remove_X4_slotOf (by decide) ⟨Nat.zero_le _, Nat.zero_le _⟩ rfl (t_X4_slotOf (v := v) (s) (k) (m)) ?_
    refine zs_iconst (x := 0) dX4_remove_19 (by decide) ?_
    refine zs_iconst (x := 1) dX4_remove_20 (by decide) ?_
    refine zs_eV (As := [.inl ((s) * 1000 + (k) * 10 + (m)), .inl (0), .inl (1)]) (rest := []) (q := 0) dX4_remove_21 rfl (Nat.le_of_ble_eq_true rfl) rfl rfl YX4_placeOf rfl rfl (Nat.le_of_ble_eq_true rfl) gX4_remove_X4_placeOf (by decide) ⟨Nat.zero_le _, Nat.zero_le _⟩ rfl (t_X4_placeOf (v := v) ((s) * 1000 + (k) * 10 + (m)) (0) (1) hS hT (by omega) (by omega) (by omega)) ?_
    have hpc := x_pl_c hT (s * 1000 + k * 10 + m) 0 1
    refine zs_istore (lv' := [some (.inr 0), some (.inl (s)), some (.inl (k)), some (.inl (m)), some (.inl (x_pl v ((s) * 1000 + (k) * 10 + (m)) (0) (1) (x_L v) 0)), none]) dX4_remove_24 (by decide) rfl ?_
    refine zs_iload dX4_remove_26 rfl ?_
    refine zs_iconst (x := -1) dX4_remove_28 (by decide) ?_
    refine zs_icmp_ne (tgt := 35) dX4_remove_29 (by decide) (by omega) (by omega) (fun h29 => ?_) (fun h29 => ?_)
    · have hE := hpc.1.resolve_left h29
      refine zs_aload_n dX4_remove_35 rfl ?_
      refine zs_iload dX4_remove_36 rfl ?_
      refine zs_eV (As := [.inl (x_pl v ((s) * 1000 + (k) * 10 + (m)) (0) (1) (x_L v) 0)]) (rest := []) (q := 0) dX4_remove_38 rfl (Nat.le_of_ble_eq_true rfl) rfl rfl YX4_isShown rfl rfl (Nat.le_of_ble_eq_true rfl) gX4_remove_X4_isShown (by decide) ⟨Nat.zero_le _, Nat.zero_le _⟩ rfl (t_X4_isShown (v := v) (x_pl v ((s) * 1000 + (k) * 10 + (m)) (0) (1) (x_L v) 0) hS hE) ?_
      refine zs_istore (lv' := [some (.inr 0), some (.inl (s)), some (.inl (k)), some (.inl (m)), some (.inl (x_pl v ((s) * 1000 + (k) * 10 + (m)) (0) (1) (x_L v) 0)), some (.inl (zb (0 < x_left v (x_pl v ((s) * 1000 + (k) * 10 + (m)) (0) (1) (x_L v) 0))))]) dX4_remove_41 (by decide) rfl ?_
      refine zs_aload_n dX4_remove_43 rfl ?_
      refine zs_getr (j := 1) dX4_remove_44 rfl rfl rfl (by decide) nX4_remove_X4 fX4_remove_19 ?_
      refine zs_iload dX4_remove_47 rfl ?_
      refine zs_callVv (As := [.inl (x_pl v ((s) * 1000 + (k) * 10 + (m)) (0) (1) (x_L v) 0)]) (rest := []) (q := 7) dX4_remove_49 rfl (Nat.le_of_ble_eq_true rfl) rfl rfl YX1_vacate rfl rfl (Nat.le_of_ble_eq_true rfl) gX4_remove_X1_vacate (by decide) ⟨Nat.zero_le _, Nat.zero_le _⟩ rfl (t_X1_vacate (v := v) (p := x_pl v ((s) * 1000 + (k) * 10 + (m)) (0) (1) (x_L v) 0) (by omega) ⟨hT.1, hT.2.1⟩ (x_T_z hT)) ?_
      intro u hu
      refine zs_iload dX4_remove_52 rfl ?_
      refine zs_ifz_eq (tgt := 61) dX4_remove_54 (by decide)  (fun h54 => ?_) (fun h54 => ?_)
      · refine zs_iconst (x := 0) dX4_remove_61 (by decide) ?_
        refine zs_iret dX4_remove_62 rfl ?_
        exact Or.inr (Or.inr ⟨h7, h29, (zb_n h54).symm, hu⟩)
      · refine zs_iconst (x := 1) dX4_remove_57 (by decide) ?_
        refine zs_goto (tgt := 62) dX4_remove_58 (by decide) ?_
        refine zs_iret dX4_remove_62 rfl ?_
        exact Or.inr (Or.inr ⟨h7, h29, (zb_p h54).symm, hu⟩)
    · refine zs_bipush (x := -2) dX4_remove_32 (by decide) ?_
      refine zs_iret dX4_remove_34 rfl ?_
      exact Or.inr (Or.inl ⟨h7, h29, rfl, rfl⟩)
  · refine zs_iconst (x := -1) dX4_remove_10 (by decide) ?_
    refine zs_iret dX4_remove_11 rfl ?_
    exact Or.inl ⟨h7, rfl, rfl⟩

theorem x_write_r (v : zs_V) (p x : Int) {r : Nat} (h6 : r ≠ 6) (h7 : r ≠ 7) (h8 : r ≠ 8) : x_write v p x r = v r := by
  unfold x_write x_stamp
  rw [zs_put_r _ _ _ _ h8, zs_put_r _ _ _ _ h7, zs_put_r _ _ _ _ h6]
theorem x_write_e (v : zs_V) (p x : Int) (q : Int) : (x_write v p x) 8 q = if q = p then v 4 (v 1 (v 5 p / 1000)) + v 2 (v 5 p / 1000) else v 8 q := by
  unfold x_write x_stamp
  rw [zs_put_e]
  rfl
theorem x_Br_T {v v' : zs_V} {slot x r : Int} (hJ : x_J v) (hs : 0 ≤ slot ∧ slot < 1000 * v 15 0) (h : x_Br v slot x r v') (hfu : x_lf v 200 0 = -1 ∨ v 16 0 < 200) : x_S v' ∧ x_T v' := by
  rcases h with ⟨-, -, rfl⟩ | ⟨h1, -, u, hu, rfl⟩
  · exact ⟨hJ.1, hJ.2.1⟩
  · have hq := (x_lf_c v 200 0 (by omega)).resolve_left h1
    have htk := hfu.resolve_left h1
    have hS := x_Tak_S hu hJ.1
    have hP := x_Tak_P hu (by omega) hs
    have hf := x_P_f hS hP
    generalize x_lf v 200 0 = p at *
    have hSw : x_S (x_write u p x) := x_S_of (x_write_r u p x (by decide) (by decide) (by decide)) (x_write_r u p x (by decide) (by decide) (by decide)) (x_write_r u p x (by decide) (by decide) (by decide)) (x_write_r u p x (by decide) (by decide) (by decide)) (x_write_r u p x (by decide) (by decide) (by decide)) (x_write_r u p x (by decide) (by decide) (by decide)) hS
    have e5 := x_write_r u p x (r := 5) (by decide) (by decide) (by decide)
    have e9 := x_write_r u p x (r := 9) (by decide) (by decide) (by decide)
    have e15 := x_write_r u p x (r := 15) (by decide) (by decide) (by decide)
    have e16 := x_write_r u p x (r := 16) (by decide) (by decide) (by decide)
    obtain ⟨t1, t2, t3, A, B, tL, tL', -, -⟩ := hu
    refine ⟨hSw, by rw [e16, t3]; have := hJ.2.1.1; omega, by rw [e16, t3]; omega, fun j h0 hj => ?_⟩
    have hm := x_L_line (v := x_write u p x) h0 hj
    rw [x_L_of e9 e16, tL'] at hm
    generalize (x_write u p x) 9 j = q at hm
    by_cases hqp : q = p
    · rw [hqp]
      refine ⟨x_P_of e5 e15 hP, ?_⟩
      rw [x_write_e, if_pos rfl]
      omega
    · have hm2 : q ∈ x_L v := by
        rw [tL]
        simp only [List.mem_append, List.mem_cons] at hm ⊢
        rcases hm with hm | hm | hm
        · exact Or.inl hm
        · exact absurd hm hqp
        · exact Or.inr hm
      obtain ⟨⟨g1, g2, g3, g4⟩, g5⟩ := x_L_E hJ.2.1 hm2
      refine ⟨⟨g1, g2, ?_⟩, ?_⟩
      · rw [e5, e15, t2 q, if_neg hqp, t1 15 (by decide) (by decide) (by decide)]
        exact ⟨g3, g4⟩
      · rw [x_write_e, if_neg hqp, t1 8 (by decide) (by decide) (by decide)]
        exact g5
def x_Add (v : zs_V) (s k x r : Int) (v' : zs_V) : Prop := (¬ (((0 ≤ s ∧ s < v 15 0) ∧ 0 ≤ k ∧ k < 100) ∧ v 0 s = 1) ∧ r = -1 ∧ v' = v) ∨ ((((0 ≤ s ∧ s < v 15 0) ∧ 0 ≤ k ∧ k < 100) ∧ v 0 s = 1) ∧ ((x_lf v 200 0 = -1 ∧ r = -3 ∧ v' = v) ∨ (¬ x_lf v 200 0 = -1 ∧ r = x_hm v' s k 1 (x_L v') ∧ ∃ u, x_Tak v (x_lf v 200 0) (s * 1000 + k * 10 + 0) u ∧ v' = x_write u (x_lf v 200 0) x)))
set_option maxHeartbeats 4000000 in
set_option maxRecDepth 100000 in
theorem t_X4_add {v : zs_V} (hJ : x_J v) (hfu : x_lf v 200 0 = -1 ∨ v 16 0 < 200) (s k x : Int) (hs : zn s) (hk : zn k) (hx : zn x) : zs_R mX4_add 0 0 shX (fun r v' => x_Add v s k x r v') v 0 [some (.inr 0), some (.inl (s)), some (.inl (k)), some (.inl (x))] [] := by
  have hS := hJ.1
  have hT := hJ.2.1
  have hm2 := hS.2.1
  refine zs_aload_n dX4_add_0 rfl ?_
  refine zs_iload_n dX4_add_1 rfl ?_
  refine zs_iload_n dX4_add_2 rfl ?_
  refine zs_eV (As := [.inl (s), .inl (k)]) (rest := []) (q := 0) dX4_add_3 rfl (Nat.le_of_ble_eq_true rfl) rfl rfl YX4_isListFor rfl rfl (Nat.le_of_ble_eq_true rfl) gX4_add_X4_isListFor (by decide) ⟨Nat.zero_le _, Nat.zero_le _⟩ rfl (t_X4_isListFor (v := v) hS (s) (k) (by omega) (by omega)) ?_
  refine zs_ifz_ne (tgt := 11) dX4_add_6 (by decide)  (fun h6 => ?_) (fun h6 => ?_)
  · refine zs_aload_n dX4_add_11 rfl ?_
    refine zs_iload_n dX4_add_12 rfl ?_
    refine zs_iload_n dX4_add_13 rfl ?_
    refine zs_iconst (x := 0) dX4_add_14 (by decide) ?_
    refine zs_eS (As := [.inl (s), .inl (k), .inl (0)]) (rest := [.inr 0]) dX4_add_15 rfl (Nat.le_of_ble_eq_true rfl) YX4_slotOf rfl (Nat.le_of_ble_eq_true rfl) gX4_add_X4_slotOf (by decide) ⟨Nat.zero_le _, Nat.zero_le _⟩ rfl (t_X4_slotOf (v := v) (s) (k) (0)) ?_
    refine zs_iload_n dX4_add_18 rfl ?_
    refine zs_callV (As := [.inl ((s) * 1000 + (k) * 10 + (0)), .inl (x)]) (rest := []) (q := 0) dX4_add_19 rfl (Nat.le_of_ble_eq_true rfl) rfl rfl YX4_bring rfl rfl (Nat.le_of_ble_eq_true rfl) gX4_add_X4_bring (by decide) ⟨Nat.zero_le _, Nat.zero_le _⟩ rfl (t_X4_bring (v := v) hJ ((s) * 1000 + (k) * 10 + (0)) (x) (by omega) hfu) ?_
    intro r u hbr
    have hr01 : r = 0 ∨ r = 1 := by rcases hbr with ⟨-, b, -⟩ | ⟨-, b, -⟩ <;> omega
    refine zs_if_ne (tgt := 28) dX4_add_22 (by decide) (by omega) (fun h22 => ?_) (fun h22 => ?_)
    · obtain ⟨hS, hT⟩ := x_Br_T hJ (by omega) hbr hfu
      refine zs_aload_n dX4_add_28 rfl ?_
      refine zs_iload_n dX4_add_29 rfl ?_
      refine zs_iload_n dX4_add_30 rfl ?_
      refine zs_iconst (x := 1) dX4_add_31 (by decide) ?_
      refine zs_eV (As := [.inl (s), .inl (k), .inl (1)]) (rest := []) (q := 0) dX4_add_32 rfl (Nat.le_of_ble_eq_true rfl) rfl rfl YX4_howMany rfl rfl (Nat.le_of_ble_eq_true rfl) gX4_add_X4_howMany (by decide) ⟨Nat.zero_le _, Nat.zero_le _⟩ rfl (t_X4_howMany (v := u) (s) (k) (1) hS hT (by omega) (by omega) (by omega)) ?_
      refine zs_iret dX4_add_35 rfl ?_
      refine Or.inr ⟨h6, ?_⟩
      rcases hbr with ⟨b1, b2, b3⟩ | ⟨b1, b2, b3⟩
      · exfalso; omega
      · exact Or.inr ⟨b1, rfl, b3⟩
    · refine zs_bipush (x := -3) dX4_add_25 (by decide) ?_
      refine zs_iret dX4_add_27 rfl ?_
      refine Or.inr ⟨h6, ?_⟩
      rcases hbr with ⟨b1, b2, b3⟩ | ⟨b1, b2, b3⟩
      · exact Or.inl ⟨b1, rfl, b3⟩
      · exfalso; omega
  · refine zs_iconst (x := -1) dX4_add_9 (by decide) ?_
    refine zs_iret dX4_add_10 rfl ?_
    exact Or.inl ⟨h6, rfl, rfl⟩
end
section

def x_clI (v : zs_V) (s k : Int) (u : zs_V) (p : Int) : Prop := (∀ r, r ≠ 5 → r ≠ 9 → r ≠ 16 → u r = v r) ∧ (∀ q : Int, 0 ≤ q → q < 200 → u 5 q = if q < p ∧ ¬ v 5 q = -1 ∧ v 5 q / 1000 = s ∧ v 5 q / 10 % 100 = k then -1 else v 5 q) ∧ 0 ≤ u 16 0 ∧ u 16 0 ≤ v 16 0 ∧ x_L u = (x_L v).filter (fun q => !decide (q < p ∧ v 5 q / 1000 = s ∧ v 5 q / 10 % 100 = k))
def x_Clr (v : zs_V) (s k : Int) (v' : zs_V) : Prop := (∀ r, r ≠ 5 → r ≠ 9 → r ≠ 16 → v' r = v r) ∧ (∀ q : Int, 0 ≤ q → q < 200 → v' 5 q = if ¬ v 5 q = -1 ∧ v 5 q / 1000 = s ∧ v 5 q / 10 % 100 = k then -1 else v 5 q) ∧ 0 ≤ v' 16 0 ∧ v' 16 0 ≤ v 16 0 ∧ x_L v' = (x_L v).filter (fun q => !decide (v 5 q / 1000 = s ∧ v 5 q / 10 % 100 = k))
theorem x_cl_0 {v : zs_V} (s k : Int) (hT : x_T v) (h : 0 ≤ v 16 0) : x_clI v s k v 0 := by
  refine ⟨fun r _ _ _ => rfl, fun q h0 h1 => by rw [if_neg (by omega)], h, Int.le_refl _, ?_⟩
  symm
  apply List.filter_eq_self.mpr
  intro q hq
  have := (x_L_E hT hq).1.1
  simp only [show ¬ q < 0 by omega, false_and, decide_false, Bool.not_false]
theorem x_cl_skip {v u : zs_V} {s k p : Int} (hT : x_T v) (hI : x_clI v s k u p) (h : v 5 p = -1 ∨ ¬ (v 5 p / 1000 = s ∧ v 5 p / 10 % 100 = k)) : x_clI v s k u (p + 1) := by
  obtain ⟨h1, h2, h3, h4, h5⟩ := hI
  refine ⟨h1, fun q h0 hq => ?_, h3, h4, ?_⟩
  · rw [h2 q h0 hq]
    by_cases e : q = p
    · subst e
      rw [if_neg (by omega), if_neg (fun z => h.elim (fun a => z.2.1 a) (fun a => a z.2.2))]
    · by_cases c : q < p
      · simp only [c, show q < p + 1 by omega]
      · simp only [c, show ¬ q < p + 1 by omega]
  · rw [h5]
    apply List.filter_congr
    intro q hq
    by_cases e : q = p
    · subst e
      have hE := (x_L_E hT hq).1.2.2.1
      have hn : ¬ (v 5 q / 1000 = s ∧ v 5 q / 10 % 100 = k) := h.resolve_left (by omega)
      simp [hn]
    · by_cases c : q < p
      · simp only [c, show q < p + 1 by omega]
      · simp only [c, show ¬ q < p + 1 by omega]
theorem x_cl_vac {v u u' : zs_V} {s k p : Int} (hI : x_clI v s k u p) (hV : x_Vac u p u') (hn : ¬ v 5 p = -1) (hk : v 5 p / 1000 = s ∧ v 5 p / 10 % 100 = k) : x_clI v s k u' (p + 1) := by
  obtain ⟨h1, h2, h3, h4, h5⟩ := hI
  obtain ⟨g1, g2, g3, g4, g5⟩ := hV
  refine ⟨fun r a b c => (g1 r a b c).trans (h1 r a b c), fun q h0 hq => ?_, g3, by omega, ?_⟩
  · rw [g2 q, h2 q h0 hq]
    by_cases e : q = p
    · subst e
      rw [if_pos rfl, if_pos ⟨by omega, hn, hk⟩]
    · rw [if_neg e]
      by_cases c : q < p
      · simp only [c, show q < p + 1 by omega]
      · simp only [c, show ¬ q < p + 1 by omega]
  · rw [g5, h5, List.filter_filter]
    apply List.filter_congr
    intro q hq
    by_cases e : q = p
    · subst e
      simp [hk]
      omega
    · by_cases c : q < p
      · simp [e, c, show q < p + 1 by omega]
      · simp [e, c, show ¬ q < p + 1 by omega]
theorem x_cl_end {v u : zs_V} {s k : Int} (hT : x_T v) (hI : x_clI v s k u 200) : x_Clr v s k u := by
  obtain ⟨h1, h2, h3, h4, h5⟩ := hI
  refine ⟨h1, fun q h0 hq => ?_, h3, h4, ?_⟩
  · rw [h2 q h0 hq]
    simp only [hq, true_and]
  · rw [h5]
    apply List.filter_congr
    intro q hq
    have := (x_L_E hT hq).1.2.1
    simp only [this, true_and]
def x_Cle (v : zs_V) (s k r : Int) (v' : zs_V) : Prop := (¬ ((0 ≤ s ∧ s < v 15 0) ∧ 0 ≤ k ∧ k < 100) ∧ r = -1 ∧ v' = v) ∨ (((0 ≤ s ∧ s < v 15 0) ∧ 0 ≤ k ∧ k < 100) ∧ r = x_hm v s k 1 (x_L v) ∧ x_Clr v s k v')
set_option maxHeartbeats 4000000 in
set_option maxRecDepth 100000 in
theorem l_X4_clear {v : zs_V} {s k c : Int} (hJ : x_J v) (hs : zn s) (hk : zn k) : ∀ (n : Nat) (u : zs_V) (p : Int), 0 ≤ p → p + n = 200 → x_clI v s k u p → zs_R mX4_clear 0 0 shX (fun r v' => r = c ∧ x_Clr v s k v') u 22 [some (.inr 0), some (.inl (s)), some (.inl (k)), some (.inl (c)), some (.inl (p))] [] := by
  intro n
  induction n using Nat.strongRecOn with
  | ind n ih =>
    intro u p h0 hn hI
    refine zs_iload dX4_clear_22 rfl ?_
    refine zs_sipush (x := 200) dX4_clear_24 (by decide) ?_
    refine zs_icmp_ge (tgt := 68) dX4_clear_27 (by decide) (by omega) (by omega) (fun h27 => ?_) (fun h27 => ?_)
    · refine zs_iload_n dX4_clear_68 rfl ?_
      refine zs_iret dX4_clear_69 rfl ?_
      obtain rfl : p = 200 := by omega
      exact ⟨rfl, x_cl_end hJ.2.1 hI⟩
    · have e1 : u 5 p = v 5 p := by rw [hI.2.1 p (by omega) (by omega), if_neg (by omega)]
      have hzp := x_J_z hJ p (by omega) (by omega)
      refine zs_aload_n dX4_clear_30 rfl ?_
      refine zs_getr (j := 1) dX4_clear_31 rfl rfl rfl (by decide) nX4_clear_X4 fX4_clear_19 ?_
      refine zs_iload dX4_clear_34 rfl ?_
      refine zs_eV (As := [.inl (p)]) (rest := []) (q := 7) dX4_clear_36 rfl (Nat.le_of_ble_eq_true rfl) rfl rfl YX1_isTaken rfl rfl (Nat.le_of_ble_eq_true rfl) gX4_clear_X1_isTaken (by decide) ⟨Nat.zero_le _, Nat.zero_le _⟩ rfl (t_X1_isTaken (v := u) (p) (by omega) (by omega)) ?_
      refine zs_ifz_eq (tgt := 62) dX4_clear_39 (by decide)  (fun h39 => ?_) (fun h39 => ?_)
      · refine zs_iinc (lv' := [some (.inr 0), some (.inl (s)), some (.inl (k)), some (.inl (c)), some (.inl (p + 1))]) dX4_clear_62 rfl (by decide) rfl ?_
        refine zs_goto (tgt := 22) dX4_clear_65 (by decide) ?_
        exact ih (n - 1) (by omega) u (p + 1) (by omega) (by omega) (x_cl_skip hJ.2.1 hI (Or.inl (by omega)))
      · have hm2 := hJ.1.2.1
        have hEp : 0 ≤ v 5 p ∧ v 5 p < 1000 * v 15 0 := (hJ.2.2.1 p (by omega) (by omega)).elim (fun a => absurd (e1.trans a) h39) (fun a => a.1.2.2)
        refine zs_aload_n dX4_clear_42 rfl ?_
        refine zs_iload dX4_clear_43 rfl ?_
        refine zs_iload_n dX4_clear_45 rfl ?_
        refine zs_iload_n dX4_clear_46 rfl ?_
        refine zs_eV (As := [.inl (p), .inl (s), .inl (k)]) (rest := []) (q := 0) dX4_clear_47 rfl (Nat.le_of_ble_eq_true rfl) rfl rfl YX4_isOfKey rfl rfl (Nat.le_of_ble_eq_true rfl) gX4_clear_X4_isOfKey (by decide) ⟨Nat.zero_le _, Nat.zero_le _⟩ rfl (t_X4_isOfKey (v := u) (p) (s) (k) (by omega) (by omega) (by omega) (by omega)) ?_
        refine zs_ifz_eq (tgt := 62) dX4_clear_50 (by decide)  (fun h50 => ?_) (fun h50 => ?_)
        · refine zs_iinc (lv' := [some (.inr 0), some (.inl (s)), some (.inl (k)), some (.inl (c)), some (.inl (p + 1))]) dX4_clear_62 rfl (by decide) rfl ?_
          refine zs_goto (tgt := 22) dX4_clear_65 (by decide) ?_
          exact ih (n - 1) (by omega) u (p + 1) (by omega) (by omega) (x_cl_skip hJ.2.1 hI (Or.inr (by rw [← e1]; exact h50)))
        · refine zs_aload_n dX4_clear_53 rfl ?_
          refine zs_getr (j := 1) dX4_clear_54 rfl rfl rfl (by decide) nX4_clear_X4 fX4_clear_19 ?_
          refine zs_iload dX4_clear_57 rfl ?_
          refine zs_callVv (As := [.inl (p)]) (rest := []) (q := 7) dX4_clear_59 rfl (Nat.le_of_ble_eq_true rfl) rfl rfl YX1_vacate rfl rfl (Nat.le_of_ble_eq_true rfl) gX4_clear_X1_vacate (by decide) ⟨Nat.zero_le _, Nat.zero_le _⟩ rfl (t_X1_vacate (v := u) (p := p) (by omega) (by have := hI.2.2.1; have := hI.2.2.2.1; have := hJ.2.1.2.1; omega) (fun j h1 h2 => by have hm := x_L_line (v := u) h1 h2; rw [hI.2.2.2.2] at hm; have hE := x_L_E hJ.2.1 (List.mem_filter.mp hm).1; have q1 := hE.1.1; have q2 := hE.1.2.1; omega)) ?_
          intro u' hu
          refine zs_iinc (lv' := [some (.inr 0), some (.inl (s)), some (.inl (k)), some (.inl (c)), some (.inl (p + 1))]) dX4_clear_62 rfl (by decide) rfl ?_
          refine zs_goto (tgt := 22) dX4_clear_65 (by decide) ?_
          exact ih (n - 1) (by omega) u' (p + 1) (by omega) (by omega) (x_cl_vac hI hu (by omega) (by rw [← e1]; exact h50))
set_option maxHeartbeats 4000000 in
set_option maxRecDepth 100000 in
theorem t_X4_clear {v : zs_V} (hJ : x_J v) (s k : Int) (hs : zn s) (hk : zn k) : zs_R mX4_clear 0 0 shX (fun r v' => x_Cle v s k r v') v 0 [some (.inr 0), some (.inl (s)), some (.inl (k)), none, none] [] := by
  have hS := hJ.1
  have hT := hJ.2.1
  have hm2 := hS.2.1
  have hm1 := hS.1
  refine zs_aload_n dX4_clear_0 rfl ?_
  refine zs_iload_n dX4_clear_1 rfl ?_
  refine zs_iload_n dX4_clear_2 rfl ?_
  refine zs_eV (As := [.inl (s), .inl (k)]) (rest := []) (q := 0) dX4_clear_3 rfl (Nat.le_of_ble_eq_true rfl) rfl rfl YX4_isStateAndKey rfl rfl (Nat.le_of_ble_eq_true rfl) gX4_clear_X4_isStateAndKey (by decide) ⟨Nat.zero_le _, Nat.zero_le _⟩ rfl (t_X4_isStateAndKey (v := v) (s) (k) (by omega) (by omega) (by omega)) ?_
  refine zs_ifz_ne (tgt := 11) dX4_clear_6 (by decide)  (fun h6 => ?_) (fun h6 => ?_)
  · refine zs_aload_n dX4_clear_11 rfl ?_
    refine zs_iload_n dX4_clear_12 rfl ?_
    refine zs_iload_n dX4_clear_13 rfl ?_
    refine zs_iconst (x := 1) dX4_clear_14 (by decide) ?_
    refine zs_eV (As := [.inl (s), .inl (k), .inl (1)]) (rest := []) (q := 0) dX4_clear_15 rfl (Nat.le_of_ble_eq_true rfl) rfl rfl YX4_howMany rfl rfl (Nat.le_of_ble_eq_true rfl) gX4_clear_X4_howMany (by decide) ⟨Nat.zero_le _, Nat.zero_le _⟩ rfl (t_X4_howMany (v := v) (s) (k) (1) hS hT (by omega) (by omega) (by omega)) ?_
    refine zs_istore_n (lv' := [some (.inr 0), some (.inl (s)), some (.inl (k)), some (.inl (x_hm v (s) (k) (1) (x_L v))), none]) dX4_clear_18 (by decide) rfl ?_
    refine zs_iconst (x := 0) dX4_clear_19 (by decide) ?_
    refine zs_istore (lv' := [some (.inr 0), some (.inl (s)), some (.inl (k)), some (.inl (x_hm v (s) (k) (1) (x_L v))), some (.inl (0))]) dX4_clear_20 (by decide) rfl ?_
    exact zs_mono (fun r v' h => Or.inr ⟨h6, h.1, h.2⟩) (l_X4_clear hJ hs hk 200 v 0 (by omega) (by omega) (x_cl_0 s k hT hT.1))
  · refine zs_iconst (x := -1) dX4_clear_9 (by decide) ?_
    refine zs_iret dX4_clear_10 rfl ?_
    exact Or.inl ⟨h6, rfl, rfl⟩

def x_Sw : Nat → zs_V → Int → zs_V → Prop
  | 0, v, c, v' => c = 0 ∧ v' = v
  | n + 1, v, c, v' => ((¬ v 5 (v 20 0) = -1 ∧ ¬ 0 < x_left v (v 20 0)) ∧ ∃ u, x_Vac (x_tell v (v 20 0)) (v 20 0) u ∧ x_Sw n (zs_put u 20 0 ((v 20 0 + 1) % 200)) (c - 1) v') ∨ (¬ (¬ v 5 (v 20 0) = -1 ∧ ¬ 0 < x_left v (v 20 0)) ∧ x_Sw n (zs_put v 20 0 ((v 20 0 + 1) % 200)) c v')
theorem x_J_20 {v : zs_V} {x : Int} (h : x_J v) (hx : 0 ≤ x ∧ x < 200) : x_J (zs_put v 20 0 x) := by
  obtain ⟨h1, h2, h3, h4, h5, h6, h7⟩ := h
  refine ⟨x_S_of rfl rfl rfl rfl rfl rfl h1, x_T_of rfl rfl rfl rfl rfl h2, fun p a b => (h3 p a b).imp id (x_E_of rfl rfl rfl), h4, h5, ?_⟩
  rw [zs_put_s]
  exact hx
theorem x_J_tv {v u : zs_V} (h : x_J v) (hV : x_Vac (x_tell v (v 20 0)) (v 20 0) u) : x_J u := by
  obtain ⟨h1, h2, h3, h4, h5, h6, h7⟩ := h
  have hk := x_tell_K (p := v 20 0) h4 h5
  have e5 := x_tell_r v (v 20 0) (r := 5) (by decide) (by decide) (by decide) (by decide)
  have e8 := x_tell_r v (v 20 0) (r := 8) (by decide) (by decide) (by decide) (by decide)
  have e15 := x_tell_r v (v 20 0) (r := 15) (by decide) (by decide) (by decide) (by decide)
  have e20 := x_tell_r v (v 20 0) (r := 20) (by decide) (by decide) (by decide) (by decide)
  refine ⟨x_Vac_S hV (x_tell_S h1), x_Vac_T hV (x_tell_T h2), fun p a b => ?_, ?_, ?_, ?_⟩
  · rw [hV.2.1 p]
    by_cases e : p = v 20 0
    · left; rw [if_pos e]
    · rw [if_neg e, e5]
      refine (h3 p a b).imp id (fun q => ?_)
      obtain ⟨⟨q1, q2, q3, q4⟩, q5⟩ := q
      refine ⟨⟨q1, q2, ?_⟩, ?_⟩
      · rw [hV.2.1 p, if_neg e, e5, hV.1 15 (by decide) (by decide) (by decide), e15]
        exact ⟨q3, q4⟩
      · rw [hV.1 8 (by decide) (by decide) (by decide), e8]
        exact q5
  · rw [hV.1 17 (by decide) (by decide) (by decide)]
    exact hk.1
  · rw [hV.1 18 (by decide) (by decide) (by decide)]
    exact hk.2
  · rw [hV.1 20 (by decide) (by decide) (by decide), e20]
    exact ⟨h6, h7⟩
def x_Swe (v : zs_V) (n r : Int) (v' : zs_V) : Prop := (¬ (1 ≤ n ∧ n ≤ 200) ∧ r = -1 ∧ v' = v) ∨ ((1 ≤ n ∧ n ≤ 200) ∧ x_Sw n.toNat v r v')
set_option maxHeartbeats 4000000 in
set_option maxRecDepth 100000 in
theorem l_X4_sweep {N : Int} (hN : zn N) : ∀ (n : Nat) (u : zs_V) (c j : Int), x_J u → 0 ≤ j → j + n = N → zs_R mX4_sweep 0 0 shX (fun r v' => x_Sw n u (r - c) v') u 18 [some (.inr 0), some (.inl (N)), some (.inl (c)), some (.inl (j))] [] := by
  intro n
  induction n using Nat.strongRecOn with
  | ind n ih =>
    intro u c j hJ h0 hn
    refine zs_iload_n dX4_sweep_18 rfl ?_
    refine zs_iload_n dX4_sweep_19 rfl ?_
    refine zs_icmp_ge (tgt := 90) dX4_sweep_20 (by decide) (by omega) (by omega) (fun h20 => ?_) (fun h20 => ?_)
    · refine zs_iload_n dX4_sweep_90 rfl ?_
      refine zs_iret dX4_sweep_91 rfl ?_
      obtain rfl : n = 0 := by omega
      exact ⟨by omega, rfl⟩
    · obtain ⟨n', rfl⟩ : ∃ n', n = n' + 1 := ⟨n - 1, by omega⟩
      have hS := hJ.1
      have hf1 := hJ.2.2.2.2.2.1
      have hf2 := hJ.2.2.2.2.2.2
      have hzp := x_J_z hJ (u 20 0) (by omega) (by omega)
      refine zs_aload_n dX4_sweep_23 rfl ?_
      refine zs_getr (j := 1) dX4_sweep_24 rfl rfl rfl (by decide) nX4_sweep_X4 fX4_sweep_19 ?_
      refine zs_aload_n dX4_sweep_27 rfl ?_
      refine zs_geti (j := 4) dX4_sweep_28 rfl rfl rfl (by decide) nX4_sweep_X4 fX4_sweep_37 ?_
      refine zs_eV (As := [.inl (u 20 0)]) (rest := []) (q := 7) dX4_sweep_31 rfl (Nat.le_of_ble_eq_true rfl) rfl rfl YX1_isTaken rfl rfl (Nat.le_of_ble_eq_true rfl) gX4_sweep_X1_isTaken (by decide) ⟨Nat.zero_le _, Nat.zero_le _⟩ rfl (t_X1_isTaken (v := u) (u 20 0) (by omega) (by omega)) ?_
      refine zs_ifz_eq (tgt := 70) dX4_sweep_34 (by decide)  (fun h34 => ?_) (fun h34 => ?_)
      · refine zs_aload_n dX4_sweep_70 rfl ?_
        refine zs_aload_n dX4_sweep_71 rfl ?_
        refine zs_geti (j := 4) dX4_sweep_72 rfl rfl rfl (by decide) nX4_sweep_X4 fX4_sweep_37 ?_
        refine zs_iconst (x := 1) dX4_sweep_75 (by decide) ?_
        refine zs_iadd dX4_sweep_76 ?_
        refine zs_sipush (x := 200) dX4_sweep_77 (by decide) ?_
        refine zs_irem dX4_sweep_80 (by omega) (by omega) ?_
        refine zs_puti (j := 4) dX4_sweep_81 rfl rfl (by decide) rfl (by decide) nX4_sweep_X4 tyX4 tyX4_ok nmX4 rfl (by decide +kernel) fX4_sweep_37 ?_
        refine zs_iinc (lv' := [some (.inr 0), some (.inl (N)), some (.inl (c)), some (.inl (j + 1))]) dX4_sweep_84 rfl (by decide) rfl ?_
        refine zs_goto (tgt := 18) dX4_sweep_87 (by decide) ?_
        refine zs_mono (fun r v' h => Or.inr ⟨(fun z => h34 z.1), h⟩) (ih n' (by omega) (zs_put u 20 0 ((u 20 0 + 1) % 200)) c (j + 1) (x_J_20 hJ (by omega)) (by omega) (by omega))
      · have hE := (hJ.2.2.1 (u 20 0) (by omega) (by omega)).resolve_left h34
        refine zs_aload_n dX4_sweep_37 rfl ?_
        refine zs_aload_n dX4_sweep_38 rfl ?_
        refine zs_geti (j := 4) dX4_sweep_39 rfl rfl rfl (by decide) nX4_sweep_X4 fX4_sweep_37 ?_
        refine zs_eV (As := [.inl (u 20 0)]) (rest := []) (q := 0) dX4_sweep_42 rfl (Nat.le_of_ble_eq_true rfl) rfl rfl YX4_isShown rfl rfl (Nat.le_of_ble_eq_true rfl) gX4_sweep_X4_isShown (by decide) ⟨Nat.zero_le _, Nat.zero_le _⟩ rfl (t_X4_isShown (v := u) (u 20 0) hS hE) ?_
        refine zs_ifz_ne (tgt := 70) dX4_sweep_45 (by decide)  (fun h45 => ?_) (fun h45 => ?_)
        · refine zs_aload_n dX4_sweep_70 rfl ?_
          refine zs_aload_n dX4_sweep_71 rfl ?_
          refine zs_geti (j := 4) dX4_sweep_72 rfl rfl rfl (by decide) nX4_sweep_X4 fX4_sweep_37 ?_
          refine zs_iconst (x := 1) dX4_sweep_75 (by decide) ?_
          refine zs_iadd dX4_sweep_76 ?_
          refine zs_sipush (x := 200) dX4_sweep_77 (by decide) ?_
          refine zs_irem dX4_sweep_80 (by omega) (by omega) ?_
          refine zs_puti (j := 4) dX4_sweep_81 rfl rfl (by decide) rfl (by decide) nX4_sweep_X4 tyX4 tyX4_ok nmX4 rfl (by decide +kernel) fX4_sweep_37 ?_
          refine zs_iinc (lv' := [some (.inr 0), some (.inl (N)), some (.inl (c)), some (.inl (j + 1))]) dX4_sweep_84 rfl (by decide) rfl ?_
          refine zs_goto (tgt := 18) dX4_sweep_87 (by decide) ?_
          refine zs_mono (fun r v' h => Or.inr ⟨(fun z => z.2 h45), h⟩) (ih n' (by omega) (zs_put u 20 0 ((u 20 0 + 1) % 200)) c (j + 1) (x_J_20 hJ (by omega)) (by omega) (by omega))
        · have hP := hE.1
          have hF := hJ.2.2.2.1
          have hK := hJ.2.2.2.2.1
          refine zs_aload_n dX4_sweep_48 rfl ?_
          refine zs_aload_n dX4_sweep_49 rfl ?_
          refine zs_geti (j := 4) dX4_sweep_50 rfl rfl rfl (by decide) nX4_sweep_X4 fX4_sweep_37 ?_
          refine zs_eVv (As := [.inl (u 20 0)]) (rest := []) (q := 0) dX4_sweep_53 rfl (Nat.le_of_ble_eq_true rfl) rfl rfl YX4_tell rfl rfl (Nat.le_of_ble_eq_true rfl) gX4_sweep_X4_tell (by decide) ⟨Nat.zero_le _, Nat.zero_le _⟩ rfl (t_X4_tell (v := u) (u 20 0) hS hP hF hK) ?_
          have e20 : (x_tell u (u 20 0)) 20 0 = u 20 0 := by rw [x_tell_r u (u 20 0) (by decide) (by decide) (by decide) (by decide)]
          have hTt := x_tell_T (p := u 20 0) hJ.2.1
          refine zs_aload_n dX4_sweep_56 rfl ?_
          refine zs_getr (j := 1) dX4_sweep_57 rfl rfl rfl (by decide) nX4_sweep_X4 fX4_sweep_19 ?_
          refine zs_aload_n dX4_sweep_60 rfl ?_
          refine zs_geti (j := 4) dX4_sweep_61 rfl rfl rfl (by decide) nX4_sweep_X4 fX4_sweep_37 ?_
          refine zs_callVv (As := [.inl ((x_tell u (u 20 0)) 20 0)]) (rest := []) (q := 7) dX4_sweep_64 rfl (Nat.le_of_ble_eq_true rfl) rfl rfl YX1_vacate rfl rfl (Nat.le_of_ble_eq_true rfl) gX4_sweep_X1_vacate (by decide) ⟨Nat.zero_le _, Nat.zero_le _⟩ rfl (t_X1_vacate (v := (x_tell u (u 20 0))) (p := (x_tell u (u 20 0)) 20 0) (by omega) ⟨hTt.1, hTt.2.1⟩ (x_T_z hTt)) ?_
          intro u1 hu
          rw [e20] at hu
          have e21 : u1 20 0 = u 20 0 := by rw [hu.1 20 (by decide) (by decide) (by decide), e20]
          refine zs_iinc (lv' := [some (.inr 0), some (.inl (N)), some (.inl (c + 1)), some (.inl (j))]) dX4_sweep_67 rfl (by decide) rfl ?_
          refine zs_aload_n dX4_sweep_70 rfl ?_
          refine zs_aload_n dX4_sweep_71 rfl ?_
          refine zs_geti (j := 4) dX4_sweep_72 rfl rfl rfl (by decide) nX4_sweep_X4 fX4_sweep_37 ?_
          refine zs_iconst (x := 1) dX4_sweep_75 (by decide) ?_
          refine zs_iadd dX4_sweep_76 ?_
          refine zs_sipush (x := 200) dX4_sweep_77 (by decide) ?_
          refine zs_irem dX4_sweep_80 (by omega) (by omega) ?_
          refine zs_puti (j := 4) dX4_sweep_81 rfl rfl (by decide) rfl (by decide) nX4_sweep_X4 tyX4 tyX4_ok nmX4 rfl (by decide +kernel) fX4_sweep_37 ?_
          refine zs_iinc (lv' := [some (.inr 0), some (.inl (N)), some (.inl (c + 1)), some (.inl (j + 1))]) dX4_sweep_84 rfl (by decide) rfl ?_
          refine zs_goto (tgt := 18) dX4_sweep_87 (by decide) ?_
          rw [e21]
          refine zs_mono (fun r v' h => Or.inl ⟨⟨h34, h45⟩, u1, hu, ?_⟩) (ih n' (by omega) (zs_put u1 20 0 ((u 20 0 + 1) % 200)) (c + 1) (j + 1) (x_J_20 (x_J_tv hJ hu) (by omega)) (by omega) (by omega))
          rw [show r - c - 1 = r - (c + 1) by omega]
          exact h
set_option maxHeartbeats 4000000 in
set_option maxRecDepth 100000 in
theorem t_X4_sweep {v : zs_V} (hJ : x_J v) (n : Int) (hn : zn n) : zs_R mX4_sweep 0 0 shX (fun r v' => x_Swe v n r v') v 0 [some (.inr 0), some (.inl (n)), none, none] [] := by
  refine zs_iload_n dX4_sweep_0 rfl ?_
  refine zs_iconst (x := 1) dX4_sweep_1 (by decide) ?_
  refine zs_icmp_lt (tgt := 12) dX4_sweep_2 (by decide) (by omega) (by omega) (fun h2 => ?_) (fun h2 => ?_)
  · refine zs_iconst (x := -1) dX4_sweep_12 (by decide) ?_
    refine zs_iret dX4_sweep_13 rfl ?_
    exact Or.inl ⟨by omega, rfl, rfl⟩
  · refine zs_iload_n dX4_sweep_5 rfl ?_
    refine zs_sipush (x := 200) dX4_sweep_6 (by decide) ?_
    refine zs_icmp_le (tgt := 14) dX4_sweep_9 (by decide) (by omega) (by omega) (fun h9 => ?_) (fun h9 => ?_)
    · refine zs_iconst (x := 0) dX4_sweep_14 (by decide) ?_
      refine zs_istore_n (lv' := [some (.inr 0), some (.inl (n)), some (.inl (0)), none]) dX4_sweep_15 (by decide) rfl ?_
      refine zs_iconst (x := 0) dX4_sweep_16 (by decide) ?_
      refine zs_istore_n (lv' := [some (.inr 0), some (.inl (n)), some (.inl (0)), some (.inl (0))]) dX4_sweep_17 (by decide) rfl ?_
      exact zs_mono (fun r v' h => Or.inr ⟨by omega, by rw [show r - 0 = r by omega] at h; exact h⟩) (l_X4_sweep hn n.toNat v 0 0 hJ (by omega) (by omega))
    · refine zs_iconst (x := -1) dX4_sweep_12 (by decide) ?_
      refine zs_iret dX4_sweep_13 rfl ?_
      exact Or.inl ⟨by omega, rfl, rfl⟩

noncomputable def x_markR (v : zs_V) (m : Int) : Int := if 0 ≤ m ∧ m < 3 then (x_mk m (x_L v) (zs_put v 14 m 0)) 14 m else -1
noncomputable def x_markS (v : zs_V) (m : Int) : zs_V := if 0 ≤ m ∧ m < 3 then x_mk m (x_L v) (zs_put v 14 m 0) else v
theorem x_keep_n (u : zs_V) (m s x l : Int) : (x_keep u m s x l) 14 m = u 14 m + 1 := by unfold x_keep; rw [zs_put_s]
set_option maxHeartbeats 4000000 in
set_option maxRecDepth 100000 in
theorem l_X4_mark {m : Int} (hm : 0 ≤ m ∧ m < 3) : ∀ (n : Nat) (u : zs_V) (j : Int) (x3 : Option zs_A), x_S u → x_T u → 0 ≤ j → j + n = u 16 0 → 0 ≤ u 14 m → u 14 m ≤ j → zs_R mX4_mark 0 0 shX (zs_X ((x_mk m (x_seg u j n) u) 14 m) (x_mk m (x_seg u j n) u)) u 19 [some (.inr 0), some (.inl (m)), some (.inl (j)), x3] [] := by
  intro n
  induction n using Nat.strongRecOn with
  | ind n ih =>
    intro u j x3 hS hT h0 hn hz0 hzj
    have hT1 := hT.2.1
    refine zs_iload_n dX4_mark_19 rfl ?_
    refine zs_aload_n dX4_mark_20 rfl ?_
    refine zs_getr (j := 1) dX4_mark_21 rfl rfl rfl (by decide) nX4_mark_X4 fX4_mark_19 ?_
    refine zs_geti (j := 5) dX4_mark_24 rfl rfl rfl (by decide) nX4_mark_X1 fX4_mark_142 ?_
    refine zs_icmp_ge (tgt := 85) dX4_mark_27 (by decide) (by omega) (by omega) (fun h27 => ?_) (fun h27 => ?_)
    · refine zs_aload_n dX4_mark_85 rfl ?_
      refine zs_getr (j := 3) dX4_mark_86 rfl rfl rfl (by decide) nX4_mark_X4 fX4_mark_33 ?_
      refine zs_getr (j := 3) dX4_mark_89 rfl rfl rfl (by decide) nX4_mark_X0 fX4_mark_158 ?_
      refine zs_iload_n dX4_mark_92 rfl ?_
      refine zs_iaload dX4_mark_93 rfl (by decide) (by omega) (by omega) ?_
      refine zs_iret dX4_mark_94 rfl ?_
      obtain rfl : n = 0 := by omega
      exact ⟨rfl, rfl⟩
    · obtain ⟨n', rfl⟩ : ∃ n', n = n' + 1 := ⟨n - 1, by omega⟩
      have hE := hT.2.2 j (by omega) (by omega)
      have hf := x_P_f hS hE.1
      refine zs_aload_n dX4_mark_30 rfl ?_
      refine zs_getr (j := 1) dX4_mark_31 rfl rfl rfl (by decide) nX4_mark_X4 fX4_mark_19 ?_
      refine zs_getr (j := 4) dX4_mark_34 rfl rfl rfl (by decide) nX4_mark_X1 fX4_mark_145 ?_
      refine zs_iload_n dX4_mark_37 rfl ?_
      refine zs_iaload dX4_mark_38 rfl (by decide) (by omega) (by omega) ?_
      refine zs_istore_n (lv' := [some (.inr 0), some (.inl (m)), some (.inl (j)), some (.inl (u 9 (j)))]) dX4_mark_39 (by decide) rfl ?_
      refine zs_aload_n dX4_mark_40 rfl ?_
      refine zs_iload_n dX4_mark_41 rfl ?_
      refine zs_eV (As := [.inl (u 9 (j))]) (rest := []) (q := 0) dX4_mark_42 rfl (Nat.le_of_ble_eq_true rfl) rfl rfl YX4_isShown rfl rfl (Nat.le_of_ble_eq_true rfl) gX4_mark_X4_isShown (by decide) ⟨Nat.zero_le _, Nat.zero_le _⟩ rfl (t_X4_isShown (v := u) (u 9 (j)) hS hE) ?_
      refine zs_ifz_eq (tgt := 79) dX4_mark_45 (by decide)  (fun h45 => ?_) (fun h45 => ?_)
      · refine zs_iinc (lv' := [some (.inr 0), some (.inl (m)), some (.inl (j + 1)), some (.inl (u 9 (j)))]) dX4_mark_79 rfl (by decide) rfl ?_
        refine zs_goto (tgt := 19) dX4_mark_82 (by decide) ?_
        simp only [x_seg, x_mk]
        rw [if_neg h45]
        exact ih n' (by omega) u (j + 1) _ hS hT (by omega) (by omega) hz0 (by omega)
      · refine zs_aload_n dX4_mark_48 rfl ?_
        refine zs_getr (j := 3) dX4_mark_49 rfl rfl rfl (by decide) nX4_mark_X4 fX4_mark_33 ?_
        refine zs_iload_n dX4_mark_52 rfl ?_
        refine zs_aload_n dX4_mark_53 rfl ?_
        refine zs_getr (j := 1) dX4_mark_54 rfl rfl rfl (by decide) nX4_mark_X4 fX4_mark_19 ?_
        refine zs_getr (j := 0) dX4_mark_57 rfl rfl rfl (by decide) nX4_mark_X1 fX4_mark_148 ?_
        refine zs_iload_n dX4_mark_60 rfl ?_
        refine zs_iaload dX4_mark_61 rfl (by decide) (by omega) (by omega) ?_
        refine zs_aload_n dX4_mark_62 rfl ?_
        refine zs_getr (j := 1) dX4_mark_63 rfl rfl rfl (by decide) nX4_mark_X4 fX4_mark_19 ?_
        refine zs_getr (j := 1) dX4_mark_66 rfl rfl rfl (by decide) nX4_mark_X1 fX4_mark_151 ?_
        refine zs_iload_n dX4_mark_69 rfl ?_
        refine zs_iaload dX4_mark_70 rfl (by decide) (by omega) (by omega) ?_
        refine zs_aload_n dX4_mark_71 rfl ?_
        refine zs_iload_n dX4_mark_72 rfl ?_
        refine zs_eV (As := [.inl (u 9 (j))]) (rest := [.inl (u 6 (u 9 (j))), .inl (u 5 (u 9 (j))), .inl (m), .inr 15]) (q := 0) dX4_mark_73 rfl (Nat.le_of_ble_eq_true rfl) rfl rfl YX4_leftOf rfl rfl (Nat.le_of_ble_eq_true rfl) gX4_mark_X4_leftOf (by decide) ⟨Nat.zero_le _, Nat.zero_le _⟩ rfl (t_X4_leftOf (v := u) (u 9 (j)) hS hE) ?_
        refine zs_eVv (As := [.inl (m), .inl (u 5 (u 9 (j))), .inl (u 6 (u 9 (j))), .inl (x_left u (u 9 (j)))]) (rest := []) (q := 15) dX4_mark_76 rfl (Nat.le_of_ble_eq_true rfl) rfl rfl YX0_keep rfl rfl (Nat.le_of_ble_eq_true rfl) gX4_mark_X0_keep (by decide) ⟨Nat.zero_le _, Nat.zero_le _⟩ rfl (t_X0_keep (v := u) (m) (u 5 (u 9 (j))) (u 6 (u 9 (j))) (x_left u (u 9 (j))) (by omega) (by omega)) ?_
        refine zs_iinc (lv' := [some (.inr 0), some (.inl (m)), some (.inl (j + 1)), some (.inl (u 9 (j)))]) dX4_mark_79 rfl (by decide) rfl ?_
        refine zs_goto (tgt := 19) dX4_mark_82 (by decide) ?_
        simp only [x_seg, x_mk]
        rw [if_pos h45, ← x_seg_9 (show (x_keep u m (u 5 (u 9 j)) (u 6 (u 9 j)) (x_left u (u 9 j))) 9 = u 9 from rfl) (j + 1) n']
        have hk1 := x_keep_n u m (u 5 (u 9 j)) (u 6 (u 9 j)) (x_left u (u 9 j))
        have et : (x_keep u m (u 5 (u 9 j)) (u 6 (u 9 j)) (x_left u (u 9 j))) 16 0 = u 16 0 := rfl
        exact ih n' (by omega) (x_keep u m (u 5 (u 9 j)) (u 6 (u 9 j)) (x_left u (u 9 j))) (j + 1) _ (x_S_of rfl rfl rfl rfl rfl rfl hS) (x_T_of rfl rfl rfl rfl rfl hT) (by omega) (by omega) (by omega) (by omega)
set_option maxHeartbeats 4000000 in
set_option maxRecDepth 100000 in
theorem t_X4_mark {v : zs_V} (hS : x_S v) (hT : x_T v) (m : Int) (hm : zn m) : zs_R mX4_mark 0 0 shX (zs_X (x_markR v m) (x_markS v m)) v 0 [some (.inr 0), some (.inl (m)), none, none] [] := by
  refine zs_iload_n dX4_mark_0 rfl ?_
  refine zs_eS (As := [.inl (m)]) (rest := []) dX4_mark_1 rfl (Nat.le_of_ble_eq_true rfl) YX4_isMark rfl (Nat.le_of_ble_eq_true rfl) gX4_mark_X4_isMark (by decide) ⟨Nat.zero_le _, Nat.zero_le _⟩ rfl (t_X4_isMark (v := v) (m) (by omega)) ?_
  refine zs_ifz_ne (tgt := 9) dX4_mark_4 (by decide)  (fun h4 => ?_) (fun h4 => ?_)
  · refine zs_aload_n dX4_mark_9 rfl ?_
    refine zs_getr (j := 3) dX4_mark_10 rfl rfl rfl (by decide) nX4_mark_X4 fX4_mark_33 ?_
    refine zs_iload_n dX4_mark_13 rfl ?_
    refine zs_eVv (As := [.inl (m)]) (rest := []) (q := 15) dX4_mark_14 rfl (Nat.le_of_ble_eq_true rfl) rfl rfl YX0_begin rfl rfl (Nat.le_of_ble_eq_true rfl) gX4_mark_X0_begin (by decide) ⟨Nat.zero_le _, Nat.zero_le _⟩ rfl (t_X0_begin (v := v) (m) (by omega)) ?_
    refine zs_iconst (x := 0) dX4_mark_17 (by decide) ?_
    refine zs_istore_n (lv' := [some (.inr 0), some (.inl (m)), some (.inl (0)), none]) dX4_mark_18 (by decide) rfl ?_
    have h14 : (zs_put v 14 m 0) 14 m = 0 := zs_put_s _ _ _ _
    have ht := hT.1
    have et : (zs_put v 14 m 0) 16 0 = v 16 0 := rfl
    unfold x_markR x_markS
    rw [if_pos h4, if_pos h4, ← x_L_of (u := zs_put v 14 m 0) (v := v) rfl rfl]
    exact l_X4_mark h4 (v 16 0).toNat (zs_put v 14 m 0) 0 _ (x_S_of rfl rfl rfl rfl rfl rfl hS) (x_T_of rfl rfl rfl rfl rfl hT) (by omega) (by omega) (by omega) (by omega)
  · refine zs_iconst (x := -1) dX4_mark_7 (by decide) ?_
    refine zs_iret dX4_mark_8 rfl ?_
    exact ⟨by unfold x_markR; rw [if_neg h4], by unfold x_markS; rw [if_neg h4]⟩

def z_up : Nat → List Int
  | 0 => []
  | n + 1 => z_up n ++ [(n : Int)]
theorem z_up_m {n : Nat} {q : Int} (h : q ∈ z_up n) : 0 ≤ q ∧ q < n := by
  induction n with
  | zero => simp [z_up] at h
  | succ n ih =>
    simp only [z_up, List.mem_append, List.mem_singleton] at h
    rcases h with h | h
    · have := ih h
      omega
    · omega
def x_tq (v : zs_V) (m q : Int) : Int := v 4 (v 1 (v 11 (m * 200 + q) / 1000))
def x_rsI (v : zs_V) (m : Int) (u : zs_V) (p : Int) : Prop := (∀ r, r ≠ 5 → r ≠ 6 → r ≠ 7 → r ≠ 8 → r ≠ 9 → r ≠ 16 → u r = v r) ∧ u 16 0 = p ∧ x_L u = z_up p.toNat ∧ (∀ q : Int, 0 ≤ q → q < 200 → u 5 q = if q < p then v 11 (m * 200 + q) else -1) ∧ (∀ q : Int, 0 ≤ q → q < p → u 6 q = v 12 (m * 200 + q) ∧ u 7 q = x_tq v m q ∧ u 8 q = x_tq v m q + v 13 (m * 200 + q))
/-- the mark m can be restored -/
def x_rsP (v : zs_V) (m : Int) : Prop := v 14 m ≤ 200 ∧ (∀ i : Int, 0 ≤ i → i < v 14 m → 0 ≤ v 11 (m * 200 + i) ∧ v 11 (m * 200 + i) < 1000 * v 15 0) ∧ ∀ i j : Int, 0 ≤ i → i < j → j < v 14 m → v 11 (m * 200 + i) ≤ v 11 (m * 200 + j)
theorem x_rs_0 (v : zs_V) (m : Int) : x_rsI v m (zs_put (zs_fill v 5 0 200 (-1)) 16 0 0) 0 := by
  refine ⟨fun r a b c d e f => ?_, zs_put_s _ _ _ _, ?_, fun q h0 h1 => ?_, fun q h0 h1 => absurd h1 (by omega)⟩
  · rw [zs_put_r _ _ _ _ f]
    funext k
    unfold zs_fill
    rw [if_neg (fun z => a z.1)]
  · unfold x_L
    rw [zs_put_s]
    rfl
  · rw [zs_put_r _ _ _ _ (by decide), if_neg (by omega)]
    unfold zs_fill
    rw [if_pos ⟨rfl, h0, h1⟩]
theorem x_rs_tk {v u : zs_V} {m p : Int} (hS : x_S v) (hP : x_rsP v m) (hI : x_rsI v m u p) (h0 : 0 ≤ p) (hp : p < v 14 m) : x_tkP u p (u 11 (m * 200 + p)) := by
  have h200 := hP.1
  have hm := hS.2.1
  have hq := hP.2.1 p h0 hp
  have e11 := hI.1 11 (by decide) (by decide) (by decide) (by decide) (by decide) (by decide)
  refine ⟨by rw [hI.2.1]; exact h0, by rw [hI.2.1]; omega, h0, by omega, by rw [e11]; omega, fun j a b => ?_⟩
  have hm := x_L_line (v := u) a b
  rw [hI.2.2.1] at hm
  have hb := z_up_m hm
  have hsl := hI.2.2.2.1 (u 9 j) (by omega) (by omega)
  rw [if_pos (by omega)] at hsl
  have hq2 := hP.2.1 (u 9 j) (by omega) (by omega)
  rw [hsl]
  omega
theorem x_rs_step {v u u1 : zs_V} {m p : Int} (hS : x_S v) (hP : x_rsP v m) (hI : x_rsI v m u p) (h0 : 0 ≤ p) (hp : p < v 14 m) (hk : x_Tak u p (u 11 (m * 200 + p)) u1) : x_rsI v m (x_stamp (zs_put u1 6 p (u1 12 (m * 200 + p))) p ((zs_put u1 6 p (u1 12 (m * 200 + p))) 13 (m * 200 + p))) (p + 1) := by
  obtain ⟨i1, i2, i3, i4, i5⟩ := hI
  obtain ⟨k1, k2, k3, A, B, k4, k5, k6, -⟩ := hk
  have h200 := hP.1
  have f : ∀ r, r ≠ 5 → r ≠ 6 → r ≠ 7 → r ≠ 8 → r ≠ 9 → r ≠ 16 → u1 r = v r := fun r a b c d e g => (k1 r a e g).trans (i1 r a b c d e g)
  have e11 := i1 11 (by decide) (by decide) (by decide) (by decide) (by decide) (by decide)
  have hsp : u1 5 p = v 11 (m * 200 + p) := by rw [k2 p, if_pos rfl, e11]
  have hB : B = [] := by
    cases B with
    | nil => rfl
    | cons q B =>
      exfalso
      have a := k6 q List.mem_cons_self
      have hm : q ∈ x_L u := by rw [k4]; simp
      rw [i3] at hm
      have hb := z_up_m hm
      rw [i4 q (by omega) (by omega), if_pos (by omega), e11] at a
      have := hP.2.2 q p (by omega) (by omega) hp
      omega
  subst hB
  have hA : A = z_up p.toNat := by rw [← i3, k4, List.append_nil]
  refine ⟨fun r a b c d e g => ?_, ?_, ?_, fun q a b => ?_, fun q a b => ?_⟩
  · unfold x_stamp
    rw [zs_put_r _ _ _ _ d, zs_put_r _ _ _ _ c, zs_put_r _ _ _ _ b]
    exact f r a b c d e g
  · show u1 16 0 = p + 1
    rw [k3, i2]
  · rw [x_L_of (u := x_stamp (zs_put u1 6 p (u1 12 (m * 200 + p))) p ((zs_put u1 6 p (u1 12 (m * 200 + p))) 13 (m * 200 + p))) (v := u1) rfl rfl, k5, hA, show (p + 1).toNat = p.toNat + 1 by omega]
    simp only [z_up]
    rw [show ((p.toNat : Int)) = p by omega]
  · show u1 5 q = _
    rw [k2 q]
    by_cases e : q = p
    · subst e
      rw [if_pos rfl, if_pos (by omega), e11]
    · rw [if_neg e, i4 q a b]
      by_cases c : q < p
      · rw [if_pos c, if_pos (by omega)]
      · rw [if_neg c, if_neg (by omega)]
  · have ht : (zs_put u1 6 p (u1 12 (m * 200 + p))) 4 ((zs_put u1 6 p (u1 12 (m * 200 + p))) 1 ((zs_put u1 6 p (u1 12 (m * 200 + p))) 5 p / 1000)) = x_tq v m p := by
      show u1 4 (u1 1 (u1 5 p / 1000)) = _
      rw [hsp, f 4 (by decide) (by decide) (by decide) (by decide) (by decide) (by decide), f 1 (by decide) (by decide) (by decide) (by decide) (by decide) (by decide)]
      rfl
    unfold x_stamp
    rw [ht, zs_put_r _ _ _ _ (by decide : 6 ≠ 8), zs_put_r _ _ _ _ (by decide : 6 ≠ 7), zs_put_e, zs_put_r _ _ _ _ (by decide : 7 ≠ 8), zs_put_e, zs_put_e, zs_put_r _ _ _ _ (by decide : 7 ≠ 6), zs_put_r _ _ _ _ (by decide : 8 ≠ 7), zs_put_r _ _ _ _ (by decide : 8 ≠ 6), zs_put_r _ _ _ _ (by decide : 13 ≠ 6)]
    by_cases e : q = p
    · subst e
      rw [if_pos rfl, if_pos rfl, if_pos rfl, f 12 (by decide) (by decide) (by decide) (by decide) (by decide) (by decide), f 13 (by decide) (by decide) (by decide) (by decide) (by decide) (by decide)]
      exact ⟨rfl, rfl, rfl⟩
    · rw [if_neg e, if_neg e, if_neg e, k1 6 (by decide) (by decide) (by decide), k1 7 (by decide) (by decide) (by decide), k1 8 (by decide) (by decide) (by decide)]
      exact i5 q a (by omega)
def x_Res (v : zs_V) (m r : Int) (v' : zs_V) : Prop := (¬ (0 ≤ m ∧ m < 3) ∧ r = -1 ∧ v' = v) ∨ ((0 ≤ m ∧ m < 3) ∧ v 14 m = -1 ∧ r = -2 ∧ v' = v) ∨ ((0 ≤ m ∧ m < 3) ∧ ¬ v 14 m = -1 ∧ r = v 14 m ∧ ∃ u, x_rsI v m u (v 14 m) ∧ v' = zs_put u 20 0 0)
set_option maxHeartbeats 4000000 in
set_option maxRecDepth 100000 in
theorem l_X4_restore {v : zs_V} {m : Int} (hS0 : x_S v) (hP0 : x_rsP v m) (hm : 0 ≤ m ∧ m < 3) (hz : 0 ≤ v 14 m) : ∀ (n : Nat) (u : zs_V) (p : Int) (x4 : Option zs_A), 0 ≤ p → p + n = v 14 m → x_rsI v m u p → zs_R mX4_restore 0 0 shX (fun r v' => r = v 14 m ∧ ∃ u, x_rsI v m u (v 14 m) ∧ v' = zs_put u 20 0 0) u 36 [some (.inr 0), some (.inl (m)), some (.inl (v 14 m)), some (.inl (p)), x4] [] := by
  have h200 := hP0.1
  intro n
  induction n using Nat.strongRecOn with
  | ind n ih =>
    intro u p x4 h0 hn hI
    refine zs_iload_n dX4_restore_36 rfl ?_
    refine zs_iload_n dX4_restore_37 rfl ?_
    refine zs_icmp_ge (tgt := 110) dX4_restore_38 (by decide) (by omega) (by omega) (fun h38 => ?_) (fun h38 => ?_)
    · refine zs_aload_n dX4_restore_110 rfl ?_
      refine zs_iconst (x := 0) dX4_restore_111 (by decide) ?_
      refine zs_puti (j := 4) dX4_restore_112 rfl rfl (by decide) rfl (by decide) nX4_restore_X4 tyX4 tyX4_ok nmX4 rfl (by decide +kernel) fX4_restore_37 ?_
      refine zs_aload_n dX4_restore_115 rfl ?_
      refine zs_getr (j := 1) dX4_restore_116 rfl rfl rfl (by decide) nX4_restore_X4 fX4_restore_19 ?_
      refine zs_geti (j := 5) dX4_restore_119 rfl rfl rfl (by decide) nX4_restore_X1 fX4_restore_142 ?_
      refine zs_iret dX4_restore_122 rfl ?_
      obtain rfl : p = v 14 m := by omega
      exact ⟨hI.2.1, u, hI, rfl⟩
    · have hS := x_S_of (hI.1 0 (by decide) (by decide) (by decide) (by decide) (by decide) (by decide)) (hI.1 1 (by decide) (by decide) (by decide) (by decide) (by decide) (by decide)) (hI.1 2 (by decide) (by decide) (by decide) (by decide) (by decide) (by decide)) (hI.1 3 (by decide) (by decide) (by decide) (by decide) (by decide) (by decide)) (hI.1 4 (by decide) (by decide) (by decide) (by decide) (by decide) (by decide)) (hI.1 15 (by decide) (by decide) (by decide) (by decide) (by decide) (by decide)) hS0
      have htk := x_rs_tk hS0 hP0 hI h0 (by omega)
      have hsl := hP0.2.1 p h0 (by omega)
      have e11 := hI.1 11 (by decide) (by decide) (by decide) (by decide) (by decide) (by decide)
      have e15 := hI.1 15 (by decide) (by decide) (by decide) (by decide) (by decide) (by decide)
      refine zs_aload_n dX4_restore_41 rfl ?_
      refine zs_getr (j := 3) dX4_restore_42 rfl rfl rfl (by decide) nX4_restore_X4 fX4_restore_33 ?_
      refine zs_iload_n dX4_restore_45 rfl ?_
      refine zs_iload_n dX4_restore_46 rfl ?_
      refine zs_eV (As := [.inl (m), .inl (p)]) (rest := []) (q := 15) dX4_restore_47 rfl (Nat.le_of_ble_eq_true rfl) rfl rfl YX0_indexOf rfl rfl (Nat.le_of_ble_eq_true rfl) gX4_restore_X0_indexOf (by decide) ⟨Nat.zero_le _, Nat.zero_le _⟩ rfl (t_X0_indexOf (v := u) (m) (p)) ?_
      refine zs_istore (lv' := [some (.inr 0), some (.inl (m)), some (.inl (v 14 m)), some (.inl (p)), some (.inl ((m) * 200 + (p)))]) dX4_restore_50 (by decide) rfl ?_
      refine zs_aload_n dX4_restore_52 rfl ?_
      refine zs_getr (j := 1) dX4_restore_53 rfl rfl rfl (by decide) nX4_restore_X4 fX4_restore_19 ?_
      refine zs_iload_n dX4_restore_56 rfl ?_
      refine zs_aload_n dX4_restore_57 rfl ?_
      refine zs_getr (j := 3) dX4_restore_58 rfl rfl rfl (by decide) nX4_restore_X4 fX4_restore_33 ?_
      refine zs_getr (j := 0) dX4_restore_61 rfl rfl rfl (by decide) nX4_restore_X0 fX4_restore_167 ?_
      refine zs_iload dX4_restore_64 rfl ?_
      refine zs_iaload dX4_restore_66 rfl (by decide) (by omega) (by omega) ?_
      refine zs_callVv (As := [.inl (p), .inl (u 11 ((m) * 200 + (p)))]) (rest := []) (q := 7) dX4_restore_67 rfl (Nat.le_of_ble_eq_true rfl) rfl rfl YX1_take rfl rfl (Nat.le_of_ble_eq_true rfl) gX4_restore_X1_take (by decide) ⟨Nat.zero_le _, Nat.zero_le _⟩ rfl (t_X1_take (v := u) (p := p) (slot := u 11 ((m) * 200 + (p))) htk) ?_
      intro u1 hu
      have hS1 := x_Tak_S hu hS
      have hP1 := x_Tak_P hu (by omega) (by rw [e11, e15]; exact hsl)
      refine zs_aload_n dX4_restore_70 rfl ?_
      refine zs_getr (j := 1) dX4_restore_71 rfl rfl rfl (by decide) nX4_restore_X4 fX4_restore_19 ?_
      refine zs_getr (j := 1) dX4_restore_74 rfl rfl rfl (by decide) nX4_restore_X1 fX4_restore_151 ?_
      refine zs_iload_n dX4_restore_77 rfl ?_
      refine zs_aload_n dX4_restore_78 rfl ?_
      refine zs_getr (j := 3) dX4_restore_79 rfl rfl rfl (by decide) nX4_restore_X4 fX4_restore_33 ?_
      refine zs_getr (j := 1) dX4_restore_82 rfl rfl rfl (by decide) nX4_restore_X0 fX4_restore_171 ?_
      refine zs_iload dX4_restore_85 rfl ?_
      refine zs_iaload dX4_restore_87 rfl (by decide) (by omega) (by omega) ?_
      refine zs_iastore dX4_restore_88 rfl (by decide) (by decide) (by omega) (by omega) ?_
      refine zs_aload_n dX4_restore_89 rfl ?_
      refine zs_iload_n dX4_restore_90 rfl ?_
      refine zs_aload_n dX4_restore_91 rfl ?_
      refine zs_getr (j := 3) dX4_restore_92 rfl rfl rfl (by decide) nX4_restore_X4 fX4_restore_33 ?_
      refine zs_getr (j := 2) dX4_restore_95 rfl rfl rfl (by decide) nX4_restore_X0 fX4_restore_172 ?_
      refine zs_iload dX4_restore_98 rfl ?_
      refine zs_iaload dX4_restore_100 rfl (by decide) (by omega) (by omega) ?_
      refine zs_eVv (As := [.inl (p), .inl ((zs_put u1 6 (p) (u1 12 ((m) * 200 + (p)))) 13 ((m) * 200 + (p)))]) (rest := []) (q := 0) dX4_restore_101 rfl (Nat.le_of_ble_eq_true rfl) rfl rfl YX4_stamp rfl rfl (Nat.le_of_ble_eq_true rfl) gX4_restore_X4_stamp (by decide) ⟨Nat.zero_le _, Nat.zero_le _⟩ rfl (t_X4_stamp (v := (zs_put u1 6 (p) (u1 12 ((m) * 200 + (p))))) (p) ((zs_put u1 6 (p) (u1 12 ((m) * 200 + (p)))) 13 ((m) * 200 + (p))) (x_S_of rfl rfl rfl rfl rfl rfl hS1) (x_P_of rfl rfl hP1)) ?_
      refine zs_iinc (lv' := [some (.inr 0), some (.inl (m)), some (.inl (v 14 m)), some (.inl (p + 1)), some (.inl ((m) * 200 + (p)))]) dX4_restore_104 rfl (by decide) rfl ?_
      refine zs_goto (tgt := 36) dX4_restore_107 (by decide) ?_
      exact ih (n - 1) (by omega) _ (p + 1) _ (by omega) (by omega) (x_rs_step hS0 hP0 hI h0 (by omega) hu)
set_option maxHeartbeats 4000000 in
set_option maxRecDepth 100000 in
theorem t_X4_restore {v : zs_V} (hS : x_S v) (m : Int) (hm : zn m) (hP : 0 ≤ m → m < 3 → -1 ≤ v 14 m ∧ x_rsP v m) : zs_R mX4_restore 0 0 shX (fun r v' => x_Res v m r v') v 0 [some (.inr 0), some (.inl (m)), none, none, none] [] := by
  refine zs_iload_n dX4_restore_0 rfl ?_
  refine zs_eS (As := [.inl (m)]) (rest := []) dX4_restore_1 rfl (Nat.le_of_ble_eq_true rfl) YX4_isMark rfl (Nat.le_of_ble_eq_true rfl) gX4_restore_X4_isMark (by decide) ⟨Nat.zero_le _, Nat.zero_le _⟩ rfl (t_X4_isMark (v := v) (m) (by omega)) ?_
  refine zs_ifz_ne (tgt := 9) dX4_restore_4 (by decide)  (fun h4 => ?_) (fun h4 => ?_)
  · obtain ⟨hp1, hp2⟩ := hP (by omega) (by omega)
    have h200 := hp2.1
    refine zs_aload_n dX4_restore_9 rfl ?_
    refine zs_getr (j := 3) dX4_restore_10 rfl rfl rfl (by decide) nX4_restore_X4 fX4_restore_33 ?_
    refine zs_getr (j := 3) dX4_restore_13 rfl rfl rfl (by decide) nX4_restore_X0 fX4_restore_158 ?_
    refine zs_iload_n dX4_restore_16 rfl ?_
    refine zs_iaload dX4_restore_17 rfl (by decide) (by omega) (by omega) ?_
    refine zs_istore_n (lv' := [some (.inr 0), some (.inl (m)), some (.inl (v 14 (m))), none, none]) dX4_restore_18 (by decide) rfl ?_
    refine zs_iload_n dX4_restore_19 rfl ?_
    refine zs_iconst (x := -1) dX4_restore_20 (by decide) ?_
    refine zs_icmp_ne (tgt := 27) dX4_restore_21 (by decide) (by omega) (by omega) (fun h21 => ?_) (fun h21 => ?_)
    · refine zs_aload_n dX4_restore_27 rfl ?_
      refine zs_getr (j := 1) dX4_restore_28 rfl rfl rfl (by decide) nX4_restore_X4 fX4_restore_19 ?_
      refine zs_eVv (As := []) (rest := []) (q := 7) dX4_restore_31 rfl (Nat.le_of_ble_eq_true rfl) rfl rfl YX1_vacateAll rfl rfl (Nat.le_of_ble_eq_true rfl) gX4_restore_X1_vacateAll (by decide) ⟨Nat.zero_le _, Nat.zero_le _⟩ rfl (t_X1_vacateAll (v := v)) ?_
      refine zs_iconst (x := 0) dX4_restore_34 (by decide) ?_
      refine zs_istore_n (lv' := [some (.inr 0), some (.inl (m)), some (.inl (v 14 (m))), some (.inl (0)), none]) dX4_restore_35 (by decide) rfl ?_
      exact zs_mono (fun r v' h => Or.inr (Or.inr ⟨h4, h21, h.1, h.2⟩)) (l_X4_restore hS hp2 h4 (by omega) (v 14 m).toNat _ 0 _ (by omega) (by omega) (x_rs_0 v m))
    · refine zs_bipush (x := -2) dX4_restore_24 (by decide) ?_
      refine zs_iret dX4_restore_26 rfl ?_
      exact Or.inr (Or.inl ⟨h4, h21, rfl, rfl⟩)
  · refine zs_iconst (x := -1) dX4_restore_7 (by decide) ?_
    refine zs_iret dX4_restore_8 rfl ?_
    exact Or.inl ⟨h4, rfl, rfl⟩
end
section

def z_fr : Int → Nat → List Int
  | _, 0 => []
  | p, n + 1 => p :: z_fr (p + 1) n
abbrev z_Z : List Int := z_fr 0 200
abbrev m_clk (w : zs_V) (p : Int) : Int := w 4 (w 1 (w 5 p))
abbrev m_sh (w : zs_V) (p : Int) : Prop := ¬ w 5 p = -99999999 ∧ m_clk w p < w 10 p
abbrev m_ov (w : zs_V) (p : Int) : Prop := ¬ w 5 p = -99999999 ∧ w 10 p ≤ m_clk w p
/-- a place that is taken -/
def m_P (w : zs_V) (p : Int) : Prop := (0 ≤ w 5 p ∧ w 5 p < w 15 0) ∧ (0 ≤ w 6 p ∧ w 6 p < 100) ∧ (0 ≤ w 7 p ∧ w 7 p < 10) ∧ (0 ≤ w 10 p ∧ w 10 p ≤ 1000100000) ∧ 0 ≤ w 11 p ∧ w 11 p ≤ 1000000
def m_W (w : zs_V) : Prop := ∀ p : Int, 0 ≤ p → p < 200 → w 5 p = -99999999 ∨ m_P w p
abbrev m_ah (w : zs_V) (p q : Int) : Prop := (¬ w 5 p = w 5 q ∧ w 5 p < w 5 q) ∨ (w 5 p = w 5 q ∧ ((¬ w 6 p = w 6 q ∧ w 6 p < w 6 q) ∨ (w 6 p = w 6 q ∧ ((¬ w 7 p = w 7 q ∧ w 7 p < w 7 q) ∨ (w 7 p = w 7 q ∧ w 11 p < w 11 q)))))
def m_fr (w : zs_V) : List Int → Int
  | [] => -99999999
  | p :: ps => if w 5 p = -99999999 then p else m_fr w ps
def m_fd (w : zs_V) (s k b : Int) : List Int → Int
  | [] => -99999999
  | p :: ps => if w 5 p = s ∧ w 6 p = k ∧ w 7 p = b then p else m_fd w s k b ps
abbrev m_is (w : zs_V) (s k last sh p : Int) : Prop := w 5 p = s ∧ w 6 p = k ∧ last < w 11 p ∧ (sh = 0 ∨ m_sh w p)
def m_fi (w : zs_V) (s k last sh : Int) : List Int → Int → Int
  | [], a => a
  | p :: ps, a => m_fi w s k last sh ps (if m_is w s k last sh p ∧ (a = -99999999 ∨ w 11 p < w 11 a) then p else a)
def m_fo (w : zs_V) (s k sh : Int) : Nat → Int → Int → Int
  | 0, _, a => a
  | n + 1, last, _ => if m_fi w s k last sh z_Z (-99999999) = -99999999 then -99999999 else m_fo w s k sh n (w 11 (m_fi w s k last sh z_Z (-99999999))) (m_fi w s k last sh z_Z (-99999999))
noncomputable def m_hd (w : zs_V) (s k o : Int) : List Int → Int
  | [] => 0
  | p :: ps => (if w 5 p = s ∧ w 6 p = k ∧ ¬ zb (m_sh w p) = o then 1 else 0) + m_hd w s k o ps
def m_os (w : zs_V) : List Int → Int
  | [] => 0
  | p :: ps => (if m_ov w p then 1 else 0) + m_os w ps
def m_ca (w : zs_V) : List Int → Int
  | [] => 0
  | p :: ps => (if ¬ w 5 p = -99999999 then 1 else 0) + m_ca w ps
def m_cs (w : zs_V) : List Int → Int
  | [] => 0
  | p :: ps => (if m_sh w p then 1 else 0) + m_cs w ps
def m_nx (w : zs_V) (s : Int) : List Int → Int → Int
  | [], l => l
  | p :: ps, l => m_nx w s ps (if w 5 p = s ∧ m_sh w p ∧ (l = -99999999 ∨ w 10 p < l) then w 10 p else l)
def m_nk (w : zs_V) (b : Int) : List Int → Int → Int
  | [], a => a
  | p :: ps, a => m_nk w b ps (if m_sh w p ∧ (b = -99999999 ∨ m_ah w b p) ∧ (a = -99999999 ∨ m_ah w p a) then p else a)
def m_clS (s k : Int) : List Int → zs_V → zs_V
  | [], w => w
  | p :: ps, w => m_clS s k ps (if w 5 p = s ∧ w 6 p = k then zs_put w 5 p (-99999999) else w)
def m_clR (s k : Int) : List Int → zs_V → Int
  | [], _ => 0
  | p :: ps, w => (if (w 5 p = s ∧ w 6 p = k) ∧ m_sh w p then 1 else 0) + m_clR s k ps (if w 5 p = s ∧ w 6 p = k then zs_put w 5 p (-99999999) else w)
def m_sa (s l : Int) : List Int → zs_V → zs_V
  | [], w => w
  | p :: ps, w => m_sa s l ps (if w 5 p = s ∧ m_sh w p then zs_put w 10 p (w 9 p + l) else w)
def m_stamp (w : zs_V) (p : Int) : zs_V := zs_put (zs_put w 9 p (w 4 (w 1 (w 5 p)))) 10 p (w 4 (w 1 (w 5 p)) + w 2 (w 5 p))
def m_wrA (w : zs_V) (p s k b x : Int) : zs_V := zs_put (zs_put (zs_put (zs_put (zs_put (zs_put w 5 p s) 6 p k) 7 p b) 8 p x) 16 0 (w 16 0 + 1)) 11 p (w 16 0 + 1)
def m_wr (w : zs_V) (p s k b x : Int) : zs_V := m_stamp (m_wrA w p s k b x) p
def m_shift (w : zs_V) (n : Int) : zs_V := fun r j => if r = 12 ∧ 0 ≤ j ∧ j < n then w 12 (j + 6) else w r j
def m_ts (w : zs_V) : zs_V := if w 18 0 = 150 then zs_put (m_shift w 894) 18 0 149 else w
def m_tA (w : zs_V) (i p : Int) : zs_V := zs_put (zs_put (zs_put (zs_put (zs_put (zs_put w 12 i (w 5 p)) 12 (i + 1) (w 6 p)) 12 (i + 2) (w 7 p)) 12 (i + 3) (w 8 p)) 12 (i + 4) (w 10 p)) 12 (i + 5) (w 4 0)
def m_tB (w : zs_V) (i p : Int) : zs_V := zs_put (zs_put (m_tA w i p) 18 0 (w 18 0 + 1)) 19 0 (w 19 0 + 1)
def m_tell (w : zs_V) (p : Int) : zs_V := m_tB (m_ts w) (6 * (m_ts w) 18 0) p
def m_read (w : zs_V) (p : Int) : zs_V := if w 3 (w 5 p) = 1 then m_stamp w p else w
theorem m_P_f {w : zs_V} {p : Int} (hS : x_S w) (h : m_P w p) : 0 ≤ w 5 p ∧ w 5 p < 6 ∧ (w 1 (w 5 p) = 0 ∨ w 1 (w 5 p) = 1) ∧ (w 3 (w 5 p) = 0 ∨ w 3 (w 5 p) = 1) ∧ (1 ≤ w 2 (w 5 p) ∧ w 2 (w 5 p) ≤ 100000) ∧ (0 ≤ m_clk w p ∧ m_clk w p ≤ 1000000000) ∧ 0 ≤ w 10 p ∧ w 10 p ≤ 1000100000 := by
  have hf := x_S_at hS h.1.1 h.1.2
  have he := h.2.2.2.1
  exact ⟨h.1.1, hf.1, hf.2.2.1, hf.2.2.2.2.2.1, ⟨hf.2.2.2.1, hf.2.2.2.2.1⟩, ⟨hf.2.2.2.2.2.2.1, hf.2.2.2.2.2.2.2⟩, he⟩
theorem m_W_z {w : zs_V} (hS : x_S w) (hW : m_W w) {p : Int} (h0 : 0 ≤ p) (h1 : p < 200) : zn (w 5 p) := by
  rcases hW p h0 h1 with h | h
  · omega
  · have := m_P_f hS h
    omega
set_option maxHeartbeats 4000000 in
set_option maxRecDepth 100000 in
theorem t_X5_isIn {w : zs_V} (x a b : Int) (hx : zn x) (ha : zn a) (hb : zn b) : zs_R mX5_isIn 0 0 shM (zs_X (zb (a ≤ x ∧ x ≤ b)) w) w 0 [some (.inl (x)), some (.inl (a)), some (.inl (b))] [] := by
  refine zs_iload_n dX5_isIn_0 rfl ?_
  refine zs_iload_n dX5_isIn_1 rfl ?_
  refine zs_icmp_lt (tgt := 14) dX5_isIn_2 (by decide) (by omega) (by omega) (fun h2 => ?_) (fun h2 => ?_)
  · refine zs_iconst (x := 0) dX5_isIn_14 (by decide) ?_
    refine zs_zret dX5_isIn_15 rfl (by first | omega | (split <;> omega)) ?_
    exact ⟨(zb_n (by omega)).symm, rfl⟩
  · refine zs_iload_n dX5_isIn_5 rfl ?_
    refine zs_iload_n dX5_isIn_6 rfl ?_
    refine zs_icmp_gt (tgt := 14) dX5_isIn_7 (by decide) (by omega) (by omega) (fun h7 => ?_) (fun h7 => ?_)
    · refine zs_iconst (x := 0) dX5_isIn_14 (by decide) ?_
      refine zs_zret dX5_isIn_15 rfl (by first | omega | (split <;> omega)) ?_
      exact ⟨(zb_n (by omega)).symm, rfl⟩
    · refine zs_iconst (x := 1) dX5_isIn_10 (by decide) ?_
      refine zs_goto (tgt := 15) dX5_isIn_11 (by decide) ?_
      refine zs_zret dX5_isIn_15 rfl (by first | omega | (split <;> omega)) ?_
      exact ⟨(zb_p (by omega)).symm, rfl⟩
set_option maxHeartbeats 4000000 in
set_option maxRecDepth 100000 in
theorem t_X5_isState {w : zs_V} (s : Int) (hs : zn s) (hm : 0 ≤ w 15 0 ∧ w 15 0 ≤ 6) : zs_R mX5_isState 0 0 shM (zs_X (zb (0 ≤ s ∧ s < w 15 0)) w) w 0 [some (.inr 0), some (.inl (s))] [] := by
  refine zs_iload_n dX5_isState_0 rfl ?_
  refine zs_iconst (x := 0) dX5_isState_1 (by decide) ?_
  refine zs_aload_n dX5_isState_2 rfl ?_
  refine zs_geti (j := 0) dX5_isState_3 rfl rfl rfl (by decide) nX5_isState_X5 fX5_isState_56 ?_
  refine zs_iconst (x := 1) dX5_isState_6 (by decide) ?_
  refine zs_isub dX5_isState_7 ?_
  refine zs_eS (As := [.inl (s), .inl (0), .inl ((w 15 0) - (1))]) (rest := []) dX5_isState_8 rfl (Nat.le_of_ble_eq_true rfl) YX5_isIn rfl (Nat.le_of_ble_eq_true rfl) gX5_isState_X5_isIn (by decide) ⟨Nat.zero_le _, Nat.zero_le _⟩ rfl (t_X5_isIn (w := w) (s) (0) ((w 15 0) - (1)) (by omega) (by omega) (by omega)) ?_
  refine zs_zret dX5_isState_11 rfl (zb_01 _) ?_
  exact ⟨zb_c ⟨fun h => by omega, fun h => by omega⟩, rfl⟩
set_option maxHeartbeats 4000000 in
set_option maxRecDepth 100000 in
theorem t_X5_isForm {w : zs_V} (hS : x_S w) (s f : Int) (hs : zn s) (hf : zn f) : zs_R mX5_isForm 0 0 shM (zs_X (zb ((0 ≤ s ∧ s < w 15 0) ∧ w 0 s = f)) w) w 0 [some (.inr 0), some (.inl (s)), some (.inl (f))] [] := by
  refine zs_aload_n dX5_isForm_0 rfl ?_
  refine zs_iload_n dX5_isForm_1 rfl ?_
  refine zs_eV (As := [.inl (s)]) (rest := []) (q := 0) dX5_isForm_2 rfl (Nat.le_of_ble_eq_true rfl) rfl rfl YX5_isState rfl rfl (Nat.le_of_ble_eq_true rfl) gX5_isForm_X5_isState (by decide) ⟨Nat.zero_le _, Nat.zero_le _⟩ rfl (t_X5_isState (w := w) (s) (by omega) ⟨hS.1, hS.2.1⟩) ?_
  refine zs_ifz_eq (tgt := 22) dX5_isForm_5 (by decide)  (fun h5 => ?_) (fun h5 => ?_)
  · refine zs_iconst (x := 0) dX5_isForm_22 (by decide) ?_
    refine zs_zret dX5_isForm_23 rfl (by first | omega | (split <;> omega)) ?_
    exact ⟨(zb_n (by omega)).symm, rfl⟩
  · have hs1 := x_S_at hS (s := s) (by omega) (by omega)
    refine zs_aload_n dX5_isForm_8 rfl ?_
    refine zs_getr (j := 1) dX5_isForm_9 rfl rfl rfl (by decide) nX5_isForm_X5 fX5_isForm_7 ?_
    refine zs_iload_n dX5_isForm_12 rfl ?_
    refine zs_iaload dX5_isForm_13 rfl (by decide) (by omega) (by omega) ?_
    refine zs_iload_n dX5_isForm_14 rfl ?_
    refine zs_icmp_ne (tgt := 22) dX5_isForm_15 (by decide) (by omega) (by omega) (fun h15 => ?_) (fun h15 => ?_)
    · refine zs_iconst (x := 0) dX5_isForm_22 (by decide) ?_
      refine zs_zret dX5_isForm_23 rfl (by first | omega | (split <;> omega)) ?_
      exact ⟨(zb_n (by omega)).symm, rfl⟩
    · refine zs_iconst (x := 1) dX5_isForm_18 (by decide) ?_
      refine zs_goto (tgt := 23) dX5_isForm_19 (by decide) ?_
      refine zs_zret dX5_isForm_23 rfl (by first | omega | (split <;> omega)) ?_
      exact ⟨(zb_p (by omega)).symm, rfl⟩
set_option maxHeartbeats 4000000 in
set_option maxRecDepth 100000 in
theorem t_X5_clockOf {w : zs_V} (p : Int) (hp : 0 ≤ p ∧ p < 200) (hS : x_S w) (hP : m_P w p) : zs_R mX5_clockOf 0 0 shM (zs_X (m_clk w p) w) w 0 [some (.inr 0), some (.inl (p))] [] := by
  have hf := m_P_f hS hP
  refine zs_aload_n dX5_clockOf_0 rfl ?_
  refine zs_getr (j := 5) dX5_clockOf_1 rfl rfl rfl (by decide) nX5_clockOf_X5 fX5_clockOf_22 ?_
  refine zs_aload_n dX5_clockOf_4 rfl ?_
  refine zs_getr (j := 2) dX5_clockOf_5 rfl rfl rfl (by decide) nX5_clockOf_X5 fX5_clockOf_13 ?_
  refine zs_aload_n dX5_clockOf_8 rfl ?_
  refine zs_getr (j := 6) dX5_clockOf_9 rfl rfl rfl (by decide) nX5_clockOf_X5 fX5_clockOf_25 ?_
  refine zs_iload_n dX5_clockOf_12 rfl ?_
  refine zs_iaload dX5_clockOf_13 rfl (by decide) (by omega) (by omega) ?_
  refine zs_iaload dX5_clockOf_14 rfl (by decide) (by omega) (by omega) ?_
  refine zs_iaload dX5_clockOf_15 rfl (by decide) (by omega) (by omega) ?_
  refine zs_iret dX5_clockOf_16 rfl ?_
  exact ⟨rfl, rfl⟩
set_option maxHeartbeats 4000000 in
set_option maxRecDepth 100000 in
theorem t_X5_isShown {w : zs_V} (p : Int) (hp : 0 ≤ p ∧ p < 200) (hS : x_S w) (hW : m_W w) : zs_R mX5_isShown 0 0 shM (zs_X (zb (m_sh w p)) w) w 0 [some (.inr 0), some (.inl (p))] [] := by
  have hz := m_W_z hS hW (p := p) (by omega) (by omega)
  refine zs_aload_n dX5_isShown_0 rfl ?_
  refine zs_getr (j := 6) dX5_isShown_1 rfl rfl rfl (by decide) nX5_isShown_X5 fX5_isShown_25 ?_
  refine zs_iload_n dX5_isShown_4 rfl ?_
  refine zs_iaload dX5_isShown_5 rfl (by decide) (by omega) (by omega) ?_
  refine zs_ldc (x := -99999999) dX5_isShown_6 kX5_isShown_55 (by decide) ?_
  refine zs_icmp_eq (tgt := 29) dX5_isShown_8 (by decide) (by omega) (by omega) (fun h8 => ?_) (fun h8 => ?_)
  · refine zs_iconst (x := 0) dX5_isShown_29 (by decide) ?_
    refine zs_zret dX5_isShown_30 rfl (by first | omega | (split <;> omega)) ?_
    exact ⟨(zb_n (fun z => by have z1 := z.1; have z2 := z.2; omega)).symm, rfl⟩
  · have hP := (hW p (by omega) (by omega)).resolve_left h8
    have hf := m_P_f hS hP
    refine zs_aload_n dX5_isShown_11 rfl ?_
    refine zs_iload_n dX5_isShown_12 rfl ?_
    refine zs_eV (As := [.inl (p)]) (rest := []) (q := 0) dX5_isShown_13 rfl (Nat.le_of_ble_eq_true rfl) rfl rfl YX5_clockOf rfl rfl (Nat.le_of_ble_eq_true rfl) gX5_isShown_X5_clockOf (by decide) ⟨Nat.zero_le _, Nat.zero_le _⟩ rfl (t_X5_clockOf (w := w) (p) (by omega) hS hP) ?_
    refine zs_aload_n dX5_isShown_16 rfl ?_
    refine zs_getr (j := 11) dX5_isShown_17 rfl rfl rfl (by decide) nX5_isShown_X5 fX5_isShown_40 ?_
    refine zs_iload_n dX5_isShown_20 rfl ?_
    refine zs_iaload dX5_isShown_21 rfl (by decide) (by omega) (by omega) ?_
    refine zs_icmp_ge (tgt := 29) dX5_isShown_22 (by decide) (by omega) (by omega) (fun h22 => ?_) (fun h22 => ?_)
    · refine zs_iconst (x := 0) dX5_isShown_29 (by decide) ?_
      refine zs_zret dX5_isShown_30 rfl (by first | omega | (split <;> omega)) ?_
      exact ⟨(zb_n (fun z => by have z1 := z.1; have z2 := z.2; omega)).symm, rfl⟩
    · refine zs_iconst (x := 1) dX5_isShown_25 (by decide) ?_
      refine zs_goto (tgt := 30) dX5_isShown_26 (by decide) ?_
      refine zs_zret dX5_isShown_30 rfl (by first | omega | (split <;> omega)) ?_
      exact ⟨(zb_p ⟨by omega, by omega⟩).symm, rfl⟩
set_option maxHeartbeats 4000000 in
set_option maxRecDepth 100000 in
theorem t_X5_isOver {w : zs_V} (p : Int) (hp : 0 ≤ p ∧ p < 200) (hS : x_S w) (hW : m_W w) : zs_R mX5_isOver 0 0 shM (zs_X (zb (m_ov w p)) w) w 0 [some (.inr 0), some (.inl (p))] [] := by
  have hz := m_W_z hS hW (p := p) (by omega) (by omega)
  refine zs_aload_n dX5_isOver_0 rfl ?_
  refine zs_getr (j := 6) dX5_isOver_1 rfl rfl rfl (by decide) nX5_isOver_X5 fX5_isOver_25 ?_
  refine zs_iload_n dX5_isOver_4 rfl ?_
  refine zs_iaload dX5_isOver_5 rfl (by decide) (by omega) (by omega) ?_
  refine zs_ldc (x := -99999999) dX5_isOver_6 kX5_isOver_55 (by decide) ?_
  refine zs_icmp_eq (tgt := 29) dX5_isOver_8 (by decide) (by omega) (by omega) (fun h8 => ?_) (fun h8 => ?_)
  · refine zs_iconst (x := 0) dX5_isOver_29 (by decide) ?_
    refine zs_zret dX5_isOver_30 rfl (by first | omega | (split <;> omega)) ?_
    exact ⟨(zb_n (fun z => by have z1 := z.1; have z2 := z.2; omega)).symm, rfl⟩
  · have hP := (hW p (by omega) (by omega)).resolve_left h8
    have hf := m_P_f hS hP
    refine zs_aload_n dX5_isOver_11 rfl ?_
    refine zs_iload_n dX5_isOver_12 rfl ?_
    refine zs_eV (As := [.inl (p)]) (rest := []) (q := 0) dX5_isOver_13 rfl (Nat.le_of_ble_eq_true rfl) rfl rfl YX5_clockOf rfl rfl (Nat.le_of_ble_eq_true rfl) gX5_isOver_X5_clockOf (by decide) ⟨Nat.zero_le _, Nat.zero_le _⟩ rfl (t_X5_clockOf (w := w) (p) (by omega) hS hP) ?_
    refine zs_aload_n dX5_isOver_16 rfl ?_
    refine zs_getr (j := 11) dX5_isOver_17 rfl rfl rfl (by decide) nX5_isOver_X5 fX5_isOver_40 ?_
    refine zs_iload_n dX5_isOver_20 rfl ?_
    refine zs_iaload dX5_isOver_21 rfl (by decide) (by omega) (by omega) ?_
    refine zs_icmp_lt (tgt := 29) dX5_isOver_22 (by decide) (by omega) (by omega) (fun h22 => ?_) (fun h22 => ?_)
    · refine zs_iconst (x := 0) dX5_isOver_29 (by decide) ?_
      refine zs_zret dX5_isOver_30 rfl (by first | omega | (split <;> omega)) ?_
      exact ⟨(zb_n (fun z => by have z1 := z.1; have z2 := z.2; omega)).symm, rfl⟩
    · refine zs_iconst (x := 1) dX5_isOver_25 (by decide) ?_
      refine zs_goto (tgt := 30) dX5_isOver_26 (by decide) ?_
      refine zs_zret dX5_isOver_30 rfl (by first | omega | (split <;> omega)) ?_
      exact ⟨(zb_p ⟨by omega, by omega⟩).symm, rfl⟩
set_option maxHeartbeats 4000000 in
set_option maxRecDepth 100000 in
theorem l_X5_free {w : zs_V} {r0 : Int} (hS : x_S w) (hW : m_W w) : ∀ (n : Nat) (p : Int), 0 ≤ p → p + n = 200 → m_fr w (z_fr p n) = r0 → zs_R mX5_free 0 0 shM (zs_X r0 w) w 2 [some (.inr 0), some (.inl (p))] [] := by
  intro n
  induction n using Nat.strongRecOn with
  | ind n ih =>
    intro p h0 hn hr
    refine zs_iload_n dX5_free_2 rfl ?_
    refine zs_sipush (x := 200) dX5_free_3 (by decide) ?_
    refine zs_icmp_ge (tgt := 28) dX5_free_6 (by decide) (by omega) (by omega) (fun h6 => ?_) (fun h6 => ?_)
    · refine zs_ldc (x := -99999999) dX5_free_28 kX5_free_55 (by decide) ?_
      refine zs_iret dX5_free_30 rfl ?_
      obtain rfl : n = 0 := by omega
      exact ⟨hr, rfl⟩
    · obtain ⟨n', rfl⟩ : ∃ n', n = n' + 1 := ⟨n - 1, by omega⟩
      have hz := m_W_z hS hW (p := p) (by omega) (by omega)
      refine zs_aload_n dX5_free_9 rfl ?_
      refine zs_getr (j := 6) dX5_free_10 rfl rfl rfl (by decide) nX5_free_X5 fX5_free_25 ?_
      refine zs_iload_n dX5_free_13 rfl ?_
      refine zs_iaload dX5_free_14 rfl (by decide) (by omega) (by omega) ?_
      refine zs_ldc (x := -99999999) dX5_free_15 kX5_free_55 (by decide) ?_
      refine zs_icmp_ne (tgt := 22) dX5_free_17 (by decide) (by omega) (by omega) (fun h17 => ?_) (fun h17 => ?_)
      · refine zs_iinc (lv' := [some (.inr 0), some (.inl (p + 1))]) dX5_free_22 rfl (by decide) rfl ?_
        refine zs_goto (tgt := 2) dX5_free_25 (by decide) ?_
        simp only [z_fr, m_fr] at hr
        rw [if_neg h17] at hr
        exact ih n' (by omega) (p + 1) (by omega) (by omega) hr
      · refine zs_iload_n dX5_free_20 rfl ?_
        refine zs_iret dX5_free_21 rfl ?_
        simp only [z_fr, m_fr] at hr
        rw [if_pos h17] at hr
        exact ⟨hr, rfl⟩
set_option maxHeartbeats 4000000 in
set_option maxRecDepth 100000 in
theorem t_X5_free {w : zs_V} (hS : x_S w) (hW : m_W w) : zs_R mX5_free 0 0 shM (zs_X (m_fr w z_Z) w) w 0 [some (.inr 0), none] [] := by
  refine zs_iconst (x := 0) dX5_free_0 (by decide) ?_
  refine zs_istore_n (lv' := [some (.inr 0), some (.inl (0))]) dX5_free_1 (by decide) rfl ?_
  exact l_X5_free hS hW 200 0 (by omega) (by omega) rfl
set_option maxHeartbeats 4000000 in
set_option maxRecDepth 100000 in
theorem l_X5_find {w : zs_V} {s k b r0 : Int} (hS : x_S w) (hW : m_W w) (hs : zn s ∧ ¬ s = -99999999) (hk : zn k) (hb : zn b) : ∀ (n : Nat) (p : Int), 0 ≤ p → p + n = 200 → m_fd w s k b (z_fr p n) = r0 → zs_R mX5_find 0 0 shM (zs_X r0 w) w 3 [some (.inr 0), some (.inl (s)), some (.inl (k)), some (.inl (b)), some (.inl (p))] [] := by
  intro n
  induction n using Nat.strongRecOn with
  | ind n ih =>
    intro p h0 hn hr
    refine zs_iload dX5_find_3 rfl ?_
    refine zs_sipush (x := 200) dX5_find_5 (by decide) ?_
    refine zs_icmp_ge (tgt := 53) dX5_find_8 (by decide) (by omega) (by omega) (fun h8 => ?_) (fun h8 => ?_)
    · refine zs_ldc (x := -99999999) dX5_find_53 kX5_find_55 (by decide) ?_
      refine zs_iret dX5_find_55 rfl ?_
      obtain rfl : n = 0 := by omega
      exact ⟨hr, rfl⟩
    · obtain ⟨n', rfl⟩ : ∃ n', n = n' + 1 := ⟨n - 1, by omega⟩
      have hz := m_W_z hS hW (p := p) (by omega) (by omega)
      refine zs_aload_n dX5_find_11 rfl ?_
      refine zs_getr (j := 6) dX5_find_12 rfl rfl rfl (by decide) nX5_find_X5 fX5_find_25 ?_
      refine zs_iload dX5_find_15 rfl ?_
      refine zs_iaload dX5_find_17 rfl (by decide) (by omega) (by omega) ?_
      refine zs_iload_n dX5_find_18 rfl ?_
      refine zs_icmp_ne (tgt := 47) dX5_find_19 (by decide) (by omega) (by omega) (fun h19 => ?_) (fun h19 => ?_)
      · refine zs_iinc (lv' := [some (.inr 0), some (.inl (s)), some (.inl (k)), some (.inl (b)), some (.inl (p + 1))]) dX5_find_47 rfl (by decide) rfl ?_
        refine zs_goto (tgt := 3) dX5_find_50 (by decide) ?_
        simp only [z_fr, m_fd] at hr
        rw [if_neg (fun q => h19 q.1)] at hr
        exact ih n' (by omega) (p + 1) (by omega) (by omega) hr
      · have hP := (hW p (by omega) (by omega)).resolve_left (by omega)
        have hk1 := hP.2.1
        have hb1 := hP.2.2.1
        refine zs_aload_n dX5_find_22 rfl ?_
        refine zs_getr (j := 7) dX5_find_23 rfl rfl rfl (by decide) nX5_find_X5 fX5_find_28 ?_
        refine zs_iload dX5_find_26 rfl ?_
        refine zs_iaload dX5_find_28 rfl (by decide) (by omega) (by omega) ?_
        refine zs_iload_n dX5_find_29 rfl ?_
        refine zs_icmp_ne (tgt := 47) dX5_find_30 (by decide) (by omega) (by omega) (fun h30 => ?_) (fun h30 => ?_)
        · refine zs_iinc (lv' := [some (.inr 0), some (.inl (s)), some (.inl (k)), some (.inl (b)), some (.inl (p + 1))]) dX5_find_47 rfl (by decide) rfl ?_
          refine zs_goto (tgt := 3) dX5_find_50 (by decide) ?_
          simp only [z_fr, m_fd] at hr
          rw [if_neg (fun q => h30 q.2.1)] at hr
          exact ih n' (by omega) (p + 1) (by omega) (by omega) hr
        · refine zs_aload_n dX5_find_33 rfl ?_
          refine zs_getr (j := 8) dX5_find_34 rfl rfl rfl (by decide) nX5_find_X5 fX5_find_31 ?_
          refine zs_iload dX5_find_37 rfl ?_
          refine zs_iaload dX5_find_39 rfl (by decide) (by omega) (by omega) ?_
          refine zs_iload_n dX5_find_40 rfl ?_
          refine zs_icmp_ne (tgt := 47) dX5_find_41 (by decide) (by omega) (by omega) (fun h41 => ?_) (fun h41 => ?_)
          · refine zs_iinc (lv' := [some (.inr 0), some (.inl (s)), some (.inl (k)), some (.inl (b)), some (.inl (p + 1))]) dX5_find_47 rfl (by decide) rfl ?_
            refine zs_goto (tgt := 3) dX5_find_50 (by decide) ?_
            simp only [z_fr, m_fd] at hr
            rw [if_neg (fun q => h41 q.2.2)] at hr
            exact ih n' (by omega) (p + 1) (by omega) (by omega) hr
          · refine zs_iload dX5_find_44 rfl ?_
            refine zs_iret dX5_find_46 rfl ?_
            simp only [z_fr, m_fd] at hr
            rw [if_pos ⟨h19, h30, h41⟩] at hr
            exact ⟨hr, rfl⟩
set_option maxHeartbeats 4000000 in
set_option maxRecDepth 100000 in
theorem t_X5_find {w : zs_V} (s k b : Int) (hS : x_S w) (hW : m_W w) (hs : zn s ∧ ¬ s = -99999999) (hk : zn k) (hb : zn b) : zs_R mX5_find 0 0 shM (zs_X (m_fd w s k b z_Z) w) w 0 [some (.inr 0), some (.inl (s)), some (.inl (k)), some (.inl (b)), none] [] := by
  refine zs_iconst (x := 0) dX5_find_0 (by decide) ?_
  refine zs_istore (lv' := [some (.inr 0), some (.inl (s)), some (.inl (k)), some (.inl (b)), some (.inl (0))]) dX5_find_1 (by decide) rfl ?_
  exact l_X5_find hS hW hs hk hb 200 0 (by omega) (by omega) rfl
set_option maxHeartbeats 4000000 in
set_option maxRecDepth 100000 in
theorem t_X5_stamps {w : zs_V} (p : Int) (hp : 0 ≤ p ∧ p < 200) (hS : x_S w) (hs : 0 ≤ w 5 p ∧ w 5 p < w 15 0) : zs_R mX5_stamps 0 0 shM (zs_X 0 (m_stamp w p)) w 0 [some (.inr 0), some (.inl (p)), none] [] := by
  have hs1 := x_S_at hS hs.1 hs.2
  refine zs_aload_n dX5_stamps_0 rfl ?_
  refine zs_getr (j := 6) dX5_stamps_1 rfl rfl rfl (by decide) nX5_stamps_X5 fX5_stamps_25 ?_
  refine zs_iload_n dX5_stamps_4 rfl ?_
  refine zs_iaload dX5_stamps_5 rfl (by decide) (by omega) (by omega) ?_
  refine zs_istore_n (lv' := [some (.inr 0), some (.inl (p)), some (.inl (w 5 (p)))]) dX5_stamps_6 (by decide) rfl ?_
  refine zs_aload_n dX5_stamps_7 rfl ?_
  refine zs_getr (j := 10) dX5_stamps_8 rfl rfl rfl (by decide) nX5_stamps_X5 fX5_stamps_37 ?_
  refine zs_iload_n dX5_stamps_11 rfl ?_
  refine zs_aload_n dX5_stamps_12 rfl ?_
  refine zs_getr (j := 5) dX5_stamps_13 rfl rfl rfl (by decide) nX5_stamps_X5 fX5_stamps_22 ?_
  refine zs_aload_n dX5_stamps_16 rfl ?_
  refine zs_getr (j := 2) dX5_stamps_17 rfl rfl rfl (by decide) nX5_stamps_X5 fX5_stamps_13 ?_
  refine zs_iload_n dX5_stamps_20 rfl ?_
  refine zs_iaload dX5_stamps_21 rfl (by decide) (by omega) (by omega) ?_
  refine zs_iaload dX5_stamps_22 rfl (by decide) (by omega) (by omega) ?_
  refine zs_iastore dX5_stamps_23 rfl (by decide) (by decide) (by omega) (by omega) ?_
  refine zs_aload_n dX5_stamps_24 rfl ?_
  refine zs_getr (j := 11) dX5_stamps_25 rfl rfl rfl (by decide) nX5_stamps_X5 fX5_stamps_40 ?_
  refine zs_iload_n dX5_stamps_28 rfl ?_
  refine zs_aload_n dX5_stamps_29 rfl ?_
  refine zs_getr (j := 10) dX5_stamps_30 rfl rfl rfl (by decide) nX5_stamps_X5 fX5_stamps_37 ?_
  refine zs_iload_n dX5_stamps_33 rfl ?_
  refine zs_iaload dX5_stamps_34 rfl (by decide) (by omega) (by omega) ?_
  refine zs_aload_n dX5_stamps_35 rfl ?_
  refine zs_getr (j := 3) dX5_stamps_36 rfl rfl rfl (by decide) nX5_stamps_X5 fX5_stamps_16 ?_
  refine zs_iload_n dX5_stamps_39 rfl ?_
  refine zs_iaload dX5_stamps_40 rfl (by decide) (by omega) (by omega) ?_
  refine zs_iadd dX5_stamps_41 ?_
  refine zs_iastore dX5_stamps_42 rfl (by decide) (by decide) (by omega) (by omega) ?_
  refine zs_vret dX5_stamps_43 rfl ?_
  refine ⟨rfl, ?_⟩
  unfold m_stamp
  rw [zs_put_s]
  rfl
set_option maxHeartbeats 4000000 in
set_option maxRecDepth 100000 in
theorem t_X5_writes {w : zs_V} (p s k b x : Int) (hp : 0 ≤ p ∧ p < 200) (hS0 : x_S w) (hs0 : 0 ≤ s ∧ s < w 15 0) : zs_R mX5_writes 0 0 shM (zs_X 0 (m_wr w p s k b x)) w 0 [some (.inr 0), some (.inl (p)), some (.inl (s)), some (.inl (k)), some (.inl (b)), some (.inl (x))] [] := by
  refine zs_aload_n dX5_writes_0 rfl ?_
  refine zs_getr (j := 6) dX5_writes_1 rfl rfl rfl (by decide) nX5_writes_X5 fX5_writes_25 ?_
  refine zs_iload_n dX5_writes_4 rfl ?_
  refine zs_iload_n dX5_writes_5 rfl ?_
  refine zs_iastore dX5_writes_6 rfl (by decide) (by decide) (by omega) (by omega) ?_
  refine zs_aload_n dX5_writes_7 rfl ?_
  refine zs_getr (j := 7) dX5_writes_8 rfl rfl rfl (by decide) nX5_writes_X5 fX5_writes_28 ?_
  refine zs_iload_n dX5_writes_11 rfl ?_
  refine zs_iload_n dX5_writes_12 rfl ?_
  refine zs_iastore dX5_writes_13 rfl (by decide) (by decide) (by omega) (by omega) ?_
  refine zs_aload_n dX5_writes_14 rfl ?_
  refine zs_getr (j := 8) dX5_writes_15 rfl rfl rfl (by decide) nX5_writes_X5 fX5_writes_31 ?_
  refine zs_iload_n dX5_writes_18 rfl ?_
  refine zs_iload dX5_writes_19 rfl ?_
  refine zs_iastore dX5_writes_21 rfl (by decide) (by decide) (by omega) (by omega) ?_
  refine zs_aload_n dX5_writes_22 rfl ?_
  refine zs_getr (j := 9) dX5_writes_23 rfl rfl rfl (by decide) nX5_writes_X5 fX5_writes_34 ?_
  refine zs_iload_n dX5_writes_26 rfl ?_
  refine zs_iload dX5_writes_27 rfl ?_
  refine zs_iastore dX5_writes_29 rfl (by decide) (by decide) (by omega) (by omega) ?_
  refine zs_aload_n dX5_writes_30 rfl ?_
  refine zs_dup dX5_writes_31 ?_
  refine zs_geti (j := 13) dX5_writes_32 rfl rfl rfl (by decide) nX5_writes_X5 fX5_writes_76 ?_
  refine zs_iconst (x := 1) dX5_writes_35 (by decide) ?_
  refine zs_iadd dX5_writes_36 ?_
  refine zs_puti (j := 13) dX5_writes_37 rfl rfl (by decide) rfl (by decide) nX5_writes_X5 tyX5 tyX5_ok nmX5 rfl (by decide +kernel) fX5_writes_76 ?_
  refine zs_aload_n dX5_writes_40 rfl ?_
  refine zs_getr (j := 12) dX5_writes_41 rfl rfl rfl (by decide) nX5_writes_X5 fX5_writes_43 ?_
  refine zs_iload_n dX5_writes_44 rfl ?_
  refine zs_aload_n dX5_writes_45 rfl ?_
  refine zs_geti (j := 13) dX5_writes_46 rfl rfl rfl (by decide) nX5_writes_X5 fX5_writes_76 ?_
  refine zs_iastore dX5_writes_49 rfl (by decide) (by decide) (by omega) (by omega) ?_
  have hS : x_S (zs_put (zs_put (zs_put (zs_put (zs_put (zs_put w 5 (p) (s)) 6 (p) (k)) 7 (p) (b)) 8 (p) (x)) 16 0 (((zs_put (zs_put (zs_put (zs_put w 5 (p) (s)) 6 (p) (k)) 7 (p) (b)) 8 (p) (x)) 16 0) + (1))) 11 (p) ((zs_put (zs_put (zs_put (zs_put (zs_put w 5 (p) (s)) 6 (p) (k)) 7 (p) (b)) 8 (p) (x)) 16 0 (((zs_put (zs_put (zs_put (zs_put w 5 (p) (s)) 6 (p) (k)) 7 (p) (b)) 8 (p) (x)) 16 0) + (1))) 16 0)) := x_S_of rfl rfl rfl rfl rfl rfl hS0
  have hs : 0 ≤ (zs_put (zs_put (zs_put (zs_put (zs_put (zs_put w 5 (p) (s)) 6 (p) (k)) 7 (p) (b)) 8 (p) (x)) 16 0 (((zs_put (zs_put (zs_put (zs_put w 5 (p) (s)) 6 (p) (k)) 7 (p) (b)) 8 (p) (x)) 16 0) + (1))) 11 (p) ((zs_put (zs_put (zs_put (zs_put (zs_put w 5 (p) (s)) 6 (p) (k)) 7 (p) (b)) 8 (p) (x)) 16 0 (((zs_put (zs_put (zs_put (zs_put w 5 (p) (s)) 6 (p) (k)) 7 (p) (b)) 8 (p) (x)) 16 0) + (1))) 16 0)) 5 p ∧ (zs_put (zs_put (zs_put (zs_put (zs_put (zs_put w 5 (p) (s)) 6 (p) (k)) 7 (p) (b)) 8 (p) (x)) 16 0 (((zs_put (zs_put (zs_put (zs_put w 5 (p) (s)) 6 (p) (k)) 7 (p) (b)) 8 (p) (x)) 16 0) + (1))) 11 (p) ((zs_put (zs_put (zs_put (zs_put (zs_put w 5 (p) (s)) 6 (p) (k)) 7 (p) (b)) 8 (p) (x)) 16 0 (((zs_put (zs_put (zs_put (zs_put w 5 (p) (s)) 6 (p) (k)) 7 (p) (b)) 8 (p) (x)) 16 0) + (1))) 16 0)) 5 p < (zs_put (zs_put (zs_put (zs_put (zs_put (zs_put w 5 (p) (s)) 6 (p) (k)) 7 (p) (b)) 8 (p) (x)) 16 0 (((zs_put (zs_put (zs_put (zs_put w 5 (p) (s)) 6 (p) (k)) 7 (p) (b)) 8 (p) (x)) 16 0) + (1))) 11 (p) ((zs_put (zs_put (zs_put (zs_put (zs_put w 5 (p) (s)) 6 (p) (k)) 7 (p) (b)) 8 (p) (x)) 16 0 (((zs_put (zs_put (zs_put (zs_put w 5 (p) (s)) 6 (p) (k)) 7 (p) (b)) 8 (p) (x)) 16 0) + (1))) 16 0)) 15 0 := by
    rw [show (zs_put (zs_put (zs_put (zs_put (zs_put (zs_put w 5 (p) (s)) 6 (p) (k)) 7 (p) (b)) 8 (p) (x)) 16 0 (((zs_put (zs_put (zs_put (zs_put w 5 (p) (s)) 6 (p) (k)) 7 (p) (b)) 8 (p) (x)) 16 0) + (1))) 11 (p) ((zs_put (zs_put (zs_put (zs_put (zs_put w 5 (p) (s)) 6 (p) (k)) 7 (p) (b)) 8 (p) (x)) 16 0 (((zs_put (zs_put (zs_put (zs_put w 5 (p) (s)) 6 (p) (k)) 7 (p) (b)) 8 (p) (x)) 16 0) + (1))) 16 0)) 5 p = s from by show zs_put w 5 p s 5 p = s; exact zs_put_s _ _ _ _]
    exact hs0
  refine zs_aload_n dX5_writes_50 rfl ?_
  refine zs_iload_n dX5_writes_51 rfl ?_
  refine zs_eVv (As := [.inl (p)]) (rest := []) (q := 0) dX5_writes_52 rfl (Nat.le_of_ble_eq_true rfl) rfl rfl YX5_stamps rfl rfl (Nat.le_of_ble_eq_true rfl) gX5_writes_X5_stamps (by decide) ⟨Nat.zero_le _, Nat.zero_le _⟩ rfl (t_X5_stamps (w := (zs_put (zs_put (zs_put (zs_put (zs_put (zs_put w 5 (p) (s)) 6 (p) (k)) 7 (p) (b)) 8 (p) (x)) 16 0 (((zs_put (zs_put (zs_put (zs_put w 5 (p) (s)) 6 (p) (k)) 7 (p) (b)) 8 (p) (x)) 16 0) + (1))) 11 (p) ((zs_put (zs_put (zs_put (zs_put (zs_put w 5 (p) (s)) 6 (p) (k)) 7 (p) (b)) 8 (p) (x)) 16 0 (((zs_put (zs_put (zs_put (zs_put w 5 (p) (s)) 6 (p) (k)) 7 (p) (b)) 8 (p) (x)) 16 0) + (1))) 16 0))) (p) (by omega) hS hs) ?_
  refine zs_vret dX5_writes_55 rfl ?_
  exact ⟨rfl, rfl⟩
set_option maxHeartbeats 4000000 in
set_option maxRecDepth 100000 in
theorem t_X5_read {w : zs_V} (p : Int) (hp : 0 ≤ p ∧ p < 200) (hS : x_S w) (hs : 0 ≤ w 5 p ∧ w 5 p < w 15 0) : zs_R mX5_read 0 0 shM (zs_X (w 8 p) (m_read w p)) w 0 [some (.inr 0), some (.inl (p))] [] := by
  have hs1 := x_S_at hS hs.1 hs.2
  refine zs_aload_n dX5_read_0 rfl ?_
  refine zs_getr (j := 4) dX5_read_1 rfl rfl rfl (by decide) nX5_read_X5 fX5_read_19 ?_
  refine zs_aload_n dX5_read_4 rfl ?_
  refine zs_getr (j := 6) dX5_read_5 rfl rfl rfl (by decide) nX5_read_X5 fX5_read_25 ?_
  refine zs_iload_n dX5_read_8 rfl ?_
  refine zs_iaload dX5_read_9 rfl (by decide) (by omega) (by omega) ?_
  refine zs_iaload dX5_read_10 rfl (by decide) (by omega) (by omega) ?_
  refine zs_iconst (x := 1) dX5_read_11 (by decide) ?_
  refine zs_icmp_ne (tgt := 20) dX5_read_12 (by decide) (by omega) (by omega) (fun h12 => ?_) (fun h12 => ?_)
  · refine zs_aload_n dX5_read_20 rfl ?_
    refine zs_getr (j := 9) dX5_read_21 rfl rfl rfl (by decide) nX5_read_X5 fX5_read_34 ?_
    refine zs_iload_n dX5_read_24 rfl ?_
    refine zs_iaload dX5_read_25 rfl (by decide) (by omega) (by omega) ?_
    refine zs_iret dX5_read_26 rfl ?_
    exact ⟨rfl, by unfold m_read; rw [if_neg h12]⟩
  · refine zs_aload_n dX5_read_15 rfl ?_
    refine zs_iload_n dX5_read_16 rfl ?_
    refine zs_eVv (As := [.inl (p)]) (rest := []) (q := 0) dX5_read_17 rfl (Nat.le_of_ble_eq_true rfl) rfl rfl YX5_stamps rfl rfl (Nat.le_of_ble_eq_true rfl) gX5_read_X5_stamps (by decide) ⟨Nat.zero_le _, Nat.zero_le _⟩ rfl (t_X5_stamps (w := w) (p) (by omega) hS hs) ?_
    refine zs_aload_n dX5_read_20 rfl ?_
    refine zs_getr (j := 9) dX5_read_21 rfl rfl rfl (by decide) nX5_read_X5 fX5_read_34 ?_
    refine zs_iload_n dX5_read_24 rfl ?_
    refine zs_iaload dX5_read_25 rfl (by decide) (by omega) (by omega) ?_
    refine zs_iret dX5_read_26 rfl ?_
    exact ⟨rfl, by unfold m_read; rw [if_pos h12]⟩

theorem m_shift_step (w : zs_V) (n : Int) (h : 0 ≤ n) : zs_put (m_shift w n) 12 n ((m_shift w n) 12 (n + 6)) = m_shift w (n + 1) := by
  have e : (m_shift w n) 12 (n + 6) = w 12 (n + 6) := by
    unfold m_shift
    rw [if_neg (by omega)]
  rw [e]
  funext r j
  unfold zs_put m_shift
  by_cases h1 : r = 12
  · subst h1
    by_cases h2 : j = n
    · subst h2
      rw [if_pos rfl, if_pos rfl, if_pos ⟨rfl, h, by omega⟩]
    · rw [if_pos rfl, if_neg h2]
      by_cases h3 : 0 ≤ j ∧ j < n
      · rw [if_pos ⟨rfl, h3⟩, if_pos ⟨rfl, h3.1, by omega⟩]
      · rw [if_neg (fun z => h3 z.2), if_neg (fun z => h3 ⟨z.2.1, by have := z.2.2; omega⟩)]
  · rw [if_neg h1, if_neg (fun z => h1 z.1), if_neg (fun z => h1 z.1)]
theorem m_shift_0 (w : zs_V) : m_shift w 0 = w := by
  funext r j
  unfold m_shift
  rw [if_neg (by omega)]
theorem m_shift_r (w : zs_V) (n : Int) {r : Nat} (h : r ≠ 12) : m_shift w n r = w r := by
  funext j
  unfold m_shift
  rw [if_neg (fun z => h z.1)]
set_option maxHeartbeats 4000000 in
set_option maxRecDepth 100000 in
theorem l_X5_tellsB {u : zs_V} (p : Int) (x2 : Option zs_A) (hp : 0 ≤ p ∧ p < 200) (hr : 0 ≤ u 18 0 ∧ u 18 0 < 150) : zs_R mX5_tells 0 0 shM (zs_X 0 (m_tB u (6 * u 18 0) p)) u 47 [some (.inr 0), some (.inl (p)), x2] [] := by
  refine zs_bipush (x := 6) dX5_tells_47 (by decide) ?_
  refine zs_aload_n dX5_tells_49 rfl ?_
  refine zs_geti (j := 16) dX5_tells_50 rfl rfl rfl (by decide) nX5_tells_X5 fX5_tells_83 ?_
  refine zs_imul dX5_tells_53 ?_
  refine zs_istore_n (lv' := [some (.inr 0), some (.inl (p)), some (.inl ((6) * (u 18 0)))]) dX5_tells_54 (by decide) rfl ?_
  refine zs_aload_n dX5_tells_55 rfl ?_
  refine zs_getr (j := 15) dX5_tells_56 rfl rfl rfl (by decide) nX5_tells_X5 fX5_tells_46 ?_
  refine zs_iload_n dX5_tells_59 rfl ?_
  refine zs_aload_n dX5_tells_60 rfl ?_
  refine zs_getr (j := 6) dX5_tells_61 rfl rfl rfl (by decide) nX5_tells_X5 fX5_tells_25 ?_
  refine zs_iload_n dX5_tells_64 rfl ?_
  refine zs_iaload dX5_tells_65 rfl (by decide) (by omega) (by omega) ?_
  refine zs_iastore dX5_tells_66 rfl (by decide) (by decide) (by omega) (by omega) ?_
  refine zs_aload_n dX5_tells_67 rfl ?_
  refine zs_getr (j := 15) dX5_tells_68 rfl rfl rfl (by decide) nX5_tells_X5 fX5_tells_46 ?_
  refine zs_iload_n dX5_tells_71 rfl ?_
  refine zs_iconst (x := 1) dX5_tells_72 (by decide) ?_
  refine zs_iadd dX5_tells_73 ?_
  refine zs_aload_n dX5_tells_74 rfl ?_
  refine zs_getr (j := 7) dX5_tells_75 rfl rfl rfl (by decide) nX5_tells_X5 fX5_tells_28 ?_
  refine zs_iload_n dX5_tells_78 rfl ?_
  refine zs_iaload dX5_tells_79 rfl (by decide) (by omega) (by omega) ?_
  refine zs_iastore dX5_tells_80 rfl (by decide) (by decide) (by omega) (by omega) ?_
  refine zs_aload_n dX5_tells_81 rfl ?_
  refine zs_getr (j := 15) dX5_tells_82 rfl rfl rfl (by decide) nX5_tells_X5 fX5_tells_46 ?_
  refine zs_iload_n dX5_tells_85 rfl ?_
  refine zs_iconst (x := 2) dX5_tells_86 (by decide) ?_
  refine zs_iadd dX5_tells_87 ?_
  refine zs_aload_n dX5_tells_88 rfl ?_
  refine zs_getr (j := 8) dX5_tells_89 rfl rfl rfl (by decide) nX5_tells_X5 fX5_tells_31 ?_
  refine zs_iload_n dX5_tells_92 rfl ?_
  refine zs_iaload dX5_tells_93 rfl (by decide) (by omega) (by omega) ?_
  refine zs_iastore dX5_tells_94 rfl (by decide) (by decide) (by omega) (by omega) ?_
  refine zs_aload_n dX5_tells_95 rfl ?_
  refine zs_getr (j := 15) dX5_tells_96 rfl rfl rfl (by decide) nX5_tells_X5 fX5_tells_46 ?_
  refine zs_iload_n dX5_tells_99 rfl ?_
  refine zs_iconst (x := 3) dX5_tells_100 (by decide) ?_
  refine zs_iadd dX5_tells_101 ?_
  refine zs_aload_n dX5_tells_102 rfl ?_
  refine zs_getr (j := 9) dX5_tells_103 rfl rfl rfl (by decide) nX5_tells_X5 fX5_tells_34 ?_
  refine zs_iload_n dX5_tells_106 rfl ?_
  refine zs_iaload dX5_tells_107 rfl (by decide) (by omega) (by omega) ?_
  refine zs_iastore dX5_tells_108 rfl (by decide) (by decide) (by omega) (by omega) ?_
  refine zs_aload_n dX5_tells_109 rfl ?_
  refine zs_getr (j := 15) dX5_tells_110 rfl rfl rfl (by decide) nX5_tells_X5 fX5_tells_46 ?_
  refine zs_iload_n dX5_tells_113 rfl ?_
  refine zs_iconst (x := 4) dX5_tells_114 (by decide) ?_
  refine zs_iadd dX5_tells_115 ?_
  refine zs_aload_n dX5_tells_116 rfl ?_
  refine zs_getr (j := 11) dX5_tells_117 rfl rfl rfl (by decide) nX5_tells_X5 fX5_tells_40 ?_
  refine zs_iload_n dX5_tells_120 rfl ?_
  refine zs_iaload dX5_tells_121 rfl (by decide) (by omega) (by omega) ?_
  refine zs_iastore dX5_tells_122 rfl (by decide) (by decide) (by omega) (by omega) ?_
  refine zs_aload_n dX5_tells_123 rfl ?_
  refine zs_getr (j := 15) dX5_tells_124 rfl rfl rfl (by decide) nX5_tells_X5 fX5_tells_46 ?_
  refine zs_iload_n dX5_tells_127 rfl ?_
  refine zs_iconst (x := 5) dX5_tells_128 (by decide) ?_
  refine zs_iadd dX5_tells_129 ?_
  refine zs_aload_n dX5_tells_130 rfl ?_
  refine zs_getr (j := 5) dX5_tells_131 rfl rfl rfl (by decide) nX5_tells_X5 fX5_tells_22 ?_
  refine zs_iconst (x := 0) dX5_tells_134 (by decide) ?_
  refine zs_iaload dX5_tells_135 rfl (by decide) (by omega) (by omega) ?_
  refine zs_iastore dX5_tells_136 rfl (by decide) (by decide) (by omega) (by omega) ?_
  refine zs_aload_n dX5_tells_137 rfl ?_
  refine zs_dup dX5_tells_138 ?_
  refine zs_geti (j := 16) dX5_tells_139 rfl rfl rfl (by decide) nX5_tells_X5 fX5_tells_83 ?_
  refine zs_iconst (x := 1) dX5_tells_142 (by decide) ?_
  refine zs_iadd dX5_tells_143 ?_
  refine zs_puti (j := 16) dX5_tells_144 rfl rfl (by decide) rfl (by decide) nX5_tells_X5 tyX5 tyX5_ok nmX5 rfl (by decide +kernel) fX5_tells_83 ?_
  refine zs_aload_n dX5_tells_147 rfl ?_
  refine zs_dup dX5_tells_148 ?_
  refine zs_geti (j := 17) dX5_tells_149 rfl rfl rfl (by decide) nX5_tells_X5 fX5_tells_86 ?_
  refine zs_iconst (x := 1) dX5_tells_152 (by decide) ?_
  refine zs_iadd dX5_tells_153 ?_
  refine zs_puti (j := 17) dX5_tells_154 rfl rfl (by decide) rfl (by decide) nX5_tells_X5 tyX5 tyX5_ok nmX5 rfl (by decide +kernel) fX5_tells_86 ?_
  refine zs_vret dX5_tells_157 rfl ?_
  exact ⟨rfl, rfl⟩
set_option maxHeartbeats 4000000 in
set_option maxRecDepth 100000 in
theorem l_X5_tellsA {w : zs_V} (p : Int) (hp : 0 ≤ p ∧ p < 200) : ∀ (n : Nat) (i : Int), 0 ≤ i → i + n = 894 → zs_R mX5_tells 0 0 shM (zs_X 0 (m_tB (zs_put (m_shift w 894) 18 0 149) (6 * 149) p)) (m_shift w i) 12 [some (.inr 0), some (.inl (p)), some (.inl (i))] [] := by
  intro n
  induction n using Nat.strongRecOn with
  | ind n ih =>
    intro i h0 hn
    refine zs_iload_n dX5_tells_12 rfl ?_
    refine zs_sipush (x := 894) dX5_tells_13 (by decide) ?_
    refine zs_icmp_ge (tgt := 40) dX5_tells_16 (by decide) (by omega) (by omega) (fun h16 => ?_) (fun h16 => ?_)
    · refine zs_aload_n dX5_tells_40 rfl ?_
      refine zs_sipush (x := 149) dX5_tells_41 (by decide) ?_
      refine zs_puti (j := 16) dX5_tells_44 rfl rfl (by decide) rfl (by decide) nX5_tells_X5 tyX5 tyX5_ok nmX5 rfl (by decide +kernel) fX5_tells_83 ?_
      obtain rfl : i = 894 := by omega
      exact l_X5_tellsB (u := zs_put (m_shift w 894) 18 0 149) p _ hp (by rw [zs_put_s]; omega)
    · refine zs_aload_n dX5_tells_19 rfl ?_
      refine zs_getr (j := 15) dX5_tells_20 rfl rfl rfl (by decide) nX5_tells_X5 fX5_tells_46 ?_
      refine zs_iload_n dX5_tells_23 rfl ?_
      refine zs_aload_n dX5_tells_24 rfl ?_
      refine zs_getr (j := 15) dX5_tells_25 rfl rfl rfl (by decide) nX5_tells_X5 fX5_tells_46 ?_
      refine zs_iload_n dX5_tells_28 rfl ?_
      refine zs_bipush (x := 6) dX5_tells_29 (by decide) ?_
      refine zs_iadd dX5_tells_31 ?_
      refine zs_iaload dX5_tells_32 rfl (by decide) (by omega) (by omega) ?_
      refine zs_iastore dX5_tells_33 rfl (by decide) (by decide) (by omega) (by omega) ?_
      refine zs_iinc (lv' := [some (.inr 0), some (.inl (p)), some (.inl (i + 1))]) dX5_tells_34 rfl (by decide) rfl ?_
      refine zs_goto (tgt := 12) dX5_tells_37 (by decide) ?_
      rw [m_shift_step w i h0]
      exact ih (n - 1) (by omega) (i + 1) (by omega) (by omega)
set_option maxHeartbeats 4000000 in
set_option maxRecDepth 100000 in
theorem t_X5_tells {w : zs_V} (p : Int) (hp : 0 ≤ p ∧ p < 200) (hr : 0 ≤ w 18 0 ∧ w 18 0 ≤ 150) : zs_R mX5_tells 0 0 shM (zs_X 0 (m_tell w p)) w 0 [some (.inr 0), some (.inl (p)), none] [] := by
  refine zs_aload_n dX5_tells_0 rfl ?_
  refine zs_geti (j := 16) dX5_tells_1 rfl rfl rfl (by decide) nX5_tells_X5 fX5_tells_83 ?_
  refine zs_sipush (x := 150) dX5_tells_4 (by decide) ?_
  refine zs_icmp_ne (tgt := 47) dX5_tells_7 (by decide) (by omega) (by omega) (fun h7 => ?_) (fun h7 => ?_)
  · have e : m_tell w p = m_tB w (6 * w 18 0) p := by unfold m_tell m_ts; rw [if_neg h7]
    rw [e]
    exact l_X5_tellsB p _ hp (by omega)
  · refine zs_iconst (x := 0) dX5_tells_10 (by decide) ?_
    refine zs_istore_n (lv' := [some (.inr 0), some (.inl (p)), some (.inl (0))]) dX5_tells_11 (by decide) rfl ?_
    have e : m_tell w p = m_tB (zs_put (m_shift w 894) 18 0 149) (6 * 149) p := by unfold m_tell m_ts; rw [if_pos h7, zs_put_s]
    rw [e]
    have h := l_X5_tellsA (w := w) p hp 894 0 (by omega) (by omega)
    rw [m_shift_0] at h
    exact h
end
