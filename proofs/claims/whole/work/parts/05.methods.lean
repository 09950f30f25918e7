def shX : List zs_C := [.inl (4, [some (.inl 1), some (.inl 7), some (.inl 13), some (.inl 15), some (.inr 20)]), .inl (3, [some (.inl 2), some (.inl 3), some (.inl 4), some (.inl 5), some (.inl 6), some (.inr 15)]), .inr (0, 6), .inr (1, 6), .inr (2, 6), .inr (3, 6), .inr (4, 2), .inl (1, [some (.inl 8), some (.inl 9), some (.inl 10), some (.inl 11), some (.inl 12), some (.inr 16)]), .inr (5, 200), .inr (6, 200), .inr (7, 200), .inr (8, 200), .inr (9, 200), .inl (2, [some (.inl 14), some (.inr 17), some (.inr 18), some (.inr 19)]), .inr (10, 900), .inl (0, [some (.inl 16), some (.inl 17), some (.inl 18), some (.inl 19)]), .inr (11, 600), .inr (12, 600), .inr (13, 600), .inr (14, 3)]
def shM : List zs_C := [.inl (5, [some (.inr 15), some (.inl 1), some (.inl 2), some (.inl 3), some (.inl 4), some (.inl 5), some (.inl 6), some (.inl 7), some (.inl 8), some (.inl 9), some (.inl 10), some (.inl 11), some (.inl 12), some (.inr 16), some (.inr 17), some (.inl 13), some (.inr 18), some (.inr 19), some (.inl 14), some (.inl 15)]), .inr (0, 6), .inr (1, 6), .inr (2, 6), .inr (3, 6), .inr (4, 2), .inr (5, 200), .inr (6, 200), .inr (7, 200), .inr (8, 200), .inr (9, 200), .inr (10, 200), .inr (11, 200), .inr (12, 900), .inr (13, 3), .inr (14, 3000)]
def mJ7_fill_53178 : zs_M := (RJ7, cJ7_fill_53178, wsJ7_fill_53178, 4, none, { frames := 0, cells := 0, slots := 0, locals := 0 })
theorem YJ7_fill_53178 : zs_Y mJ7_fill_53178 yJ7_fill_53178 2 := ⟨⟨_, rfl⟩, rfl, by decide +kernel, ⟨by decide +kernel, by decide +kernel, by decide +kernel⟩, rfl, rfl⟩
def mX0_begin : zs_M := (RX0, cX0_begin, wsX0_begin, 2, none, { frames := 0, cells := 0, slots := 0, locals := 0 })
theorem YX0_begin : zs_Y mX0_begin yX0_begin 1 := ⟨⟨_, rfl⟩, rfl, by decide +kernel, ⟨by decide +kernel, by decide +kernel, by decide +kernel⟩, rfl, rfl⟩
set_option maxRecDepth 20000 in
theorem nX0_begin_X0 : ∀ w ∈ u_ws RX0 TX0 4, w ∈ mX0_begin.2.2.1 := by decide +kernel
set_option maxRecDepth 20000 in
theorem fX0_begin_21 : Cond.fieldLink mX0_begin.1 21 (TX0 3).1 (TX0 3).2.1 (TX0 3).2.2.1 ∈ mX0_begin.2.2.1 := by decide +kernel
def mX0_indexOf : zs_M := (RX0, cX0_indexOf, wsX0_indexOf, 3, (some .int), { frames := 0, cells := 0, slots := 0, locals := 0 })
theorem YX0_indexOf : zs_Y mX0_indexOf yX0_indexOf 2 := ⟨⟨_, rfl⟩, rfl, by decide +kernel, ⟨by decide +kernel, by decide +kernel, by decide +kernel⟩, rfl, rfl⟩
def mX0_keep : zs_M := (RX0, cX0_keep, wsX0_keep, 6, none, { frames := 1, cells := 0, slots := 0, locals := 40 })
theorem YX0_keep : zs_Y mX0_keep yX0_keep 4 := ⟨⟨_, rfl⟩, rfl, by decide +kernel, ⟨by decide +kernel, by decide +kernel, by decide +kernel⟩, rfl, rfl⟩
set_option maxRecDepth 20000 in
theorem nX0_keep_X0 : ∀ w ∈ u_ws RX0 TX0 4, w ∈ mX0_keep.2.2.1 := by decide +kernel
set_option maxRecDepth 20000 in
theorem fX0_keep_21 : Cond.fieldLink mX0_keep.1 21 (TX0 3).1 (TX0 3).2.1 (TX0 3).2.2.1 ∈ mX0_keep.2.2.1 := by decide +kernel
set_option maxRecDepth 20000 in
theorem fX0_keep_9 : Cond.fieldLink mX0_keep.1 9 (TX0 0).1 (TX0 0).2.1 (TX0 0).2.2.1 ∈ mX0_keep.2.2.1 := by decide +kernel
set_option maxRecDepth 20000 in
theorem fX0_keep_15 : Cond.fieldLink mX0_keep.1 15 (TX0 1).1 (TX0 1).2.1 (TX0 1).2.2.1 ∈ mX0_keep.2.2.1 := by decide +kernel
set_option maxRecDepth 20000 in
theorem fX0_keep_18 : Cond.fieldLink mX0_keep.1 18 (TX0 2).1 (TX0 2).2.1 (TX0 2).2.2.1 ∈ mX0_keep.2.2.1 := by decide +kernel
def mX1_isTaken : zs_M := (RX1, cX1_isTaken, wsX1_isTaken, 2, (some .boolean), { frames := 0, cells := 0, slots := 0, locals := 0 })
theorem YX1_isTaken : zs_Y mX1_isTaken yX1_isTaken 1 := ⟨⟨_, rfl⟩, rfl, by decide +kernel, ⟨by decide +kernel, by decide +kernel, by decide +kernel⟩, rfl, rfl⟩
set_option maxRecDepth 20000 in
theorem nX1_isTaken_X1 : ∀ w ∈ u_ws RX1 TX1 6, w ∈ mX1_isTaken.2.2.1 := by decide +kernel
set_option maxRecDepth 20000 in
theorem fX1_isTaken_9 : Cond.fieldLink mX1_isTaken.1 9 (TX1 0).1 (TX1 0).2.1 (TX1 0).2.2.1 ∈ mX1_isTaken.2.2.1 := by decide +kernel
def mX1_stateAt : zs_M := (RX1, cX1_stateAt, wsX1_stateAt, 2, (some .int), { frames := 0, cells := 0, slots := 0, locals := 0 })
theorem YX1_stateAt : zs_Y mX1_stateAt yX1_stateAt 1 := ⟨⟨_, rfl⟩, rfl, by decide +kernel, ⟨by decide +kernel, by decide +kernel, by decide +kernel⟩, rfl, rfl⟩
set_option maxRecDepth 20000 in
theorem nX1_stateAt_X1 : ∀ w ∈ u_ws RX1 TX1 6, w ∈ mX1_stateAt.2.2.1 := by decide +kernel
set_option maxRecDepth 20000 in
theorem fX1_stateAt_9 : Cond.fieldLink mX1_stateAt.1 9 (TX1 0).1 (TX1 0).2.1 (TX1 0).2.2.1 ∈ mX1_stateAt.2.2.1 := by decide +kernel
def mX1_keyAt : zs_M := (RX1, cX1_keyAt, wsX1_keyAt, 2, (some .int), { frames := 0, cells := 0, slots := 0, locals := 0 })
theorem YX1_keyAt : zs_Y mX1_keyAt yX1_keyAt 1 := ⟨⟨_, rfl⟩, rfl, by decide +kernel, ⟨by decide +kernel, by decide +kernel, by decide +kernel⟩, rfl, rfl⟩
set_option maxRecDepth 20000 in
theorem nX1_keyAt_X1 : ∀ w ∈ u_ws RX1 TX1 6, w ∈ mX1_keyAt.2.2.1 := by decide +kernel
set_option maxRecDepth 20000 in
theorem fX1_keyAt_9 : Cond.fieldLink mX1_keyAt.1 9 (TX1 0).1 (TX1 0).2.1 (TX1 0).2.2.1 ∈ mX1_keyAt.2.2.1 := by decide +kernel
def mX1_memberAt : zs_M := (RX1, cX1_memberAt, wsX1_memberAt, 2, (some .int), { frames := 0, cells := 0, slots := 0, locals := 0 })
theorem YX1_memberAt : zs_Y mX1_memberAt yX1_memberAt 1 := ⟨⟨_, rfl⟩, rfl, by decide +kernel, ⟨by decide +kernel, by decide +kernel, by decide +kernel⟩, rfl, rfl⟩
set_option maxRecDepth 20000 in
theorem nX1_memberAt_X1 : ∀ w ∈ u_ws RX1 TX1 6, w ∈ mX1_memberAt.2.2.1 := by decide +kernel
set_option maxRecDepth 20000 in
theorem fX1_memberAt_9 : Cond.fieldLink mX1_memberAt.1 9 (TX1 0).1 (TX1 0).2.1 (TX1 0).2.2.1 ∈ mX1_memberAt.2.2.1 := by decide +kernel
def mX1_leastFree : zs_M := (RX1, cX1_leastFree, wsX1_leastFree, 2, (some .int), { frames := 1, cells := 0, slots := 0, locals := 40 })
theorem YX1_leastFree : zs_Y mX1_leastFree yX1_leastFree 0 := ⟨⟨_, rfl⟩, rfl, by decide +kernel, ⟨by decide +kernel, by decide +kernel, by decide +kernel⟩, rfl, rfl⟩
def mX1_take : zs_M := (RX1, cX1_take, wsX1_take, 4, none, { frames := 0, cells := 0, slots := 0, locals := 0 })
theorem YX1_take : zs_Y mX1_take yX1_take 2 := ⟨⟨_, rfl⟩, rfl, by decide +kernel, ⟨by decide +kernel, by decide +kernel, by decide +kernel⟩, rfl, rfl⟩
set_option maxRecDepth 20000 in
theorem nX1_take_X1 : ∀ w ∈ u_ws RX1 TX1 6, w ∈ mX1_take.2.2.1 := by decide +kernel
set_option maxRecDepth 20000 in
theorem fX1_take_9 : Cond.fieldLink mX1_take.1 9 (TX1 0).1 (TX1 0).2.1 (TX1 0).2.2.1 ∈ mX1_take.2.2.1 := by decide +kernel
set_option maxRecDepth 20000 in
theorem fX1_take_27 : Cond.fieldLink mX1_take.1 27 (TX1 5).1 (TX1 5).2.1 (TX1 5).2.2.1 ∈ mX1_take.2.2.1 := by decide +kernel
set_option maxRecDepth 20000 in
theorem fX1_take_24 : Cond.fieldLink mX1_take.1 24 (TX1 4).1 (TX1 4).2.1 (TX1 4).2.2.1 ∈ mX1_take.2.2.1 := by decide +kernel
def mX1_vacate : zs_M := (RX1, cX1_vacate, wsX1_vacate, 4, none, { frames := 0, cells := 0, slots := 0, locals := 0 })
theorem YX1_vacate : zs_Y mX1_vacate yX1_vacate 1 := ⟨⟨_, rfl⟩, rfl, by decide +kernel, ⟨by decide +kernel, by decide +kernel, by decide +kernel⟩, rfl, rfl⟩
set_option maxRecDepth 20000 in
theorem nX1_vacate_X1 : ∀ w ∈ u_ws RX1 TX1 6, w ∈ mX1_vacate.2.2.1 := by decide +kernel
set_option maxRecDepth 20000 in
theorem fX1_vacate_9 : Cond.fieldLink mX1_vacate.1 9 (TX1 0).1 (TX1 0).2.1 (TX1 0).2.2.1 ∈ mX1_vacate.2.2.1 := by decide +kernel
set_option maxRecDepth 20000 in
theorem fX1_vacate_27 : Cond.fieldLink mX1_vacate.1 27 (TX1 5).1 (TX1 5).2.1 (TX1 5).2.2.1 ∈ mX1_vacate.2.2.1 := by decide +kernel
set_option maxRecDepth 20000 in
theorem fX1_vacate_24 : Cond.fieldLink mX1_vacate.1 24 (TX1 4).1 (TX1 4).2.1 (TX1 4).2.2.1 ∈ mX1_vacate.2.2.1 := by decide +kernel
def mX1_vacateAll : zs_M := (RX1, cX1_vacateAll, wsX1_vacateAll, 1, none, { frames := 1, cells := 0, slots := 0, locals := 40 })
theorem YX1_vacateAll : zs_Y mX1_vacateAll yX1_vacateAll 0 := ⟨⟨_, rfl⟩, rfl, by decide +kernel, ⟨by decide +kernel, by decide +kernel, by decide +kernel⟩, rfl, rfl⟩
set_option maxRecDepth 20000 in
theorem nX1_vacateAll_X1 : ∀ w ∈ u_ws RX1 TX1 6, w ∈ mX1_vacateAll.2.2.1 := by decide +kernel
set_option maxRecDepth 20000 in
theorem fX1_vacateAll_9 : Cond.fieldLink mX1_vacateAll.1 9 (TX1 0).1 (TX1 0).2.1 (TX1 0).2.2.1 ∈ mX1_vacateAll.2.2.1 := by decide +kernel
set_option maxRecDepth 20000 in
theorem fX1_vacateAll_27 : Cond.fieldLink mX1_vacateAll.1 27 (TX1 5).1 (TX1 5).2.1 (TX1 5).2.2.1 ∈ mX1_vacateAll.2.2.1 := by decide +kernel
def mX2_indexOf : zs_M := (RX2, cX2_indexOf, wsX2_indexOf, 2, (some .int), { frames := 0, cells := 0, slots := 0, locals := 0 })
theorem YX2_indexOf : zs_Y mX2_indexOf yX2_indexOf 1 := ⟨⟨_, rfl⟩, rfl, by decide +kernel, ⟨by decide +kernel, by decide +kernel, by decide +kernel⟩, rfl, rfl⟩
set_option maxRecDepth 20000 in
theorem nX2_indexOf_X2 : ∀ w ∈ u_ws RX2 TX2 4, w ∈ mX2_indexOf.2.2.1 := by decide +kernel
set_option maxRecDepth 20000 in
theorem fX2_indexOf_15 : Cond.fieldLink mX2_indexOf.1 15 (TX2 1).1 (TX2 1).2.1 (TX2 1).2.2.1 ∈ mX2_indexOf.2.2.1 := by decide +kernel
def mX2_begin : zs_M := (RX2, cX2_begin, wsX2_begin, 1, (some .int), { frames := 1, cells := 0, slots := 0, locals := 40 })
theorem YX2_begin : zs_Y mX2_begin yX2_begin 0 := ⟨⟨_, rfl⟩, rfl, by decide +kernel, ⟨by decide +kernel, by decide +kernel, by decide +kernel⟩, rfl, rfl⟩
set_option maxRecDepth 20000 in
theorem nX2_begin_X2 : ∀ w ∈ u_ws RX2 TX2 4, w ∈ mX2_begin.2.2.1 := by decide +kernel
set_option maxRecDepth 20000 in
theorem fX2_begin_19 : Cond.fieldLink mX2_begin.1 19 (TX2 2).1 (TX2 2).2.1 (TX2 2).2.2.1 ∈ mX2_begin.2.2.1 := by decide +kernel
set_option maxRecDepth 20000 in
theorem fX2_begin_15 : Cond.fieldLink mX2_begin.1 15 (TX2 1).1 (TX2 1).2.1 (TX2 1).2.2.1 ∈ mX2_begin.2.2.1 := by decide +kernel
set_option maxRecDepth 20000 in
theorem fX2_begin_22 : Cond.fieldLink mX2_begin.1 22 (TX2 3).1 (TX2 3).2.1 (TX2 3).2.2.1 ∈ mX2_begin.2.2.1 := by decide +kernel
def mX2_cell : zs_M := (RX2, cX2_cell, wsX2_cell, 3, (some .int), { frames := 1, cells := 0, slots := 0, locals := 40 })
theorem YX2_cell : zs_Y mX2_cell yX2_cell 2 := ⟨⟨_, rfl⟩, rfl, by decide +kernel, ⟨by decide +kernel, by decide +kernel, by decide +kernel⟩, rfl, rfl⟩
set_option maxRecDepth 20000 in
theorem nX2_cell_X2 : ∀ w ∈ u_ws RX2 TX2 4, w ∈ mX2_cell.2.2.1 := by decide +kernel
set_option maxRecDepth 20000 in
theorem fX2_cell_9 : Cond.fieldLink mX2_cell.1 9 (TX2 0).1 (TX2 0).2.1 (TX2 0).2.2.1 ∈ mX2_cell.2.2.1 := by decide +kernel
def mX3_make : zs_M := (RX3, cX3_make, wsX3_make, 6, (some .int), { frames := 0, cells := 0, slots := 0, locals := 0 })
theorem YX3_make : zs_Y mX3_make yX3_make 4 := ⟨⟨_, rfl⟩, rfl, by decide +kernel, ⟨by decide +kernel, by decide +kernel, by decide +kernel⟩, rfl, rfl⟩
set_option maxRecDepth 20000 in
theorem nX3_make_X3 : ∀ w ∈ u_ws RX3 TX3 6, w ∈ mX3_make.2.2.1 := by decide +kernel
set_option maxRecDepth 20000 in
theorem fX3_make_27 : Cond.fieldLink mX3_make.1 27 (TX3 5).1 (TX3 5).2.1 (TX3 5).2.2.1 ∈ mX3_make.2.2.1 := by decide +kernel
set_option maxRecDepth 20000 in
theorem fX3_make_9 : Cond.fieldLink mX3_make.1 9 (TX3 0).1 (TX3 0).2.1 (TX3 0).2.2.1 ∈ mX3_make.2.2.1 := by decide +kernel
set_option maxRecDepth 20000 in
theorem fX3_make_15 : Cond.fieldLink mX3_make.1 15 (TX3 1).1 (TX3 1).2.1 (TX3 1).2.2.1 ∈ mX3_make.2.2.1 := by decide +kernel
set_option maxRecDepth 20000 in
theorem fX3_make_18 : Cond.fieldLink mX3_make.1 18 (TX3 2).1 (TX3 2).2.1 (TX3 2).2.2.1 ∈ mX3_make.2.2.1 := by decide +kernel
set_option maxRecDepth 20000 in
theorem fX3_make_21 : Cond.fieldLink mX3_make.1 21 (TX3 3).1 (TX3 3).2.1 (TX3 3).2.2.1 ∈ mX3_make.2.2.1 := by decide +kernel
def mX3_has : zs_M := (RX3, cX3_has, wsX3_has, 2, (some .boolean), { frames := 0, cells := 0, slots := 0, locals := 0 })
theorem YX3_has : zs_Y mX3_has yX3_has 1 := ⟨⟨_, rfl⟩, rfl, by decide +kernel, ⟨by decide +kernel, by decide +kernel, by decide +kernel⟩, rfl, rfl⟩
set_option maxRecDepth 20000 in
theorem nX3_has_X3 : ∀ w ∈ u_ws RX3 TX3 6, w ∈ mX3_has.2.2.1 := by decide +kernel
set_option maxRecDepth 20000 in
theorem fX3_has_27 : Cond.fieldLink mX3_has.1 27 (TX3 5).1 (TX3 5).2.1 (TX3 5).2.2.1 ∈ mX3_has.2.2.1 := by decide +kernel
def mX3_isList : zs_M := (RX3, cX3_isList, wsX3_isList, 2, (some .boolean), { frames := 0, cells := 0, slots := 0, locals := 0 })
theorem YX3_isList : zs_Y mX3_isList yX3_isList 1 := ⟨⟨_, rfl⟩, rfl, by decide +kernel, ⟨by decide +kernel, by decide +kernel, by decide +kernel⟩, rfl, rfl⟩
set_option maxRecDepth 20000 in
theorem nX3_isList_X3 : ∀ w ∈ u_ws RX3 TX3 6, w ∈ mX3_isList.2.2.1 := by decide +kernel
set_option maxRecDepth 20000 in
theorem fX3_isList_9 : Cond.fieldLink mX3_isList.1 9 (TX3 0).1 (TX3 0).2.1 (TX3 0).2.2.1 ∈ mX3_isList.2.2.1 := by decide +kernel
def mX3_isStampedByReads : zs_M := (RX3, cX3_isStampedByReads, wsX3_isStampedByReads, 2, (some .boolean), { frames := 0, cells := 0, slots := 0, locals := 0 })
theorem YX3_isStampedByReads : zs_Y mX3_isStampedByReads yX3_isStampedByReads 1 := ⟨⟨_, rfl⟩, rfl, by decide +kernel, ⟨by decide +kernel, by decide +kernel, by decide +kernel⟩, rfl, rfl⟩
set_option maxRecDepth 20000 in
theorem nX3_isStampedByReads_X3 : ∀ w ∈ u_ws RX3 TX3 6, w ∈ mX3_isStampedByReads.2.2.1 := by decide +kernel
set_option maxRecDepth 20000 in
theorem fX3_isStampedByReads_21 : Cond.fieldLink mX3_isStampedByReads.1 21 (TX3 3).1 (TX3 3).2.1 (TX3 3).2.2.1 ∈ mX3_isStampedByReads.2.2.1 := by decide +kernel
def mX3_timeOf : zs_M := (RX3, cX3_timeOf, wsX3_timeOf, 2, (some .int), { frames := 0, cells := 0, slots := 0, locals := 0 })
theorem YX3_timeOf : zs_Y mX3_timeOf yX3_timeOf 1 := ⟨⟨_, rfl⟩, rfl, by decide +kernel, ⟨by decide +kernel, by decide +kernel, by decide +kernel⟩, rfl, rfl⟩
set_option maxRecDepth 20000 in
theorem nX3_timeOf_X3 : ∀ w ∈ u_ws RX3 TX3 6, w ∈ mX3_timeOf.2.2.1 := by decide +kernel
set_option maxRecDepth 20000 in
theorem fX3_timeOf_24 : Cond.fieldLink mX3_timeOf.1 24 (TX3 4).1 (TX3 4).2.1 (TX3 4).2.2.1 ∈ mX3_timeOf.2.2.1 := by decide +kernel
set_option maxRecDepth 20000 in
theorem fX3_timeOf_15 : Cond.fieldLink mX3_timeOf.1 15 (TX3 1).1 (TX3 1).2.1 (TX3 1).2.2.1 ∈ mX3_timeOf.2.2.1 := by decide +kernel
def mX4_isZeroOrOne : zs_M := (RX4, cX4_isZeroOrOne, wsX4_isZeroOrOne, 1, (some .boolean), { frames := 0, cells := 0, slots := 0, locals := 0 })
theorem YX4_isZeroOrOne : zs_Y mX4_isZeroOrOne yX4_isZeroOrOne 1 := ⟨⟨_, rfl⟩, rfl, by decide +kernel, ⟨by decide +kernel, by decide +kernel, by decide +kernel⟩, rfl, rfl⟩
def mX4_isSpan : zs_M := (RX4, cX4_isSpan, wsX4_isSpan, 1, (some .boolean), { frames := 0, cells := 0, slots := 0, locals := 0 })
theorem YX4_isSpan : zs_Y mX4_isSpan yX4_isSpan 1 := ⟨⟨_, rfl⟩, rfl, by decide +kernel, ⟨by decide +kernel, by decide +kernel, by decide +kernel⟩, rfl, rfl⟩
set_option maxRecDepth 20000 in
theorem kX4_isSpan_118 : Cond.constant mX4_isSpan.1 118 (100000) ∈ mX4_isSpan.2.2.1 := by decide +kernel
def mX4_state : zs_M := (RX4, cX4_state, wsX4_state, 5, (some .int), { frames := 1, cells := 0, slots := 0, locals := 40 })
theorem YX4_state : zs_Y mX4_state yX4_state 4 := ⟨⟨_, rfl⟩, rfl, by decide +kernel, ⟨by decide +kernel, by decide +kernel, by decide +kernel⟩, rfl, rfl⟩
set_option maxRecDepth 20000 in
theorem nX4_state_X4 : ∀ w ∈ u_ws RX4 TX4 5, w ∈ mX4_state.2.2.1 := by decide +kernel
set_option maxRecDepth 20000 in
theorem fX4_state_12 : Cond.fieldLink mX4_state.1 12 (TX4 0).1 (TX4 0).2.1 (TX4 0).2.2.1 ∈ mX4_state.2.2.1 := by decide +kernel
set_option maxRecDepth 20000 in
theorem nX4_state_X3 : ∀ w ∈ u_ws RX3 TX3 6, w ∈ mX4_state.2.2.1 := by decide +kernel
set_option maxRecDepth 20000 in
theorem fX4_state_48 : Cond.fieldLink mX4_state.1 48 (TX3 5).1 (TX3 5).2.1 (TX3 5).2.2.1 ∈ mX4_state.2.2.1 := by decide +kernel
def mX4_isStateAndKey : zs_M := (RX4, cX4_isStateAndKey, wsX4_isStateAndKey, 3, (some .boolean), { frames := 1, cells := 0, slots := 0, locals := 40 })
theorem YX4_isStateAndKey : zs_Y mX4_isStateAndKey yX4_isStateAndKey 2 := ⟨⟨_, rfl⟩, rfl, by decide +kernel, ⟨by decide +kernel, by decide +kernel, by decide +kernel⟩, rfl, rfl⟩
set_option maxRecDepth 20000 in
theorem nX4_isStateAndKey_X4 : ∀ w ∈ u_ws RX4 TX4 5, w ∈ mX4_isStateAndKey.2.2.1 := by decide +kernel
set_option maxRecDepth 20000 in
theorem fX4_isStateAndKey_12 : Cond.fieldLink mX4_isStateAndKey.1 12 (TX4 0).1 (TX4 0).2.1 (TX4 0).2.2.1 ∈ mX4_isStateAndKey.2.2.1 := by decide +kernel
def mX4_isMember : zs_M := (RX4, cX4_isMember, wsX4_isMember, 1, (some .boolean), { frames := 0, cells := 0, slots := 0, locals := 0 })
theorem YX4_isMember : zs_Y mX4_isMember yX4_isMember 1 := ⟨⟨_, rfl⟩, rfl, by decide +kernel, ⟨by decide +kernel, by decide +kernel, by decide +kernel⟩, rfl, rfl⟩
def mX4_isNumberFor : zs_M := (RX4, cX4_isNumberFor, wsX4_isNumberFor, 4, (some .boolean), { frames := 2, cells := 0, slots := 0, locals := 80 })
theorem YX4_isNumberFor : zs_Y mX4_isNumberFor yX4_isNumberFor 3 := ⟨⟨_, rfl⟩, rfl, by decide +kernel, ⟨by decide +kernel, by decide +kernel, by decide +kernel⟩, rfl, rfl⟩
set_option maxRecDepth 20000 in
theorem nX4_isNumberFor_X4 : ∀ w ∈ u_ws RX4 TX4 5, w ∈ mX4_isNumberFor.2.2.1 := by decide +kernel
set_option maxRecDepth 20000 in
theorem fX4_isNumberFor_12 : Cond.fieldLink mX4_isNumberFor.1 12 (TX4 0).1 (TX4 0).2.1 (TX4 0).2.2.1 ∈ mX4_isNumberFor.2.2.1 := by decide +kernel
def mX4_slotOf : zs_M := (RX4, cX4_slotOf, wsX4_slotOf, 3, (some .int), { frames := 0, cells := 0, slots := 0, locals := 0 })
theorem YX4_slotOf : zs_Y mX4_slotOf yX4_slotOf 3 := ⟨⟨_, rfl⟩, rfl, by decide +kernel, ⟨by decide +kernel, by decide +kernel, by decide +kernel⟩, rfl, rfl⟩
def mX4_leftOf : zs_M := (RX4, cX4_leftOf, wsX4_leftOf, 2, (some .int), { frames := 1, cells := 0, slots := 0, locals := 40 })
theorem YX4_leftOf : zs_Y mX4_leftOf yX4_leftOf 1 := ⟨⟨_, rfl⟩, rfl, by decide +kernel, ⟨by decide +kernel, by decide +kernel, by decide +kernel⟩, rfl, rfl⟩
set_option maxRecDepth 20000 in
theorem nX4_leftOf_X4 : ∀ w ∈ u_ws RX4 TX4 5, w ∈ mX4_leftOf.2.2.1 := by decide +kernel
set_option maxRecDepth 20000 in
theorem fX4_leftOf_19 : Cond.fieldLink mX4_leftOf.1 19 (TX4 1).1 (TX4 1).2.1 (TX4 1).2.2.1 ∈ mX4_leftOf.2.2.1 := by decide +kernel
set_option maxRecDepth 20000 in
theorem nX4_leftOf_X1 : ∀ w ∈ u_ws RX1 TX1 6, w ∈ mX4_leftOf.2.2.1 := by decide +kernel
set_option maxRecDepth 20000 in
theorem fX4_leftOf_187 : Cond.fieldLink mX4_leftOf.1 187 (TX1 3).1 (TX1 3).2.1 (TX1 3).2.2.1 ∈ mX4_leftOf.2.2.1 := by decide +kernel
set_option maxRecDepth 20000 in
theorem fX4_leftOf_12 : Cond.fieldLink mX4_leftOf.1 12 (TX4 0).1 (TX4 0).2.1 (TX4 0).2.2.1 ∈ mX4_leftOf.2.2.1 := by decide +kernel
def mX4_isShown : zs_M := (RX4, cX4_isShown, wsX4_isShown, 2, (some .boolean), { frames := 2, cells := 0, slots := 0, locals := 80 })
theorem YX4_isShown : zs_Y mX4_isShown yX4_isShown 1 := ⟨⟨_, rfl⟩, rfl, by decide +kernel, ⟨by decide +kernel, by decide +kernel, by decide +kernel⟩, rfl, rfl⟩
def mX4_placeOf : zs_M := (RX4, cX4_placeOf, wsX4_placeOf, 7, (some .int), { frames := 3, cells := 0, slots := 0, locals := 120 })
theorem YX4_placeOf : zs_Y mX4_placeOf yX4_placeOf 3 := ⟨⟨_, rfl⟩, rfl, by decide +kernel, ⟨by decide +kernel, by decide +kernel, by decide +kernel⟩, rfl, rfl⟩
set_option maxRecDepth 20000 in
theorem nX4_placeOf_X4 : ∀ w ∈ u_ws RX4 TX4 5, w ∈ mX4_placeOf.2.2.1 := by decide +kernel
set_option maxRecDepth 20000 in
theorem fX4_placeOf_19 : Cond.fieldLink mX4_placeOf.1 19 (TX4 1).1 (TX4 1).2.1 (TX4 1).2.2.1 ∈ mX4_placeOf.2.2.1 := by decide +kernel
set_option maxRecDepth 20000 in
theorem nX4_placeOf_X1 : ∀ w ∈ u_ws RX1 TX1 6, w ∈ mX4_placeOf.2.2.1 := by decide +kernel
set_option maxRecDepth 20000 in
theorem fX4_placeOf_142 : Cond.fieldLink mX4_placeOf.1 142 (TX1 5).1 (TX1 5).2.1 (TX1 5).2.2.1 ∈ mX4_placeOf.2.2.1 := by decide +kernel
set_option maxRecDepth 20000 in
theorem fX4_placeOf_145 : Cond.fieldLink mX4_placeOf.1 145 (TX1 4).1 (TX1 4).2.1 (TX1 4).2.2.1 ∈ mX4_placeOf.2.2.1 := by decide +kernel
set_option maxRecDepth 20000 in
theorem fX4_placeOf_148 : Cond.fieldLink mX4_placeOf.1 148 (TX1 0).1 (TX1 0).2.1 (TX1 0).2.2.1 ∈ mX4_placeOf.2.2.1 := by decide +kernel
def mX4_stamp : zs_M := (RX4, cX4_stamp, wsX4_stamp, 4, none, { frames := 1, cells := 0, slots := 0, locals := 40 })
theorem YX4_stamp : zs_Y mX4_stamp yX4_stamp 2 := ⟨⟨_, rfl⟩, rfl, by decide +kernel, ⟨by decide +kernel, by decide +kernel, by decide +kernel⟩, rfl, rfl⟩
set_option maxRecDepth 20000 in
theorem nX4_stamp_X4 : ∀ w ∈ u_ws RX4 TX4 5, w ∈ mX4_stamp.2.2.1 := by decide +kernel
set_option maxRecDepth 20000 in
theorem fX4_stamp_12 : Cond.fieldLink mX4_stamp.1 12 (TX4 0).1 (TX4 0).2.1 (TX4 0).2.2.1 ∈ mX4_stamp.2.2.1 := by decide +kernel
set_option maxRecDepth 20000 in
theorem fX4_stamp_19 : Cond.fieldLink mX4_stamp.1 19 (TX4 1).1 (TX4 1).2.1 (TX4 1).2.2.1 ∈ mX4_stamp.2.2.1 := by decide +kernel
set_option maxRecDepth 20000 in
theorem nX4_stamp_X1 : ∀ w ∈ u_ws RX1 TX1 6, w ∈ mX4_stamp.2.2.1 := by decide +kernel
set_option maxRecDepth 20000 in
theorem fX4_stamp_212 : Cond.fieldLink mX4_stamp.1 212 (TX1 2).1 (TX1 2).2.1 (TX1 2).2.2.1 ∈ mX4_stamp.2.2.1 := by decide +kernel
set_option maxRecDepth 20000 in
theorem fX4_stamp_187 : Cond.fieldLink mX4_stamp.1 187 (TX1 3).1 (TX1 3).2.1 (TX1 3).2.2.1 ∈ mX4_stamp.2.2.1 := by decide +kernel
def mX4_write : zs_M := (RX4, cX4_write, wsX4_write, 3, none, { frames := 2, cells := 0, slots := 0, locals := 80 })
theorem YX4_write : zs_Y mX4_write yX4_write 2 := ⟨⟨_, rfl⟩, rfl, by decide +kernel, ⟨by decide +kernel, by decide +kernel, by decide +kernel⟩, rfl, rfl⟩
set_option maxRecDepth 20000 in
theorem nX4_write_X4 : ∀ w ∈ u_ws RX4 TX4 5, w ∈ mX4_write.2.2.1 := by decide +kernel
set_option maxRecDepth 20000 in
theorem fX4_write_19 : Cond.fieldLink mX4_write.1 19 (TX4 1).1 (TX4 1).2.1 (TX4 1).2.2.1 ∈ mX4_write.2.2.1 := by decide +kernel
set_option maxRecDepth 20000 in
theorem nX4_write_X1 : ∀ w ∈ u_ws RX1 TX1 6, w ∈ mX4_write.2.2.1 := by decide +kernel
set_option maxRecDepth 20000 in
theorem fX4_write_151 : Cond.fieldLink mX4_write.1 151 (TX1 1).1 (TX1 1).2.1 (TX1 1).2.2.1 ∈ mX4_write.2.2.1 := by decide +kernel
set_option maxRecDepth 20000 in
theorem fX4_write_12 : Cond.fieldLink mX4_write.1 12 (TX4 0).1 (TX4 0).2.1 (TX4 0).2.2.1 ∈ mX4_write.2.2.1 := by decide +kernel
set_option maxRecDepth 20000 in
theorem nX4_write_X3 : ∀ w ∈ u_ws RX3 TX3 6, w ∈ mX4_write.2.2.1 := by decide +kernel
set_option maxRecDepth 20000 in
theorem fX4_write_130 : Cond.fieldLink mX4_write.1 130 (TX3 2).1 (TX3 2).2.1 (TX3 2).2.2.1 ∈ mX4_write.2.2.1 := by decide +kernel
def mX4_bring : zs_M := (RX4, cX4_bring, wsX4_bring, 4, (some .boolean), { frames := 3, cells := 0, slots := 0, locals := 120 })
theorem YX4_bring : zs_Y mX4_bring yX4_bring 2 := ⟨⟨_, rfl⟩, rfl, by decide +kernel, ⟨by decide +kernel, by decide +kernel, by decide +kernel⟩, rfl, rfl⟩
set_option maxRecDepth 20000 in
theorem nX4_bring_X4 : ∀ w ∈ u_ws RX4 TX4 5, w ∈ mX4_bring.2.2.1 := by decide +kernel
set_option maxRecDepth 20000 in
theorem fX4_bring_19 : Cond.fieldLink mX4_bring.1 19 (TX4 1).1 (TX4 1).2.1 (TX4 1).2.2.1 ∈ mX4_bring.2.2.1 := by decide +kernel
def mX4_tell : zs_M := (RX4, cX4_tell, wsX4_tell, 3, none, { frames := 2, cells := 0, slots := 0, locals := 80 })
theorem YX4_tell : zs_Y mX4_tell yX4_tell 1 := ⟨⟨_, rfl⟩, rfl, by decide +kernel, ⟨by decide +kernel, by decide +kernel, by decide +kernel⟩, rfl, rfl⟩
set_option maxRecDepth 20000 in
theorem nX4_tell_X4 : ∀ w ∈ u_ws RX4 TX4 5, w ∈ mX4_tell.2.2.1 := by decide +kernel
set_option maxRecDepth 20000 in
theorem fX4_tell_26 : Cond.fieldLink mX4_tell.1 26 (TX4 2).1 (TX4 2).2.1 (TX4 2).2.2.1 ∈ mX4_tell.2.2.1 := by decide +kernel
set_option maxRecDepth 20000 in
theorem nX4_tell_X2 : ∀ w ∈ u_ws RX2 TX2 4, w ∈ mX4_tell.2.2.1 := by decide +kernel
set_option maxRecDepth 20000 in
theorem fX4_tell_220 : Cond.fieldLink mX4_tell.1 220 (TX2 0).1 (TX2 0).2.1 (TX2 0).2.2.1 ∈ mX4_tell.2.2.1 := by decide +kernel
set_option maxRecDepth 20000 in
theorem fX4_tell_19 : Cond.fieldLink mX4_tell.1 19 (TX4 1).1 (TX4 1).2.1 (TX4 1).2.2.1 ∈ mX4_tell.2.2.1 := by decide +kernel
set_option maxRecDepth 20000 in
theorem nX4_tell_X1 : ∀ w ∈ u_ws RX1 TX1 6, w ∈ mX4_tell.2.2.1 := by decide +kernel
set_option maxRecDepth 20000 in
theorem fX4_tell_151 : Cond.fieldLink mX4_tell.1 151 (TX1 1).1 (TX1 1).2.1 (TX1 1).2.2.1 ∈ mX4_tell.2.2.1 := by decide +kernel
set_option maxRecDepth 20000 in
theorem fX4_tell_187 : Cond.fieldLink mX4_tell.1 187 (TX1 3).1 (TX1 3).2.1 (TX1 3).2.2.1 ∈ mX4_tell.2.2.1 := by decide +kernel
set_option maxRecDepth 20000 in
theorem fX4_tell_12 : Cond.fieldLink mX4_tell.1 12 (TX4 0).1 (TX4 0).2.1 (TX4 0).2.2.1 ∈ mX4_tell.2.2.1 := by decide +kernel
set_option maxRecDepth 20000 in
theorem nX4_tell_X3 : ∀ w ∈ u_ws RX3 TX3 6, w ∈ mX4_tell.2.2.1 := by decide +kernel
set_option maxRecDepth 20000 in
theorem fX4_tell_119 : Cond.fieldLink mX4_tell.1 119 (TX3 4).1 (TX3 4).2.1 (TX3 4).2.2.1 ∈ mX4_tell.2.2.1 := by decide +kernel
def mX4_put : zs_M := (RX4, cX4_put, wsX4_put, 8, (some .int), { frames := 4, cells := 0, slots := 0, locals := 160 })
theorem YX4_put : zs_Y mX4_put yX4_put 4 := ⟨⟨_, rfl⟩, rfl, by decide +kernel, ⟨by decide +kernel, by decide +kernel, by decide +kernel⟩, rfl, rfl⟩
def mX4_read : zs_M := (RX4, cX4_read, wsX4_read, 3, (some .int), { frames := 2, cells := 0, slots := 0, locals := 80 })
theorem YX4_read : zs_Y mX4_read yX4_read 1 := ⟨⟨_, rfl⟩, rfl, by decide +kernel, ⟨by decide +kernel, by decide +kernel, by decide +kernel⟩, rfl, rfl⟩
set_option maxRecDepth 20000 in
theorem kX4_read_114 : Cond.constant mX4_read.1 114 (-99999999) ∈ mX4_read.2.2.1 := by decide +kernel
set_option maxRecDepth 20000 in
theorem nX4_read_X4 : ∀ w ∈ u_ws RX4 TX4 5, w ∈ mX4_read.2.2.1 := by decide +kernel
set_option maxRecDepth 20000 in
theorem fX4_read_19 : Cond.fieldLink mX4_read.1 19 (TX4 1).1 (TX4 1).2.1 (TX4 1).2.2.1 ∈ mX4_read.2.2.1 := by decide +kernel
set_option maxRecDepth 20000 in
theorem fX4_read_12 : Cond.fieldLink mX4_read.1 12 (TX4 0).1 (TX4 0).2.1 (TX4 0).2.2.1 ∈ mX4_read.2.2.1 := by decide +kernel
set_option maxRecDepth 20000 in
theorem nX4_read_X3 : ∀ w ∈ u_ws RX3 TX3 6, w ∈ mX4_read.2.2.1 := by decide +kernel
set_option maxRecDepth 20000 in
theorem fX4_read_130 : Cond.fieldLink mX4_read.1 130 (TX3 2).1 (TX3 2).2.1 (TX3 2).2.2.1 ∈ mX4_read.2.2.1 := by decide +kernel
set_option maxRecDepth 20000 in
theorem nX4_read_X1 : ∀ w ∈ u_ws RX1 TX1 6, w ∈ mX4_read.2.2.1 := by decide +kernel
set_option maxRecDepth 20000 in
theorem fX4_read_151 : Cond.fieldLink mX4_read.1 151 (TX1 1).1 (TX1 1).2.1 (TX1 1).2.2.1 ∈ mX4_read.2.2.1 := by decide +kernel
def mX4_get : zs_M := (RX4, cX4_get, wsX4_get, 4, (some .int), { frames := 4, cells := 0, slots := 0, locals := 160 })
theorem YX4_get : zs_Y mX4_get yX4_get 3 := ⟨⟨_, rfl⟩, rfl, by decide +kernel, ⟨by decide +kernel, by decide +kernel, by decide +kernel⟩, rfl, rfl⟩
def mX4_remove : zs_M := (RX4, cX4_remove, wsX4_remove, 6, (some .int), { frames := 4, cells := 0, slots := 0, locals := 160 })
theorem YX4_remove : zs_Y mX4_remove yX4_remove 3 := ⟨⟨_, rfl⟩, rfl, by decide +kernel, ⟨by decide +kernel, by decide +kernel, by decide +kernel⟩, rfl, rfl⟩
set_option maxRecDepth 20000 in
theorem nX4_remove_X4 : ∀ w ∈ u_ws RX4 TX4 5, w ∈ mX4_remove.2.2.1 := by decide +kernel
set_option maxRecDepth 20000 in
theorem fX4_remove_19 : Cond.fieldLink mX4_remove.1 19 (TX4 1).1 (TX4 1).2.1 (TX4 1).2.2.1 ∈ mX4_remove.2.2.1 := by decide +kernel
def mX4_isListFor : zs_M := (RX4, cX4_isListFor, wsX4_isListFor, 3, (some .boolean), { frames := 2, cells := 0, slots := 0, locals := 80 })
theorem YX4_isListFor : zs_Y mX4_isListFor yX4_isListFor 2 := ⟨⟨_, rfl⟩, rfl, by decide +kernel, ⟨by decide +kernel, by decide +kernel, by decide +kernel⟩, rfl, rfl⟩
set_option maxRecDepth 20000 in
theorem nX4_isListFor_X4 : ∀ w ∈ u_ws RX4 TX4 5, w ∈ mX4_isListFor.2.2.1 := by decide +kernel
set_option maxRecDepth 20000 in
theorem fX4_isListFor_12 : Cond.fieldLink mX4_isListFor.1 12 (TX4 0).1 (TX4 0).2.1 (TX4 0).2.2.1 ∈ mX4_isListFor.2.2.1 := by decide +kernel
def mX4_isOfKey : zs_M := (RX4, cX4_isOfKey, wsX4_isOfKey, 4, (some .boolean), { frames := 1, cells := 0, slots := 0, locals := 40 })
theorem YX4_isOfKey : zs_Y mX4_isOfKey yX4_isOfKey 3 := ⟨⟨_, rfl⟩, rfl, by decide +kernel, ⟨by decide +kernel, by decide +kernel, by decide +kernel⟩, rfl, rfl⟩
set_option maxRecDepth 20000 in
theorem nX4_isOfKey_X4 : ∀ w ∈ u_ws RX4 TX4 5, w ∈ mX4_isOfKey.2.2.1 := by decide +kernel
set_option maxRecDepth 20000 in
theorem fX4_isOfKey_19 : Cond.fieldLink mX4_isOfKey.1 19 (TX4 1).1 (TX4 1).2.1 (TX4 1).2.2.1 ∈ mX4_isOfKey.2.2.1 := by decide +kernel
def mX4_howMany : zs_M := (RX4, cX4_howMany, wsX4_howMany, 7, (some .int), { frames := 3, cells := 0, slots := 0, locals := 120 })
theorem YX4_howMany : zs_Y mX4_howMany yX4_howMany 3 := ⟨⟨_, rfl⟩, rfl, by decide +kernel, ⟨by decide +kernel, by decide +kernel, by decide +kernel⟩, rfl, rfl⟩
set_option maxRecDepth 20000 in
theorem nX4_howMany_X4 : ∀ w ∈ u_ws RX4 TX4 5, w ∈ mX4_howMany.2.2.1 := by decide +kernel
set_option maxRecDepth 20000 in
theorem fX4_howMany_19 : Cond.fieldLink mX4_howMany.1 19 (TX4 1).1 (TX4 1).2.1 (TX4 1).2.2.1 ∈ mX4_howMany.2.2.1 := by decide +kernel
set_option maxRecDepth 20000 in
theorem nX4_howMany_X1 : ∀ w ∈ u_ws RX1 TX1 6, w ∈ mX4_howMany.2.2.1 := by decide +kernel
set_option maxRecDepth 20000 in
theorem fX4_howMany_142 : Cond.fieldLink mX4_howMany.1 142 (TX1 5).1 (TX1 5).2.1 (TX1 5).2.2.1 ∈ mX4_howMany.2.2.1 := by decide +kernel
set_option maxRecDepth 20000 in
theorem fX4_howMany_145 : Cond.fieldLink mX4_howMany.1 145 (TX1 4).1 (TX1 4).2.1 (TX1 4).2.2.1 ∈ mX4_howMany.2.2.1 := by decide +kernel
def mX4_add : zs_M := (RX4, cX4_add, wsX4_add, 4, (some .int), { frames := 4, cells := 0, slots := 0, locals := 160 })
theorem YX4_add : zs_Y mX4_add yX4_add 3 := ⟨⟨_, rfl⟩, rfl, by decide +kernel, ⟨by decide +kernel, by decide +kernel, by decide +kernel⟩, rfl, rfl⟩
def mX4_at : zs_M := (RX4, cX4_at, wsX4_at, 4, (some .int), { frames := 4, cells := 0, slots := 0, locals := 160 })
theorem YX4_at : zs_Y mX4_at yX4_at 3 := ⟨⟨_, rfl⟩, rfl, by decide +kernel, ⟨by decide +kernel, by decide +kernel, by decide +kernel⟩, rfl, rfl⟩
def mX4_clear : zs_M := (RX4, cX4_clear, wsX4_clear, 5, (some .int), { frames := 4, cells := 0, slots := 0, locals := 160 })
theorem YX4_clear : zs_Y mX4_clear yX4_clear 2 := ⟨⟨_, rfl⟩, rfl, by decide +kernel, ⟨by decide +kernel, by decide +kernel, by decide +kernel⟩, rfl, rfl⟩
set_option maxRecDepth 20000 in
theorem nX4_clear_X4 : ∀ w ∈ u_ws RX4 TX4 5, w ∈ mX4_clear.2.2.1 := by decide +kernel
set_option maxRecDepth 20000 in
theorem fX4_clear_19 : Cond.fieldLink mX4_clear.1 19 (TX4 1).1 (TX4 1).2.1 (TX4 1).2.2.1 ∈ mX4_clear.2.2.1 := by decide +kernel
def mX4_held : zs_M := (RX4, cX4_held, wsX4_held, 4, (some .int), { frames := 4, cells := 0, slots := 0, locals := 160 })
theorem YX4_held : zs_Y mX4_held yX4_held 3 := ⟨⟨_, rfl⟩, rfl, by decide +kernel, ⟨by decide +kernel, by decide +kernel, by decide +kernel⟩, rfl, rfl⟩
def mX4_isMemberOrIndexFor : zs_M := (RX4, cX4_isMemberOrIndexFor, wsX4_isMemberOrIndexFor, 4, (some .boolean), { frames := 2, cells := 0, slots := 0, locals := 80 })
theorem YX4_isMemberOrIndexFor : zs_Y mX4_isMemberOrIndexFor yX4_isMemberOrIndexFor 3 := ⟨⟨_, rfl⟩, rfl, by decide +kernel, ⟨by decide +kernel, by decide +kernel, by decide +kernel⟩, rfl, rfl⟩
set_option maxRecDepth 20000 in
theorem nX4_isMemberOrIndexFor_X4 : ∀ w ∈ u_ws RX4 TX4 5, w ∈ mX4_isMemberOrIndexFor.2.2.1 := by decide +kernel
set_option maxRecDepth 20000 in
theorem fX4_isMemberOrIndexFor_12 : Cond.fieldLink mX4_isMemberOrIndexFor.1 12 (TX4 0).1 (TX4 0).2.1 (TX4 0).2.2.1 ∈ mX4_isMemberOrIndexFor.2.2.1 := by decide +kernel
def mX4_slotFor : zs_M := (RX4, cX4_slotFor, wsX4_slotFor, 4, (some .int), { frames := 1, cells := 0, slots := 0, locals := 40 })
theorem YX4_slotFor : zs_Y mX4_slotFor yX4_slotFor 3 := ⟨⟨_, rfl⟩, rfl, by decide +kernel, ⟨by decide +kernel, by decide +kernel, by decide +kernel⟩, rfl, rfl⟩
set_option maxRecDepth 20000 in
theorem nX4_slotFor_X4 : ∀ w ∈ u_ws RX4 TX4 5, w ∈ mX4_slotFor.2.2.1 := by decide +kernel
set_option maxRecDepth 20000 in
theorem fX4_slotFor_12 : Cond.fieldLink mX4_slotFor.1 12 (TX4 0).1 (TX4 0).2.1 (TX4 0).2.2.1 ∈ mX4_slotFor.2.2.1 := by decide +kernel
def mX4_indexFor : zs_M := (RX4, cX4_indexFor, wsX4_indexFor, 3, (some .int), { frames := 1, cells := 0, slots := 0, locals := 40 })
theorem YX4_indexFor : zs_Y mX4_indexFor yX4_indexFor 2 := ⟨⟨_, rfl⟩, rfl, by decide +kernel, ⟨by decide +kernel, by decide +kernel, by decide +kernel⟩, rfl, rfl⟩
set_option maxRecDepth 20000 in
theorem nX4_indexFor_X4 : ∀ w ∈ u_ws RX4 TX4 5, w ∈ mX4_indexFor.2.2.1 := by decide +kernel
set_option maxRecDepth 20000 in
theorem fX4_indexFor_12 : Cond.fieldLink mX4_indexFor.1 12 (TX4 0).1 (TX4 0).2.1 (TX4 0).2.2.1 ∈ mX4_indexFor.2.2.1 := by decide +kernel
def mX4_left : zs_M := (RX4, cX4_left, wsX4_left, 5, (some .int), { frames := 4, cells := 0, slots := 0, locals := 160 })
theorem YX4_left : zs_Y mX4_left yX4_left 3 := ⟨⟨_, rfl⟩, rfl, by decide +kernel, ⟨by decide +kernel, by decide +kernel, by decide +kernel⟩, rfl, rfl⟩
set_option maxRecDepth 20000 in
theorem kX4_left_114 : Cond.constant mX4_left.1 114 (-99999999) ∈ mX4_left.2.2.1 := by decide +kernel
def mX4_howManyShown : zs_M := (RX4, cX4_howManyShown, wsX4_howManyShown, 3, (some .int), { frames := 3, cells := 0, slots := 0, locals := 120 })
theorem YX4_howManyShown : zs_Y mX4_howManyShown yX4_howManyShown 0 := ⟨⟨_, rfl⟩, rfl, by decide +kernel, ⟨by decide +kernel, by decide +kernel, by decide +kernel⟩, rfl, rfl⟩
set_option maxRecDepth 20000 in
theorem nX4_howManyShown_X4 : ∀ w ∈ u_ws RX4 TX4 5, w ∈ mX4_howManyShown.2.2.1 := by decide +kernel
set_option maxRecDepth 20000 in
theorem fX4_howManyShown_19 : Cond.fieldLink mX4_howManyShown.1 19 (TX4 1).1 (TX4 1).2.1 (TX4 1).2.2.1 ∈ mX4_howManyShown.2.2.1 := by decide +kernel
set_option maxRecDepth 20000 in
theorem nX4_howManyShown_X1 : ∀ w ∈ u_ws RX1 TX1 6, w ∈ mX4_howManyShown.2.2.1 := by decide +kernel
set_option maxRecDepth 20000 in
theorem fX4_howManyShown_142 : Cond.fieldLink mX4_howManyShown.1 142 (TX1 5).1 (TX1 5).2.1 (TX1 5).2.2.1 ∈ mX4_howManyShown.2.2.1 := by decide +kernel
set_option maxRecDepth 20000 in
theorem fX4_howManyShown_145 : Cond.fieldLink mX4_howManyShown.1 145 (TX1 4).1 (TX1 4).2.1 (TX1 4).2.2.1 ∈ mX4_howManyShown.2.2.1 := by decide +kernel
def mX4_moveClock : zs_M := (RX4, cX4_moveClock, wsX4_moveClock, 4, (some .int), { frames := 4, cells := 0, slots := 0, locals := 160 })
theorem YX4_moveClock : zs_Y mX4_moveClock yX4_moveClock 2 := ⟨⟨_, rfl⟩, rfl, by decide +kernel, ⟨by decide +kernel, by decide +kernel, by decide +kernel⟩, rfl, rfl⟩
set_option maxRecDepth 20000 in
theorem nX4_moveClock_X4 : ∀ w ∈ u_ws RX4 TX4 5, w ∈ mX4_moveClock.2.2.1 := by decide +kernel
set_option maxRecDepth 20000 in
theorem fX4_moveClock_12 : Cond.fieldLink mX4_moveClock.1 12 (TX4 0).1 (TX4 0).2.1 (TX4 0).2.2.1 ∈ mX4_moveClock.2.2.1 := by decide +kernel
set_option maxRecDepth 20000 in
theorem nX4_moveClock_X3 : ∀ w ∈ u_ws RX3 TX3 6, w ∈ mX4_moveClock.2.2.1 := by decide +kernel
set_option maxRecDepth 20000 in
theorem fX4_moveClock_119 : Cond.fieldLink mX4_moveClock.1 119 (TX3 4).1 (TX3 4).2.1 (TX3 4).2.2.1 ∈ mX4_moveClock.2.2.1 := by decide +kernel
def mX4_tick : zs_M := (RX4, cX4_tick, wsX4_tick, 3, (some .int), { frames := 5, cells := 0, slots := 0, locals := 200 })
theorem YX4_tick : zs_Y mX4_tick yX4_tick 1 := ⟨⟨_, rfl⟩, rfl, by decide +kernel, ⟨by decide +kernel, by decide +kernel, by decide +kernel⟩, rfl, rfl⟩
set_option maxRecDepth 20000 in
theorem kX4_tick_118 : Cond.constant mX4_tick.1 118 (100000) ∈ mX4_tick.2.2.1 := by decide +kernel
set_option maxRecDepth 20000 in
theorem nX4_tick_X4 : ∀ w ∈ u_ws RX4 TX4 5, w ∈ mX4_tick.2.2.1 := by decide +kernel
set_option maxRecDepth 20000 in
theorem fX4_tick_12 : Cond.fieldLink mX4_tick.1 12 (TX4 0).1 (TX4 0).2.1 (TX4 0).2.2.1 ∈ mX4_tick.2.2.1 := by decide +kernel
set_option maxRecDepth 20000 in
theorem nX4_tick_X3 : ∀ w ∈ u_ws RX3 TX3 6, w ∈ mX4_tick.2.2.1 := by decide +kernel
set_option maxRecDepth 20000 in
theorem fX4_tick_119 : Cond.fieldLink mX4_tick.1 119 (TX3 4).1 (TX3 4).2.1 (TX3 4).2.2.1 ∈ mX4_tick.2.2.1 := by decide +kernel
set_option maxRecDepth 20000 in
theorem kX4_tick_123 : Cond.constant mX4_tick.1 123 (1000000000) ∈ mX4_tick.2.2.1 := by decide +kernel
def mX4_watermark : zs_M := (RX4, cX4_watermark, wsX4_watermark, 2, (some .int), { frames := 5, cells := 0, slots := 0, locals := 200 })
theorem YX4_watermark : zs_Y mX4_watermark yX4_watermark 1 := ⟨⟨_, rfl⟩, rfl, by decide +kernel, ⟨by decide +kernel, by decide +kernel, by decide +kernel⟩, rfl, rfl⟩
set_option maxRecDepth 20000 in
theorem kX4_watermark_123 : Cond.constant mX4_watermark.1 123 (1000000000) ∈ mX4_watermark.2.2.1 := by decide +kernel
set_option maxRecDepth 20000 in
theorem nX4_watermark_X4 : ∀ w ∈ u_ws RX4 TX4 5, w ∈ mX4_watermark.2.2.1 := by decide +kernel
set_option maxRecDepth 20000 in
theorem fX4_watermark_12 : Cond.fieldLink mX4_watermark.1 12 (TX4 0).1 (TX4 0).2.1 (TX4 0).2.2.1 ∈ mX4_watermark.2.2.1 := by decide +kernel
set_option maxRecDepth 20000 in
theorem nX4_watermark_X3 : ∀ w ∈ u_ws RX3 TX3 6, w ∈ mX4_watermark.2.2.1 := by decide +kernel
set_option maxRecDepth 20000 in
theorem fX4_watermark_119 : Cond.fieldLink mX4_watermark.1 119 (TX3 4).1 (TX3 4).2.1 (TX3 4).2.2.1 ∈ mX4_watermark.2.2.1 := by decide +kernel
def mX4_sweep : zs_M := (RX4, cX4_sweep, wsX4_sweep, 4, (some .int), { frames := 3, cells := 0, slots := 0, locals := 120 })
theorem YX4_sweep : zs_Y mX4_sweep yX4_sweep 1 := ⟨⟨_, rfl⟩, rfl, by decide +kernel, ⟨by decide +kernel, by decide +kernel, by decide +kernel⟩, rfl, rfl⟩
set_option maxRecDepth 20000 in
theorem nX4_sweep_X4 : ∀ w ∈ u_ws RX4 TX4 5, w ∈ mX4_sweep.2.2.1 := by decide +kernel
set_option maxRecDepth 20000 in
theorem fX4_sweep_19 : Cond.fieldLink mX4_sweep.1 19 (TX4 1).1 (TX4 1).2.1 (TX4 1).2.2.1 ∈ mX4_sweep.2.2.1 := by decide +kernel
set_option maxRecDepth 20000 in
theorem fX4_sweep_37 : Cond.fieldLink mX4_sweep.1 37 (TX4 4).1 (TX4 4).2.1 (TX4 4).2.2.1 ∈ mX4_sweep.2.2.1 := by decide +kernel
def mX4_spanShownAnew : zs_M := (RX4, cX4_spanShownAnew, wsX4_spanShownAnew, 4, none, { frames := 3, cells := 0, slots := 0, locals := 120 })
theorem YX4_spanShownAnew : zs_Y mX4_spanShownAnew yX4_spanShownAnew 1 := ⟨⟨_, rfl⟩, rfl, by decide +kernel, ⟨by decide +kernel, by decide +kernel, by decide +kernel⟩, rfl, rfl⟩
set_option maxRecDepth 20000 in
theorem nX4_spanShownAnew_X4 : ∀ w ∈ u_ws RX4 TX4 5, w ∈ mX4_spanShownAnew.2.2.1 := by decide +kernel
set_option maxRecDepth 20000 in
theorem fX4_spanShownAnew_19 : Cond.fieldLink mX4_spanShownAnew.1 19 (TX4 1).1 (TX4 1).2.1 (TX4 1).2.2.1 ∈ mX4_spanShownAnew.2.2.1 := by decide +kernel
set_option maxRecDepth 20000 in
theorem nX4_spanShownAnew_X1 : ∀ w ∈ u_ws RX1 TX1 6, w ∈ mX4_spanShownAnew.2.2.1 := by decide +kernel
set_option maxRecDepth 20000 in
theorem fX4_spanShownAnew_142 : Cond.fieldLink mX4_spanShownAnew.1 142 (TX1 5).1 (TX1 5).2.1 (TX1 5).2.2.1 ∈ mX4_spanShownAnew.2.2.1 := by decide +kernel
set_option maxRecDepth 20000 in
theorem fX4_spanShownAnew_145 : Cond.fieldLink mX4_spanShownAnew.1 145 (TX1 4).1 (TX1 4).2.1 (TX1 4).2.2.1 ∈ mX4_spanShownAnew.2.2.1 := by decide +kernel
set_option maxRecDepth 20000 in
theorem fX4_spanShownAnew_187 : Cond.fieldLink mX4_spanShownAnew.1 187 (TX1 3).1 (TX1 3).2.1 (TX1 3).2.2.1 ∈ mX4_spanShownAnew.2.2.1 := by decide +kernel
set_option maxRecDepth 20000 in
theorem fX4_spanShownAnew_212 : Cond.fieldLink mX4_spanShownAnew.1 212 (TX1 2).1 (TX1 2).2.1 (TX1 2).2.2.1 ∈ mX4_spanShownAnew.2.2.1 := by decide +kernel
set_option maxRecDepth 20000 in
theorem fX4_spanShownAnew_12 : Cond.fieldLink mX4_spanShownAnew.1 12 (TX4 0).1 (TX4 0).2.1 (TX4 0).2.2.1 ∈ mX4_spanShownAnew.2.2.1 := by decide +kernel
set_option maxRecDepth 20000 in
theorem nX4_spanShownAnew_X3 : ∀ w ∈ u_ws RX3 TX3 6, w ∈ mX4_spanShownAnew.2.2.1 := by decide +kernel
set_option maxRecDepth 20000 in
theorem fX4_spanShownAnew_130 : Cond.fieldLink mX4_spanShownAnew.1 130 (TX3 2).1 (TX3 2).2.1 (TX3 2).2.2.1 ∈ mX4_spanShownAnew.2.2.1 := by decide +kernel
def mX4_setting : zs_M := (RX4, cX4_setting, wsX4_setting, 5, (some .int), { frames := 4, cells := 0, slots := 0, locals := 160 })
theorem YX4_setting : zs_Y mX4_setting yX4_setting 3 := ⟨⟨_, rfl⟩, rfl, by decide +kernel, ⟨by decide +kernel, by decide +kernel, by decide +kernel⟩, rfl, rfl⟩
set_option maxRecDepth 20000 in
theorem nX4_setting_X4 : ∀ w ∈ u_ws RX4 TX4 5, w ∈ mX4_setting.2.2.1 := by decide +kernel
set_option maxRecDepth 20000 in
theorem fX4_setting_12 : Cond.fieldLink mX4_setting.1 12 (TX4 0).1 (TX4 0).2.1 (TX4 0).2.2.1 ∈ mX4_setting.2.2.1 := by decide +kernel
set_option maxRecDepth 20000 in
theorem nX4_setting_X3 : ∀ w ∈ u_ws RX3 TX3 6, w ∈ mX4_setting.2.2.1 := by decide +kernel
set_option maxRecDepth 20000 in
theorem fX4_setting_130 : Cond.fieldLink mX4_setting.1 130 (TX3 2).1 (TX3 2).2.1 (TX3 2).2.2.1 ∈ mX4_setting.2.2.1 := by decide +kernel
def mX4_isMark : zs_M := (RX4, cX4_isMark, wsX4_isMark, 1, (some .boolean), { frames := 0, cells := 0, slots := 0, locals := 0 })
theorem YX4_isMark : zs_Y mX4_isMark yX4_isMark 1 := ⟨⟨_, rfl⟩, rfl, by decide +kernel, ⟨by decide +kernel, by decide +kernel, by decide +kernel⟩, rfl, rfl⟩
def mX4_mark : zs_M := (RX4, cX4_mark, wsX4_mark, 4, (some .int), { frames := 3, cells := 0, slots := 0, locals := 120 })
theorem YX4_mark : zs_Y mX4_mark yX4_mark 1 := ⟨⟨_, rfl⟩, rfl, by decide +kernel, ⟨by decide +kernel, by decide +kernel, by decide +kernel⟩, rfl, rfl⟩
set_option maxRecDepth 20000 in
theorem nX4_mark_X4 : ∀ w ∈ u_ws RX4 TX4 5, w ∈ mX4_mark.2.2.1 := by decide +kernel
set_option maxRecDepth 20000 in
theorem fX4_mark_33 : Cond.fieldLink mX4_mark.1 33 (TX4 3).1 (TX4 3).2.1 (TX4 3).2.2.1 ∈ mX4_mark.2.2.1 := by decide +kernel
set_option maxRecDepth 20000 in
theorem fX4_mark_19 : Cond.fieldLink mX4_mark.1 19 (TX4 1).1 (TX4 1).2.1 (TX4 1).2.2.1 ∈ mX4_mark.2.2.1 := by decide +kernel
set_option maxRecDepth 20000 in
theorem nX4_mark_X1 : ∀ w ∈ u_ws RX1 TX1 6, w ∈ mX4_mark.2.2.1 := by decide +kernel
set_option maxRecDepth 20000 in
theorem fX4_mark_142 : Cond.fieldLink mX4_mark.1 142 (TX1 5).1 (TX1 5).2.1 (TX1 5).2.2.1 ∈ mX4_mark.2.2.1 := by decide +kernel
set_option maxRecDepth 20000 in
theorem fX4_mark_145 : Cond.fieldLink mX4_mark.1 145 (TX1 4).1 (TX1 4).2.1 (TX1 4).2.2.1 ∈ mX4_mark.2.2.1 := by decide +kernel
set_option maxRecDepth 20000 in
theorem fX4_mark_148 : Cond.fieldLink mX4_mark.1 148 (TX1 0).1 (TX1 0).2.1 (TX1 0).2.2.1 ∈ mX4_mark.2.2.1 := by decide +kernel
set_option maxRecDepth 20000 in
theorem fX4_mark_151 : Cond.fieldLink mX4_mark.1 151 (TX1 1).1 (TX1 1).2.1 (TX1 1).2.2.1 ∈ mX4_mark.2.2.1 := by decide +kernel
set_option maxRecDepth 20000 in
theorem nX4_mark_X0 : ∀ w ∈ u_ws RX0 TX0 4, w ∈ mX4_mark.2.2.1 := by decide +kernel
set_option maxRecDepth 20000 in
theorem fX4_mark_158 : Cond.fieldLink mX4_mark.1 158 (TX0 3).1 (TX0 3).2.1 (TX0 3).2.2.1 ∈ mX4_mark.2.2.1 := by decide +kernel
def mX4_restore : zs_M := (RX4, cX4_restore, wsX4_restore, 5, (some .int), { frames := 2, cells := 0, slots := 0, locals := 80 })
theorem YX4_restore : zs_Y mX4_restore yX4_restore 1 := ⟨⟨_, rfl⟩, rfl, by decide +kernel, ⟨by decide +kernel, by decide +kernel, by decide +kernel⟩, rfl, rfl⟩
set_option maxRecDepth 20000 in
theorem nX4_restore_X4 : ∀ w ∈ u_ws RX4 TX4 5, w ∈ mX4_restore.2.2.1 := by decide +kernel
set_option maxRecDepth 20000 in
theorem fX4_restore_33 : Cond.fieldLink mX4_restore.1 33 (TX4 3).1 (TX4 3).2.1 (TX4 3).2.2.1 ∈ mX4_restore.2.2.1 := by decide +kernel
set_option maxRecDepth 20000 in
theorem nX4_restore_X0 : ∀ w ∈ u_ws RX0 TX0 4, w ∈ mX4_restore.2.2.1 := by decide +kernel
set_option maxRecDepth 20000 in
theorem fX4_restore_158 : Cond.fieldLink mX4_restore.1 158 (TX0 3).1 (TX0 3).2.1 (TX0 3).2.2.1 ∈ mX4_restore.2.2.1 := by decide +kernel
set_option maxRecDepth 20000 in
theorem fX4_restore_19 : Cond.fieldLink mX4_restore.1 19 (TX4 1).1 (TX4 1).2.1 (TX4 1).2.2.1 ∈ mX4_restore.2.2.1 := by decide +kernel
set_option maxRecDepth 20000 in
theorem fX4_restore_167 : Cond.fieldLink mX4_restore.1 167 (TX0 0).1 (TX0 0).2.1 (TX0 0).2.2.1 ∈ mX4_restore.2.2.1 := by decide +kernel
set_option maxRecDepth 20000 in
theorem nX4_restore_X1 : ∀ w ∈ u_ws RX1 TX1 6, w ∈ mX4_restore.2.2.1 := by decide +kernel
set_option maxRecDepth 20000 in
theorem fX4_restore_151 : Cond.fieldLink mX4_restore.1 151 (TX1 1).1 (TX1 1).2.1 (TX1 1).2.2.1 ∈ mX4_restore.2.2.1 := by decide +kernel
set_option maxRecDepth 20000 in
theorem fX4_restore_171 : Cond.fieldLink mX4_restore.1 171 (TX0 1).1 (TX0 1).2.1 (TX0 1).2.2.1 ∈ mX4_restore.2.2.1 := by decide +kernel
set_option maxRecDepth 20000 in
theorem fX4_restore_172 : Cond.fieldLink mX4_restore.1 172 (TX0 2).1 (TX0 2).2.1 (TX0 2).2.2.1 ∈ mX4_restore.2.2.1 := by decide +kernel
set_option maxRecDepth 20000 in
theorem fX4_restore_37 : Cond.fieldLink mX4_restore.1 37 (TX4 4).1 (TX4 4).2.1 (TX4 4).2.2.1 ∈ mX4_restore.2.2.1 := by decide +kernel
set_option maxRecDepth 20000 in
theorem fX4_restore_142 : Cond.fieldLink mX4_restore.1 142 (TX1 5).1 (TX1 5).2.1 (TX1 5).2.2.1 ∈ mX4_restore.2.2.1 := by decide +kernel
def mX4_row : zs_M := (RX4, cX4_row, wsX4_row, 3, (some .int), { frames := 2, cells := 0, slots := 0, locals := 80 })
theorem YX4_row : zs_Y mX4_row yX4_row 2 := ⟨⟨_, rfl⟩, rfl, by decide +kernel, ⟨by decide +kernel, by decide +kernel, by decide +kernel⟩, rfl, rfl⟩
set_option maxRecDepth 20000 in
theorem nX4_row_X4 : ∀ w ∈ u_ws RX4 TX4 5, w ∈ mX4_row.2.2.1 := by decide +kernel
set_option maxRecDepth 20000 in
theorem fX4_row_26 : Cond.fieldLink mX4_row.1 26 (TX4 2).1 (TX4 2).2.1 (TX4 2).2.2.1 ∈ mX4_row.2.2.1 := by decide +kernel
set_option maxRecDepth 20000 in
theorem nX4_row_X2 : ∀ w ∈ u_ws RX2 TX2 4, w ∈ mX4_row.2.2.1 := by decide +kernel
set_option maxRecDepth 20000 in
theorem fX4_row_178 : Cond.fieldLink mX4_row.1 178 (TX2 2).1 (TX2 2).2.1 (TX2 2).2.2.1 ∈ mX4_row.2.2.1 := by decide +kernel
set_option maxRecDepth 20000 in
theorem kX4_row_114 : Cond.constant mX4_row.1 114 (-99999999) ∈ mX4_row.2.2.1 := by decide +kernel
def mX4_place : zs_M := (RX4, cX4_place, wsX4_place, 5, (some .int), { frames := 4, cells := 0, slots := 0, locals := 160 })
theorem YX4_place : zs_Y mX4_place yX4_place 3 := ⟨⟨_, rfl⟩, rfl, by decide +kernel, ⟨by decide +kernel, by decide +kernel, by decide +kernel⟩, rfl, rfl⟩
set_option maxRecDepth 20000 in
theorem kX4_place_114 : Cond.constant mX4_place.1 114 (-99999999) ∈ mX4_place.2.2.1 := by decide +kernel
def mX4_next : zs_M := (RX4, cX4_next, wsX4_next, 5, (some .int), { frames := 3, cells := 0, slots := 0, locals := 120 })
theorem YX4_next : zs_Y mX4_next yX4_next 1 := ⟨⟨_, rfl⟩, rfl, by decide +kernel, ⟨by decide +kernel, by decide +kernel, by decide +kernel⟩, rfl, rfl⟩
set_option maxRecDepth 20000 in
theorem nX4_next_X4 : ∀ w ∈ u_ws RX4 TX4 5, w ∈ mX4_next.2.2.1 := by decide +kernel
set_option maxRecDepth 20000 in
theorem fX4_next_12 : Cond.fieldLink mX4_next.1 12 (TX4 0).1 (TX4 0).2.1 (TX4 0).2.2.1 ∈ mX4_next.2.2.1 := by decide +kernel
set_option maxRecDepth 20000 in
theorem kX4_next_114 : Cond.constant mX4_next.1 114 (-99999999) ∈ mX4_next.2.2.1 := by decide +kernel
set_option maxRecDepth 20000 in
theorem fX4_next_19 : Cond.fieldLink mX4_next.1 19 (TX4 1).1 (TX4 1).2.1 (TX4 1).2.2.1 ∈ mX4_next.2.2.1 := by decide +kernel
set_option maxRecDepth 20000 in
theorem nX4_next_X1 : ∀ w ∈ u_ws RX1 TX1 6, w ∈ mX4_next.2.2.1 := by decide +kernel
set_option maxRecDepth 20000 in
theorem fX4_next_142 : Cond.fieldLink mX4_next.1 142 (TX1 5).1 (TX1 5).2.1 (TX1 5).2.2.1 ∈ mX4_next.2.2.1 := by decide +kernel
set_option maxRecDepth 20000 in
theorem fX4_next_145 : Cond.fieldLink mX4_next.1 145 (TX1 4).1 (TX1 4).2.1 (TX1 4).2.2.1 ∈ mX4_next.2.2.1 := by decide +kernel
set_option maxRecDepth 20000 in
theorem fX4_next_187 : Cond.fieldLink mX4_next.1 187 (TX1 3).1 (TX1 3).2.1 (TX1 3).2.2.1 ∈ mX4_next.2.2.1 := by decide +kernel
def mX4_count : zs_M := (RX4, cX4_count, wsX4_count, 2, (some .int), { frames := 4, cells := 0, slots := 0, locals := 160 })
theorem YX4_count : zs_Y mX4_count yX4_count 1 := ⟨⟨_, rfl⟩, rfl, by decide +kernel, ⟨by decide +kernel, by decide +kernel, by decide +kernel⟩, rfl, rfl⟩
set_option maxRecDepth 20000 in
theorem nX4_count_X4 : ∀ w ∈ u_ws RX4 TX4 5, w ∈ mX4_count.2.2.1 := by decide +kernel
set_option maxRecDepth 20000 in
theorem fX4_count_12 : Cond.fieldLink mX4_count.1 12 (TX4 0).1 (TX4 0).2.1 (TX4 0).2.2.1 ∈ mX4_count.2.2.1 := by decide +kernel
set_option maxRecDepth 20000 in
theorem nX4_count_X3 : ∀ w ∈ u_ws RX3 TX3 6, w ∈ mX4_count.2.2.1 := by decide +kernel
set_option maxRecDepth 20000 in
theorem fX4_count_48 : Cond.fieldLink mX4_count.1 48 (TX3 5).1 (TX3 5).2.1 (TX3 5).2.2.1 ∈ mX4_count.2.2.1 := by decide +kernel
set_option maxRecDepth 20000 in
theorem fX4_count_19 : Cond.fieldLink mX4_count.1 19 (TX4 1).1 (TX4 1).2.1 (TX4 1).2.2.1 ∈ mX4_count.2.2.1 := by decide +kernel
set_option maxRecDepth 20000 in
theorem nX4_count_X1 : ∀ w ∈ u_ws RX1 TX1 6, w ∈ mX4_count.2.2.1 := by decide +kernel
set_option maxRecDepth 20000 in
theorem fX4_count_142 : Cond.fieldLink mX4_count.1 142 (TX1 5).1 (TX1 5).2.1 (TX1 5).2.2.1 ∈ mX4_count.2.2.1 := by decide +kernel
set_option maxRecDepth 20000 in
theorem fX4_count_26 : Cond.fieldLink mX4_count.1 26 (TX4 2).1 (TX4 2).2.1 (TX4 2).2.2.1 ∈ mX4_count.2.2.1 := by decide +kernel
set_option maxRecDepth 20000 in
theorem nX4_count_X2 : ∀ w ∈ u_ws RX2 TX2 4, w ∈ mX4_count.2.2.1 := by decide +kernel
set_option maxRecDepth 20000 in
theorem fX4_count_178 : Cond.fieldLink mX4_count.1 178 (TX2 2).1 (TX2 2).2.1 (TX2 2).2.2.1 ∈ mX4_count.2.2.1 := by decide +kernel
set_option maxRecDepth 20000 in
theorem fX4_count_194 : Cond.fieldLink mX4_count.1 194 (TX2 3).1 (TX2 3).2.1 (TX2 3).2.2.1 ∈ mX4_count.2.2.1 := by decide +kernel
set_option maxRecDepth 20000 in
theorem fX4_count_119 : Cond.fieldLink mX4_count.1 119 (TX3 4).1 (TX3 4).2.1 (TX3 4).2.2.1 ∈ mX4_count.2.2.1 := by decide +kernel
set_option maxRecDepth 20000 in
theorem fX4_count_37 : Cond.fieldLink mX4_count.1 37 (TX4 4).1 (TX4 4).2.1 (TX4 4).2.2.1 ∈ mX4_count.2.2.1 := by decide +kernel
def mX5_isIn : zs_M := (RX5, cX5_isIn, wsX5_isIn, 3, (some .boolean), { frames := 0, cells := 0, slots := 0, locals := 0 })
theorem YX5_isIn : zs_Y mX5_isIn yX5_isIn 3 := ⟨⟨_, rfl⟩, rfl, by decide +kernel, ⟨by decide +kernel, by decide +kernel, by decide +kernel⟩, rfl, rfl⟩
def mX5_isState : zs_M := (RX5, cX5_isState, wsX5_isState, 2, (some .boolean), { frames := 1, cells := 0, slots := 0, locals := 40 })
theorem YX5_isState : zs_Y mX5_isState yX5_isState 1 := ⟨⟨_, rfl⟩, rfl, by decide +kernel, ⟨by decide +kernel, by decide +kernel, by decide +kernel⟩, rfl, rfl⟩
set_option maxRecDepth 20000 in
theorem nX5_isState_X5 : ∀ w ∈ u_ws RX5 TX5 20, w ∈ mX5_isState.2.2.1 := by decide +kernel
set_option maxRecDepth 20000 in
theorem fX5_isState_56 : Cond.fieldLink mX5_isState.1 56 (TX5 0).1 (TX5 0).2.1 (TX5 0).2.2.1 ∈ mX5_isState.2.2.1 := by decide +kernel
def mX5_isForm : zs_M := (RX5, cX5_isForm, wsX5_isForm, 3, (some .boolean), { frames := 2, cells := 0, slots := 0, locals := 80 })
theorem YX5_isForm : zs_Y mX5_isForm yX5_isForm 2 := ⟨⟨_, rfl⟩, rfl, by decide +kernel, ⟨by decide +kernel, by decide +kernel, by decide +kernel⟩, rfl, rfl⟩
set_option maxRecDepth 20000 in
theorem nX5_isForm_X5 : ∀ w ∈ u_ws RX5 TX5 20, w ∈ mX5_isForm.2.2.1 := by decide +kernel
set_option maxRecDepth 20000 in
theorem fX5_isForm_7 : Cond.fieldLink mX5_isForm.1 7 (TX5 1).1 (TX5 1).2.1 (TX5 1).2.2.1 ∈ mX5_isForm.2.2.1 := by decide +kernel
def mX5_state : zs_M := (RX5, cX5_state, wsX5_state, 5, (some .int), { frames := 1, cells := 0, slots := 0, locals := 40 })
theorem YX5_state : zs_Y mX5_state yX5_state 4 := ⟨⟨_, rfl⟩, rfl, by decide +kernel, ⟨by decide +kernel, by decide +kernel, by decide +kernel⟩, rfl, rfl⟩
set_option maxRecDepth 20000 in
theorem kX5_state_68 : Cond.constant mX5_state.1 68 (100000) ∈ mX5_state.2.2.1 := by decide +kernel
set_option maxRecDepth 20000 in
theorem nX5_state_X5 : ∀ w ∈ u_ws RX5 TX5 20, w ∈ mX5_state.2.2.1 := by decide +kernel
set_option maxRecDepth 20000 in
theorem fX5_state_56 : Cond.fieldLink mX5_state.1 56 (TX5 0).1 (TX5 0).2.1 (TX5 0).2.2.1 ∈ mX5_state.2.2.1 := by decide +kernel
set_option maxRecDepth 20000 in
theorem fX5_state_7 : Cond.fieldLink mX5_state.1 7 (TX5 1).1 (TX5 1).2.1 (TX5 1).2.2.1 ∈ mX5_state.2.2.1 := by decide +kernel
set_option maxRecDepth 20000 in
theorem fX5_state_13 : Cond.fieldLink mX5_state.1 13 (TX5 2).1 (TX5 2).2.1 (TX5 2).2.2.1 ∈ mX5_state.2.2.1 := by decide +kernel
set_option maxRecDepth 20000 in
theorem fX5_state_16 : Cond.fieldLink mX5_state.1 16 (TX5 3).1 (TX5 3).2.1 (TX5 3).2.2.1 ∈ mX5_state.2.2.1 := by decide +kernel
set_option maxRecDepth 20000 in
theorem fX5_state_19 : Cond.fieldLink mX5_state.1 19 (TX5 4).1 (TX5 4).2.1 (TX5 4).2.2.1 ∈ mX5_state.2.2.1 := by decide +kernel
def mX5_clockOf : zs_M := (RX5, cX5_clockOf, wsX5_clockOf, 2, (some .int), { frames := 0, cells := 0, slots := 0, locals := 0 })
theorem YX5_clockOf : zs_Y mX5_clockOf yX5_clockOf 1 := ⟨⟨_, rfl⟩, rfl, by decide +kernel, ⟨by decide +kernel, by decide +kernel, by decide +kernel⟩, rfl, rfl⟩
set_option maxRecDepth 20000 in
theorem nX5_clockOf_X5 : ∀ w ∈ u_ws RX5 TX5 20, w ∈ mX5_clockOf.2.2.1 := by decide +kernel
set_option maxRecDepth 20000 in
theorem fX5_clockOf_22 : Cond.fieldLink mX5_clockOf.1 22 (TX5 5).1 (TX5 5).2.1 (TX5 5).2.2.1 ∈ mX5_clockOf.2.2.1 := by decide +kernel
set_option maxRecDepth 20000 in
theorem fX5_clockOf_13 : Cond.fieldLink mX5_clockOf.1 13 (TX5 2).1 (TX5 2).2.1 (TX5 2).2.2.1 ∈ mX5_clockOf.2.2.1 := by decide +kernel
set_option maxRecDepth 20000 in
theorem fX5_clockOf_25 : Cond.fieldLink mX5_clockOf.1 25 (TX5 6).1 (TX5 6).2.1 (TX5 6).2.2.1 ∈ mX5_clockOf.2.2.1 := by decide +kernel
def mX5_isShown : zs_M := (RX5, cX5_isShown, wsX5_isShown, 2, (some .boolean), { frames := 1, cells := 0, slots := 0, locals := 40 })
theorem YX5_isShown : zs_Y mX5_isShown yX5_isShown 1 := ⟨⟨_, rfl⟩, rfl, by decide +kernel, ⟨by decide +kernel, by decide +kernel, by decide +kernel⟩, rfl, rfl⟩
set_option maxRecDepth 20000 in
theorem nX5_isShown_X5 : ∀ w ∈ u_ws RX5 TX5 20, w ∈ mX5_isShown.2.2.1 := by decide +kernel
set_option maxRecDepth 20000 in
theorem fX5_isShown_25 : Cond.fieldLink mX5_isShown.1 25 (TX5 6).1 (TX5 6).2.1 (TX5 6).2.2.1 ∈ mX5_isShown.2.2.1 := by decide +kernel
set_option maxRecDepth 20000 in
theorem kX5_isShown_55 : Cond.constant mX5_isShown.1 55 (-99999999) ∈ mX5_isShown.2.2.1 := by decide +kernel
set_option maxRecDepth 20000 in
theorem fX5_isShown_40 : Cond.fieldLink mX5_isShown.1 40 (TX5 11).1 (TX5 11).2.1 (TX5 11).2.2.1 ∈ mX5_isShown.2.2.1 := by decide +kernel
def mX5_isOver : zs_M := (RX5, cX5_isOver, wsX5_isOver, 2, (some .boolean), { frames := 1, cells := 0, slots := 0, locals := 40 })
theorem YX5_isOver : zs_Y mX5_isOver yX5_isOver 1 := ⟨⟨_, rfl⟩, rfl, by decide +kernel, ⟨by decide +kernel, by decide +kernel, by decide +kernel⟩, rfl, rfl⟩
set_option maxRecDepth 20000 in
theorem nX5_isOver_X5 : ∀ w ∈ u_ws RX5 TX5 20, w ∈ mX5_isOver.2.2.1 := by decide +kernel
set_option maxRecDepth 20000 in
theorem fX5_isOver_25 : Cond.fieldLink mX5_isOver.1 25 (TX5 6).1 (TX5 6).2.1 (TX5 6).2.2.1 ∈ mX5_isOver.2.2.1 := by decide +kernel
set_option maxRecDepth 20000 in
theorem kX5_isOver_55 : Cond.constant mX5_isOver.1 55 (-99999999) ∈ mX5_isOver.2.2.1 := by decide +kernel
set_option maxRecDepth 20000 in
theorem fX5_isOver_40 : Cond.fieldLink mX5_isOver.1 40 (TX5 11).1 (TX5 11).2.1 (TX5 11).2.2.1 ∈ mX5_isOver.2.2.1 := by decide +kernel
def mX5_free : zs_M := (RX5, cX5_free, wsX5_free, 2, (some .int), { frames := 0, cells := 0, slots := 0, locals := 0 })
theorem YX5_free : zs_Y mX5_free yX5_free 0 := ⟨⟨_, rfl⟩, rfl, by decide +kernel, ⟨by decide +kernel, by decide +kernel, by decide +kernel⟩, rfl, rfl⟩
set_option maxRecDepth 20000 in
theorem nX5_free_X5 : ∀ w ∈ u_ws RX5 TX5 20, w ∈ mX5_free.2.2.1 := by decide +kernel
set_option maxRecDepth 20000 in
theorem fX5_free_25 : Cond.fieldLink mX5_free.1 25 (TX5 6).1 (TX5 6).2.1 (TX5 6).2.2.1 ∈ mX5_free.2.2.1 := by decide +kernel
set_option maxRecDepth 20000 in
theorem kX5_free_55 : Cond.constant mX5_free.1 55 (-99999999) ∈ mX5_free.2.2.1 := by decide +kernel
def mX5_find : zs_M := (RX5, cX5_find, wsX5_find, 5, (some .int), { frames := 0, cells := 0, slots := 0, locals := 0 })
theorem YX5_find : zs_Y mX5_find yX5_find 3 := ⟨⟨_, rfl⟩, rfl, by decide +kernel, ⟨by decide +kernel, by decide +kernel, by decide +kernel⟩, rfl, rfl⟩
set_option maxRecDepth 20000 in
theorem nX5_find_X5 : ∀ w ∈ u_ws RX5 TX5 20, w ∈ mX5_find.2.2.1 := by decide +kernel
set_option maxRecDepth 20000 in
theorem fX5_find_25 : Cond.fieldLink mX5_find.1 25 (TX5 6).1 (TX5 6).2.1 (TX5 6).2.2.1 ∈ mX5_find.2.2.1 := by decide +kernel
set_option maxRecDepth 20000 in
theorem fX5_find_28 : Cond.fieldLink mX5_find.1 28 (TX5 7).1 (TX5 7).2.1 (TX5 7).2.2.1 ∈ mX5_find.2.2.1 := by decide +kernel
set_option maxRecDepth 20000 in
theorem fX5_find_31 : Cond.fieldLink mX5_find.1 31 (TX5 8).1 (TX5 8).2.1 (TX5 8).2.2.1 ∈ mX5_find.2.2.1 := by decide +kernel
set_option maxRecDepth 20000 in
theorem kX5_find_55 : Cond.constant mX5_find.1 55 (-99999999) ∈ mX5_find.2.2.1 := by decide +kernel
def mX5_findIn : zs_M := (RX5, cX5_findIn, wsX5_findIn, 10, (some .int), { frames := 2, cells := 0, slots := 0, locals := 80 })
theorem YX5_findIn : zs_Y mX5_findIn yX5_findIn 4 := ⟨⟨_, rfl⟩, rfl, by decide +kernel, ⟨by decide +kernel, by decide +kernel, by decide +kernel⟩, rfl, rfl⟩
set_option maxRecDepth 20000 in
theorem kX5_findIn_55 : Cond.constant mX5_findIn.1 55 (-99999999) ∈ mX5_findIn.2.2.1 := by decide +kernel
set_option maxRecDepth 20000 in
theorem nX5_findIn_X5 : ∀ w ∈ u_ws RX5 TX5 20, w ∈ mX5_findIn.2.2.1 := by decide +kernel
set_option maxRecDepth 20000 in
theorem fX5_findIn_25 : Cond.fieldLink mX5_findIn.1 25 (TX5 6).1 (TX5 6).2.1 (TX5 6).2.2.1 ∈ mX5_findIn.2.2.1 := by decide +kernel
set_option maxRecDepth 20000 in
theorem fX5_findIn_28 : Cond.fieldLink mX5_findIn.1 28 (TX5 7).1 (TX5 7).2.1 (TX5 7).2.2.1 ∈ mX5_findIn.2.2.1 := by decide +kernel
set_option maxRecDepth 20000 in
theorem fX5_findIn_43 : Cond.fieldLink mX5_findIn.1 43 (TX5 12).1 (TX5 12).2.1 (TX5 12).2.2.1 ∈ mX5_findIn.2.2.1 := by decide +kernel
def mX5_stamps : zs_M := (RX5, cX5_stamps, wsX5_stamps, 3, none, { frames := 0, cells := 0, slots := 0, locals := 0 })
theorem YX5_stamps : zs_Y mX5_stamps yX5_stamps 1 := ⟨⟨_, rfl⟩, rfl, by decide +kernel, ⟨by decide +kernel, by decide +kernel, by decide +kernel⟩, rfl, rfl⟩
set_option maxRecDepth 20000 in
theorem nX5_stamps_X5 : ∀ w ∈ u_ws RX5 TX5 20, w ∈ mX5_stamps.2.2.1 := by decide +kernel
set_option maxRecDepth 20000 in
theorem fX5_stamps_25 : Cond.fieldLink mX5_stamps.1 25 (TX5 6).1 (TX5 6).2.1 (TX5 6).2.2.1 ∈ mX5_stamps.2.2.1 := by decide +kernel
set_option maxRecDepth 20000 in
theorem fX5_stamps_37 : Cond.fieldLink mX5_stamps.1 37 (TX5 10).1 (TX5 10).2.1 (TX5 10).2.2.1 ∈ mX5_stamps.2.2.1 := by decide +kernel
set_option maxRecDepth 20000 in
theorem fX5_stamps_22 : Cond.fieldLink mX5_stamps.1 22 (TX5 5).1 (TX5 5).2.1 (TX5 5).2.2.1 ∈ mX5_stamps.2.2.1 := by decide +kernel
set_option maxRecDepth 20000 in
theorem fX5_stamps_13 : Cond.fieldLink mX5_stamps.1 13 (TX5 2).1 (TX5 2).2.1 (TX5 2).2.2.1 ∈ mX5_stamps.2.2.1 := by decide +kernel
set_option maxRecDepth 20000 in
theorem fX5_stamps_40 : Cond.fieldLink mX5_stamps.1 40 (TX5 11).1 (TX5 11).2.1 (TX5 11).2.2.1 ∈ mX5_stamps.2.2.1 := by decide +kernel
set_option maxRecDepth 20000 in
theorem fX5_stamps_16 : Cond.fieldLink mX5_stamps.1 16 (TX5 3).1 (TX5 3).2.1 (TX5 3).2.2.1 ∈ mX5_stamps.2.2.1 := by decide +kernel
def mX5_writes : zs_M := (RX5, cX5_writes, wsX5_writes, 6, none, { frames := 1, cells := 0, slots := 0, locals := 40 })
theorem YX5_writes : zs_Y mX5_writes yX5_writes 5 := ⟨⟨_, rfl⟩, rfl, by decide +kernel, ⟨by decide +kernel, by decide +kernel, by decide +kernel⟩, rfl, rfl⟩
set_option maxRecDepth 20000 in
theorem nX5_writes_X5 : ∀ w ∈ u_ws RX5 TX5 20, w ∈ mX5_writes.2.2.1 := by decide +kernel
set_option maxRecDepth 20000 in
theorem fX5_writes_25 : Cond.fieldLink mX5_writes.1 25 (TX5 6).1 (TX5 6).2.1 (TX5 6).2.2.1 ∈ mX5_writes.2.2.1 := by decide +kernel
set_option maxRecDepth 20000 in
theorem fX5_writes_28 : Cond.fieldLink mX5_writes.1 28 (TX5 7).1 (TX5 7).2.1 (TX5 7).2.2.1 ∈ mX5_writes.2.2.1 := by decide +kernel
set_option maxRecDepth 20000 in
theorem fX5_writes_31 : Cond.fieldLink mX5_writes.1 31 (TX5 8).1 (TX5 8).2.1 (TX5 8).2.2.1 ∈ mX5_writes.2.2.1 := by decide +kernel
set_option maxRecDepth 20000 in
theorem fX5_writes_34 : Cond.fieldLink mX5_writes.1 34 (TX5 9).1 (TX5 9).2.1 (TX5 9).2.2.1 ∈ mX5_writes.2.2.1 := by decide +kernel
set_option maxRecDepth 20000 in
theorem fX5_writes_76 : Cond.fieldLink mX5_writes.1 76 (TX5 13).1 (TX5 13).2.1 (TX5 13).2.2.1 ∈ mX5_writes.2.2.1 := by decide +kernel
set_option maxRecDepth 20000 in
theorem fX5_writes_43 : Cond.fieldLink mX5_writes.1 43 (TX5 12).1 (TX5 12).2.1 (TX5 12).2.2.1 ∈ mX5_writes.2.2.1 := by decide +kernel
def mX5_tells : zs_M := (RX5, cX5_tells, wsX5_tells, 3, none, { frames := 0, cells := 0, slots := 0, locals := 0 })
theorem YX5_tells : zs_Y mX5_tells yX5_tells 1 := ⟨⟨_, rfl⟩, rfl, by decide +kernel, ⟨by decide +kernel, by decide +kernel, by decide +kernel⟩, rfl, rfl⟩
set_option maxRecDepth 20000 in
theorem nX5_tells_X5 : ∀ w ∈ u_ws RX5 TX5 20, w ∈ mX5_tells.2.2.1 := by decide +kernel
set_option maxRecDepth 20000 in
theorem fX5_tells_83 : Cond.fieldLink mX5_tells.1 83 (TX5 16).1 (TX5 16).2.1 (TX5 16).2.2.1 ∈ mX5_tells.2.2.1 := by decide +kernel
set_option maxRecDepth 20000 in
theorem fX5_tells_46 : Cond.fieldLink mX5_tells.1 46 (TX5 15).1 (TX5 15).2.1 (TX5 15).2.2.1 ∈ mX5_tells.2.2.1 := by decide +kernel
set_option maxRecDepth 20000 in
theorem fX5_tells_25 : Cond.fieldLink mX5_tells.1 25 (TX5 6).1 (TX5 6).2.1 (TX5 6).2.2.1 ∈ mX5_tells.2.2.1 := by decide +kernel
set_option maxRecDepth 20000 in
theorem fX5_tells_28 : Cond.fieldLink mX5_tells.1 28 (TX5 7).1 (TX5 7).2.1 (TX5 7).2.2.1 ∈ mX5_tells.2.2.1 := by decide +kernel
set_option maxRecDepth 20000 in
theorem fX5_tells_31 : Cond.fieldLink mX5_tells.1 31 (TX5 8).1 (TX5 8).2.1 (TX5 8).2.2.1 ∈ mX5_tells.2.2.1 := by decide +kernel
set_option maxRecDepth 20000 in
theorem fX5_tells_34 : Cond.fieldLink mX5_tells.1 34 (TX5 9).1 (TX5 9).2.1 (TX5 9).2.2.1 ∈ mX5_tells.2.2.1 := by decide +kernel
set_option maxRecDepth 20000 in
theorem fX5_tells_40 : Cond.fieldLink mX5_tells.1 40 (TX5 11).1 (TX5 11).2.1 (TX5 11).2.2.1 ∈ mX5_tells.2.2.1 := by decide +kernel
set_option maxRecDepth 20000 in
theorem fX5_tells_22 : Cond.fieldLink mX5_tells.1 22 (TX5 5).1 (TX5 5).2.1 (TX5 5).2.2.1 ∈ mX5_tells.2.2.1 := by decide +kernel
set_option maxRecDepth 20000 in
theorem fX5_tells_86 : Cond.fieldLink mX5_tells.1 86 (TX5 17).1 (TX5 17).2.1 (TX5 17).2.2.1 ∈ mX5_tells.2.2.1 := by decide +kernel
def mX5_put : zs_M := (RX5, cX5_put, wsX5_put, 7, (some .int), { frames := 3, cells := 0, slots := 0, locals := 120 })
theorem YX5_put : zs_Y mX5_put yX5_put 4 := ⟨⟨_, rfl⟩, rfl, by decide +kernel, ⟨by decide +kernel, by decide +kernel, by decide +kernel⟩, rfl, rfl⟩
set_option maxRecDepth 20000 in
theorem kX5_put_55 : Cond.constant mX5_put.1 55 (-99999999) ∈ mX5_put.2.2.1 := by decide +kernel
def mX5_read : zs_M := (RX5, cX5_read, wsX5_read, 2, (some .int), { frames := 1, cells := 0, slots := 0, locals := 40 })
theorem YX5_read : zs_Y mX5_read yX5_read 1 := ⟨⟨_, rfl⟩, rfl, by decide +kernel, ⟨by decide +kernel, by decide +kernel, by decide +kernel⟩, rfl, rfl⟩
set_option maxRecDepth 20000 in
theorem nX5_read_X5 : ∀ w ∈ u_ws RX5 TX5 20, w ∈ mX5_read.2.2.1 := by decide +kernel
set_option maxRecDepth 20000 in
theorem fX5_read_19 : Cond.fieldLink mX5_read.1 19 (TX5 4).1 (TX5 4).2.1 (TX5 4).2.2.1 ∈ mX5_read.2.2.1 := by decide +kernel
set_option maxRecDepth 20000 in
theorem fX5_read_25 : Cond.fieldLink mX5_read.1 25 (TX5 6).1 (TX5 6).2.1 (TX5 6).2.2.1 ∈ mX5_read.2.2.1 := by decide +kernel
set_option maxRecDepth 20000 in
theorem fX5_read_34 : Cond.fieldLink mX5_read.1 34 (TX5 9).1 (TX5 9).2.1 (TX5 9).2.2.1 ∈ mX5_read.2.2.1 := by decide +kernel
def mX5_get : zs_M := (RX5, cX5_get, wsX5_get, 5, (some .int), { frames := 3, cells := 0, slots := 0, locals := 120 })
theorem YX5_get : zs_Y mX5_get yX5_get 3 := ⟨⟨_, rfl⟩, rfl, by decide +kernel, ⟨by decide +kernel, by decide +kernel, by decide +kernel⟩, rfl, rfl⟩
set_option maxRecDepth 20000 in
theorem kX5_get_55 : Cond.constant mX5_get.1 55 (-99999999) ∈ mX5_get.2.2.1 := by decide +kernel
def mX5_remove : zs_M := (RX5, cX5_remove, wsX5_remove, 6, (some .int), { frames := 3, cells := 0, slots := 0, locals := 120 })
theorem YX5_remove : zs_Y mX5_remove yX5_remove 3 := ⟨⟨_, rfl⟩, rfl, by decide +kernel, ⟨by decide +kernel, by decide +kernel, by decide +kernel⟩, rfl, rfl⟩
set_option maxRecDepth 20000 in
theorem kX5_remove_55 : Cond.constant mX5_remove.1 55 (-99999999) ∈ mX5_remove.2.2.1 := by decide +kernel
set_option maxRecDepth 20000 in
theorem nX5_remove_X5 : ∀ w ∈ u_ws RX5 TX5 20, w ∈ mX5_remove.2.2.1 := by decide +kernel
set_option maxRecDepth 20000 in
theorem fX5_remove_25 : Cond.fieldLink mX5_remove.1 25 (TX5 6).1 (TX5 6).2.1 (TX5 6).2.2.1 ∈ mX5_remove.2.2.1 := by decide +kernel
def mX5_held : zs_M := (RX5, cX5_held, wsX5_held, 6, (some .int), { frames := 2, cells := 0, slots := 0, locals := 80 })
theorem YX5_held : zs_Y mX5_held yX5_held 3 := ⟨⟨_, rfl⟩, rfl, by decide +kernel, ⟨by decide +kernel, by decide +kernel, by decide +kernel⟩, rfl, rfl⟩
set_option maxRecDepth 20000 in
theorem nX5_held_X5 : ∀ w ∈ u_ws RX5 TX5 20, w ∈ mX5_held.2.2.1 := by decide +kernel
set_option maxRecDepth 20000 in
theorem fX5_held_25 : Cond.fieldLink mX5_held.1 25 (TX5 6).1 (TX5 6).2.1 (TX5 6).2.2.1 ∈ mX5_held.2.2.1 := by decide +kernel
set_option maxRecDepth 20000 in
theorem fX5_held_28 : Cond.fieldLink mX5_held.1 28 (TX5 7).1 (TX5 7).2.1 (TX5 7).2.2.1 ∈ mX5_held.2.2.1 := by decide +kernel
def mX5_add : zs_M := (RX5, cX5_add, wsX5_add, 5, (some .int), { frames := 3, cells := 0, slots := 0, locals := 120 })
theorem YX5_add : zs_Y mX5_add yX5_add 3 := ⟨⟨_, rfl⟩, rfl, by decide +kernel, ⟨by decide +kernel, by decide +kernel, by decide +kernel⟩, rfl, rfl⟩
set_option maxRecDepth 20000 in
theorem kX5_add_55 : Cond.constant mX5_add.1 55 (-99999999) ∈ mX5_add.2.2.1 := by decide +kernel
def mX5_at : zs_M := (RX5, cX5_at, wsX5_at, 5, (some .int), { frames := 3, cells := 0, slots := 0, locals := 120 })
theorem YX5_at : zs_Y mX5_at yX5_at 3 := ⟨⟨_, rfl⟩, rfl, by decide +kernel, ⟨by decide +kernel, by decide +kernel, by decide +kernel⟩, rfl, rfl⟩
set_option maxRecDepth 20000 in
theorem kX5_at_55 : Cond.constant mX5_at.1 55 (-99999999) ∈ mX5_at.2.2.1 := by decide +kernel
def mX5_clear : zs_M := (RX5, cX5_clear, wsX5_clear, 5, (some .int), { frames := 2, cells := 0, slots := 0, locals := 80 })
theorem YX5_clear : zs_Y mX5_clear yX5_clear 2 := ⟨⟨_, rfl⟩, rfl, by decide +kernel, ⟨by decide +kernel, by decide +kernel, by decide +kernel⟩, rfl, rfl⟩
set_option maxRecDepth 20000 in
theorem nX5_clear_X5 : ∀ w ∈ u_ws RX5 TX5 20, w ∈ mX5_clear.2.2.1 := by decide +kernel
set_option maxRecDepth 20000 in
theorem fX5_clear_25 : Cond.fieldLink mX5_clear.1 25 (TX5 6).1 (TX5 6).2.1 (TX5 6).2.2.1 ∈ mX5_clear.2.2.1 := by decide +kernel
set_option maxRecDepth 20000 in
theorem fX5_clear_28 : Cond.fieldLink mX5_clear.1 28 (TX5 7).1 (TX5 7).2.1 (TX5 7).2.2.1 ∈ mX5_clear.2.2.1 := by decide +kernel
set_option maxRecDepth 20000 in
theorem kX5_clear_55 : Cond.constant mX5_clear.1 55 (-99999999) ∈ mX5_clear.2.2.1 := by decide +kernel
def mX5_isAsked : zs_M := (RX5, cX5_isAsked, wsX5_isAsked, 4, (some .boolean), { frames := 2, cells := 0, slots := 0, locals := 80 })
theorem YX5_isAsked : zs_Y mX5_isAsked yX5_isAsked 3 := ⟨⟨_, rfl⟩, rfl, by decide +kernel, ⟨by decide +kernel, by decide +kernel, by decide +kernel⟩, rfl, rfl⟩
set_option maxRecDepth 20000 in
theorem nX5_isAsked_X5 : ∀ w ∈ u_ws RX5 TX5 20, w ∈ mX5_isAsked.2.2.1 := by decide +kernel
set_option maxRecDepth 20000 in
theorem fX5_isAsked_7 : Cond.fieldLink mX5_isAsked.1 7 (TX5 1).1 (TX5 1).2.1 (TX5 1).2.2.1 ∈ mX5_isAsked.2.2.1 := by decide +kernel
def mX5_asked : zs_M := (RX5, cX5_asked, wsX5_asked, 5, (some .int), { frames := 3, cells := 0, slots := 0, locals := 120 })
theorem YX5_asked : zs_Y mX5_asked yX5_asked 4 := ⟨⟨_, rfl⟩, rfl, by decide +kernel, ⟨by decide +kernel, by decide +kernel, by decide +kernel⟩, rfl, rfl⟩
set_option maxRecDepth 20000 in
theorem nX5_asked_X5 : ∀ w ∈ u_ws RX5 TX5 20, w ∈ mX5_asked.2.2.1 := by decide +kernel
set_option maxRecDepth 20000 in
theorem fX5_asked_7 : Cond.fieldLink mX5_asked.1 7 (TX5 1).1 (TX5 1).2.1 (TX5 1).2.2.1 ∈ mX5_asked.2.2.1 := by decide +kernel
set_option maxRecDepth 20000 in
theorem kX5_asked_55 : Cond.constant mX5_asked.1 55 (-99999999) ∈ mX5_asked.2.2.1 := by decide +kernel
def mX5_left : zs_M := (RX5, cX5_left, wsX5_left, 5, (some .int), { frames := 4, cells := 0, slots := 0, locals := 160 })
theorem YX5_left : zs_Y mX5_left yX5_left 3 := ⟨⟨_, rfl⟩, rfl, by decide +kernel, ⟨by decide +kernel, by decide +kernel, by decide +kernel⟩, rfl, rfl⟩
set_option maxRecDepth 20000 in
theorem kX5_left_55 : Cond.constant mX5_left.1 55 (-99999999) ∈ mX5_left.2.2.1 := by decide +kernel
set_option maxRecDepth 20000 in
theorem nX5_left_X5 : ∀ w ∈ u_ws RX5 TX5 20, w ∈ mX5_left.2.2.1 := by decide +kernel
set_option maxRecDepth 20000 in
theorem fX5_left_40 : Cond.fieldLink mX5_left.1 40 (TX5 11).1 (TX5 11).2.1 (TX5 11).2.2.1 ∈ mX5_left.2.2.1 := by decide +kernel
def mX5_place : zs_M := (RX5, cX5_place, wsX5_place, 4, (some .int), { frames := 4, cells := 0, slots := 0, locals := 160 })
theorem YX5_place : zs_Y mX5_place yX5_place 3 := ⟨⟨_, rfl⟩, rfl, by decide +kernel, ⟨by decide +kernel, by decide +kernel, by decide +kernel⟩, rfl, rfl⟩
def mX5_overs : zs_M := (RX5, cX5_overs, wsX5_overs, 3, (some .int), { frames := 2, cells := 0, slots := 0, locals := 80 })
theorem YX5_overs : zs_Y mX5_overs yX5_overs 0 := ⟨⟨_, rfl⟩, rfl, by decide +kernel, ⟨by decide +kernel, by decide +kernel, by decide +kernel⟩, rfl, rfl⟩
def mX5_comes : zs_M := (RX5, cX5_comes, wsX5_comes, 4, (some .int), { frames := 3, cells := 0, slots := 0, locals := 120 })
theorem YX5_comes : zs_Y mX5_comes yX5_comes 2 := ⟨⟨_, rfl⟩, rfl, by decide +kernel, ⟨by decide +kernel, by decide +kernel, by decide +kernel⟩, rfl, rfl⟩
set_option maxRecDepth 20000 in
theorem nX5_comes_X5 : ∀ w ∈ u_ws RX5 TX5 20, w ∈ mX5_comes.2.2.1 := by decide +kernel
set_option maxRecDepth 20000 in
theorem fX5_comes_22 : Cond.fieldLink mX5_comes.1 22 (TX5 5).1 (TX5 5).2.1 (TX5 5).2.2.1 ∈ mX5_comes.2.2.1 := by decide +kernel
def mX5_tick : zs_M := (RX5, cX5_tick, wsX5_tick, 2, (some .int), { frames := 4, cells := 0, slots := 0, locals := 160 })
theorem YX5_tick : zs_Y mX5_tick yX5_tick 1 := ⟨⟨_, rfl⟩, rfl, by decide +kernel, ⟨by decide +kernel, by decide +kernel, by decide +kernel⟩, rfl, rfl⟩
set_option maxRecDepth 20000 in
theorem kX5_tick_68 : Cond.constant mX5_tick.1 68 (100000) ∈ mX5_tick.2.2.1 := by decide +kernel
set_option maxRecDepth 20000 in
theorem nX5_tick_X5 : ∀ w ∈ u_ws RX5 TX5 20, w ∈ mX5_tick.2.2.1 := by decide +kernel
set_option maxRecDepth 20000 in
theorem fX5_tick_22 : Cond.fieldLink mX5_tick.1 22 (TX5 5).1 (TX5 5).2.1 (TX5 5).2.2.1 ∈ mX5_tick.2.2.1 := by decide +kernel
set_option maxRecDepth 20000 in
theorem kX5_tick_131 : Cond.constant mX5_tick.1 131 (1000000000) ∈ mX5_tick.2.2.1 := by decide +kernel
def mX5_watermark : zs_M := (RX5, cX5_watermark, wsX5_watermark, 2, (some .int), { frames := 4, cells := 0, slots := 0, locals := 160 })
theorem YX5_watermark : zs_Y mX5_watermark yX5_watermark 1 := ⟨⟨_, rfl⟩, rfl, by decide +kernel, ⟨by decide +kernel, by decide +kernel, by decide +kernel⟩, rfl, rfl⟩
set_option maxRecDepth 20000 in
theorem kX5_watermark_131 : Cond.constant mX5_watermark.1 131 (1000000000) ∈ mX5_watermark.2.2.1 := by decide +kernel
set_option maxRecDepth 20000 in
theorem nX5_watermark_X5 : ∀ w ∈ u_ws RX5 TX5 20, w ∈ mX5_watermark.2.2.1 := by decide +kernel
set_option maxRecDepth 20000 in
theorem fX5_watermark_22 : Cond.fieldLink mX5_watermark.1 22 (TX5 5).1 (TX5 5).2.1 (TX5 5).2.2.1 ∈ mX5_watermark.2.2.1 := by decide +kernel
def mX5_sweep : zs_M := (RX5, cX5_sweep, wsX5_sweep, 4, (some .int), { frames := 2, cells := 0, slots := 0, locals := 80 })
theorem YX5_sweep : zs_Y mX5_sweep yX5_sweep 1 := ⟨⟨_, rfl⟩, rfl, by decide +kernel, ⟨by decide +kernel, by decide +kernel, by decide +kernel⟩, rfl, rfl⟩
set_option maxRecDepth 20000 in
theorem nX5_sweep_X5 : ∀ w ∈ u_ws RX5 TX5 20, w ∈ mX5_sweep.2.2.1 := by decide +kernel
set_option maxRecDepth 20000 in
theorem fX5_sweep_136 : Cond.fieldLink mX5_sweep.1 136 (TX5 14).1 (TX5 14).2.1 (TX5 14).2.2.1 ∈ mX5_sweep.2.2.1 := by decide +kernel
set_option maxRecDepth 20000 in
theorem fX5_sweep_25 : Cond.fieldLink mX5_sweep.1 25 (TX5 6).1 (TX5 6).2.1 (TX5 6).2.2.1 ∈ mX5_sweep.2.2.1 := by decide +kernel
set_option maxRecDepth 20000 in
theorem kX5_sweep_55 : Cond.constant mX5_sweep.1 55 (-99999999) ∈ mX5_sweep.2.2.1 := by decide +kernel
def mX5_setting : zs_M := (RX5, cX5_setting, wsX5_setting, 6, (some .int), { frames := 2, cells := 0, slots := 0, locals := 80 })
theorem YX5_setting : zs_Y mX5_setting yX5_setting 3 := ⟨⟨_, rfl⟩, rfl, by decide +kernel, ⟨by decide +kernel, by decide +kernel, by decide +kernel⟩, rfl, rfl⟩
set_option maxRecDepth 20000 in
theorem kX5_setting_68 : Cond.constant mX5_setting.1 68 (100000) ∈ mX5_setting.2.2.1 := by decide +kernel
set_option maxRecDepth 20000 in
theorem nX5_setting_X5 : ∀ w ∈ u_ws RX5 TX5 20, w ∈ mX5_setting.2.2.1 := by decide +kernel
set_option maxRecDepth 20000 in
theorem fX5_setting_16 : Cond.fieldLink mX5_setting.1 16 (TX5 3).1 (TX5 3).2.1 (TX5 3).2.2.1 ∈ mX5_setting.2.2.1 := by decide +kernel
set_option maxRecDepth 20000 in
theorem fX5_setting_25 : Cond.fieldLink mX5_setting.1 25 (TX5 6).1 (TX5 6).2.1 (TX5 6).2.2.1 ∈ mX5_setting.2.2.1 := by decide +kernel
set_option maxRecDepth 20000 in
theorem fX5_setting_40 : Cond.fieldLink mX5_setting.1 40 (TX5 11).1 (TX5 11).2.1 (TX5 11).2.2.1 ∈ mX5_setting.2.2.1 := by decide +kernel
set_option maxRecDepth 20000 in
theorem fX5_setting_37 : Cond.fieldLink mX5_setting.1 37 (TX5 10).1 (TX5 10).2.1 (TX5 10).2.2.1 ∈ mX5_setting.2.2.1 := by decide +kernel
def mX5_isAhead : zs_M := (RX5, cX5_isAhead, wsX5_isAhead, 3, (some .boolean), { frames := 0, cells := 0, slots := 0, locals := 0 })
theorem YX5_isAhead : zs_Y mX5_isAhead yX5_isAhead 2 := ⟨⟨_, rfl⟩, rfl, by decide +kernel, ⟨by decide +kernel, by decide +kernel, by decide +kernel⟩, rfl, rfl⟩
set_option maxRecDepth 20000 in
theorem nX5_isAhead_X5 : ∀ w ∈ u_ws RX5 TX5 20, w ∈ mX5_isAhead.2.2.1 := by decide +kernel
set_option maxRecDepth 20000 in
theorem fX5_isAhead_25 : Cond.fieldLink mX5_isAhead.1 25 (TX5 6).1 (TX5 6).2.1 (TX5 6).2.2.1 ∈ mX5_isAhead.2.2.1 := by decide +kernel
set_option maxRecDepth 20000 in
theorem fX5_isAhead_28 : Cond.fieldLink mX5_isAhead.1 28 (TX5 7).1 (TX5 7).2.1 (TX5 7).2.2.1 ∈ mX5_isAhead.2.2.1 := by decide +kernel
set_option maxRecDepth 20000 in
theorem fX5_isAhead_31 : Cond.fieldLink mX5_isAhead.1 31 (TX5 8).1 (TX5 8).2.1 (TX5 8).2.2.1 ∈ mX5_isAhead.2.2.1 := by decide +kernel
set_option maxRecDepth 20000 in
theorem fX5_isAhead_43 : Cond.fieldLink mX5_isAhead.1 43 (TX5 12).1 (TX5 12).2.1 (TX5 12).2.2.1 ∈ mX5_isAhead.2.2.1 := by decide +kernel
def mX5_nextKept : zs_M := (RX5, cX5_nextKept, wsX5_nextKept, 4, (some .int), { frames := 2, cells := 0, slots := 0, locals := 80 })
theorem YX5_nextKept : zs_Y mX5_nextKept yX5_nextKept 1 := ⟨⟨_, rfl⟩, rfl, by decide +kernel, ⟨by decide +kernel, by decide +kernel, by decide +kernel⟩, rfl, rfl⟩
set_option maxRecDepth 20000 in
theorem kX5_nextKept_55 : Cond.constant mX5_nextKept.1 55 (-99999999) ∈ mX5_nextKept.2.2.1 := by decide +kernel
def mX5_mark : zs_M := (RX5, cX5_mark, wsX5_mark, 5, (some .int), { frames := 3, cells := 0, slots := 0, locals := 120 })
theorem YX5_mark : zs_Y mX5_mark yX5_mark 1 := ⟨⟨_, rfl⟩, rfl, by decide +kernel, ⟨by decide +kernel, by decide +kernel, by decide +kernel⟩, rfl, rfl⟩
set_option maxRecDepth 20000 in
theorem kX5_mark_55 : Cond.constant mX5_mark.1 55 (-99999999) ∈ mX5_mark.2.2.1 := by decide +kernel
set_option maxRecDepth 20000 in
theorem nX5_mark_X5 : ∀ w ∈ u_ws RX5 TX5 20, w ∈ mX5_mark.2.2.1 := by decide +kernel
set_option maxRecDepth 20000 in
theorem fX5_mark_52 : Cond.fieldLink mX5_mark.1 52 (TX5 19).1 (TX5 19).2.1 (TX5 19).2.2.1 ∈ mX5_mark.2.2.1 := by decide +kernel
set_option maxRecDepth 20000 in
theorem fX5_mark_25 : Cond.fieldLink mX5_mark.1 25 (TX5 6).1 (TX5 6).2.1 (TX5 6).2.2.1 ∈ mX5_mark.2.2.1 := by decide +kernel
set_option maxRecDepth 20000 in
theorem fX5_mark_28 : Cond.fieldLink mX5_mark.1 28 (TX5 7).1 (TX5 7).2.1 (TX5 7).2.2.1 ∈ mX5_mark.2.2.1 := by decide +kernel
set_option maxRecDepth 20000 in
theorem fX5_mark_31 : Cond.fieldLink mX5_mark.1 31 (TX5 8).1 (TX5 8).2.1 (TX5 8).2.2.1 ∈ mX5_mark.2.2.1 := by decide +kernel
set_option maxRecDepth 20000 in
theorem fX5_mark_34 : Cond.fieldLink mX5_mark.1 34 (TX5 9).1 (TX5 9).2.1 (TX5 9).2.2.1 ∈ mX5_mark.2.2.1 := by decide +kernel
set_option maxRecDepth 20000 in
theorem fX5_mark_40 : Cond.fieldLink mX5_mark.1 40 (TX5 11).1 (TX5 11).2.1 (TX5 11).2.2.1 ∈ mX5_mark.2.2.1 := by decide +kernel
set_option maxRecDepth 20000 in
theorem fX5_mark_49 : Cond.fieldLink mX5_mark.1 49 (TX5 18).1 (TX5 18).2.1 (TX5 18).2.2.1 ∈ mX5_mark.2.2.1 := by decide +kernel
def mX5_restore : zs_M := (RX5, cX5_restore, wsX5_restore, 4, (some .int), { frames := 2, cells := 0, slots := 0, locals := 80 })
theorem YX5_restore : zs_Y mX5_restore yX5_restore 1 := ⟨⟨_, rfl⟩, rfl, by decide +kernel, ⟨by decide +kernel, by decide +kernel, by decide +kernel⟩, rfl, rfl⟩
set_option maxRecDepth 20000 in
theorem nX5_restore_X5 : ∀ w ∈ u_ws RX5 TX5 20, w ∈ mX5_restore.2.2.1 := by decide +kernel
set_option maxRecDepth 20000 in
theorem fX5_restore_49 : Cond.fieldLink mX5_restore.1 49 (TX5 18).1 (TX5 18).2.1 (TX5 18).2.2.1 ∈ mX5_restore.2.2.1 := by decide +kernel
set_option maxRecDepth 20000 in
theorem kX5_restore_55 : Cond.constant mX5_restore.1 55 (-99999999) ∈ mX5_restore.2.2.1 := by decide +kernel
set_option maxRecDepth 20000 in
theorem fX5_restore_25 : Cond.fieldLink mX5_restore.1 25 (TX5 6).1 (TX5 6).2.1 (TX5 6).2.2.1 ∈ mX5_restore.2.2.1 := by decide +kernel
set_option maxRecDepth 20000 in
theorem fX5_restore_52 : Cond.fieldLink mX5_restore.1 52 (TX5 19).1 (TX5 19).2.1 (TX5 19).2.2.1 ∈ mX5_restore.2.2.1 := by decide +kernel
set_option maxRecDepth 20000 in
theorem fX5_restore_40 : Cond.fieldLink mX5_restore.1 40 (TX5 11).1 (TX5 11).2.1 (TX5 11).2.2.1 ∈ mX5_restore.2.2.1 := by decide +kernel
set_option maxRecDepth 20000 in
theorem fX5_restore_37 : Cond.fieldLink mX5_restore.1 37 (TX5 10).1 (TX5 10).2.1 (TX5 10).2.2.1 ∈ mX5_restore.2.2.1 := by decide +kernel
set_option maxRecDepth 20000 in
theorem fX5_restore_136 : Cond.fieldLink mX5_restore.1 136 (TX5 14).1 (TX5 14).2.1 (TX5 14).2.2.1 ∈ mX5_restore.2.2.1 := by decide +kernel
def mX5_row : zs_M := (RX5, cX5_row, wsX5_row, 3, (some .int), { frames := 1, cells := 0, slots := 0, locals := 40 })
theorem YX5_row : zs_Y mX5_row yX5_row 2 := ⟨⟨_, rfl⟩, rfl, by decide +kernel, ⟨by decide +kernel, by decide +kernel, by decide +kernel⟩, rfl, rfl⟩
set_option maxRecDepth 20000 in
theorem nX5_row_X5 : ∀ w ∈ u_ws RX5 TX5 20, w ∈ mX5_row.2.2.1 := by decide +kernel
set_option maxRecDepth 20000 in
theorem fX5_row_83 : Cond.fieldLink mX5_row.1 83 (TX5 16).1 (TX5 16).2.1 (TX5 16).2.2.1 ∈ mX5_row.2.2.1 := by decide +kernel
set_option maxRecDepth 20000 in
theorem fX5_row_46 : Cond.fieldLink mX5_row.1 46 (TX5 15).1 (TX5 15).2.1 (TX5 15).2.2.1 ∈ mX5_row.2.2.1 := by decide +kernel
set_option maxRecDepth 20000 in
theorem kX5_row_55 : Cond.constant mX5_row.1 55 (-99999999) ∈ mX5_row.2.2.1 := by decide +kernel
def mX5_next : zs_M := (RX5, cX5_next, wsX5_next, 4, (some .int), { frames := 2, cells := 0, slots := 0, locals := 80 })
theorem YX5_next : zs_Y mX5_next yX5_next 1 := ⟨⟨_, rfl⟩, rfl, by decide +kernel, ⟨by decide +kernel, by decide +kernel, by decide +kernel⟩, rfl, rfl⟩
set_option maxRecDepth 20000 in
theorem kX5_next_55 : Cond.constant mX5_next.1 55 (-99999999) ∈ mX5_next.2.2.1 := by decide +kernel
set_option maxRecDepth 20000 in
theorem nX5_next_X5 : ∀ w ∈ u_ws RX5 TX5 20, w ∈ mX5_next.2.2.1 := by decide +kernel
set_option maxRecDepth 20000 in
theorem fX5_next_25 : Cond.fieldLink mX5_next.1 25 (TX5 6).1 (TX5 6).2.1 (TX5 6).2.2.1 ∈ mX5_next.2.2.1 := by decide +kernel
set_option maxRecDepth 20000 in
theorem fX5_next_40 : Cond.fieldLink mX5_next.1 40 (TX5 11).1 (TX5 11).2.1 (TX5 11).2.2.1 ∈ mX5_next.2.2.1 := by decide +kernel
def mX5_count : zs_M := (RX5, cX5_count, wsX5_count, 5, (some .int), { frames := 2, cells := 0, slots := 0, locals := 80 })
theorem YX5_count : zs_Y mX5_count yX5_count 1 := ⟨⟨_, rfl⟩, rfl, by decide +kernel, ⟨by decide +kernel, by decide +kernel, by decide +kernel⟩, rfl, rfl⟩
set_option maxRecDepth 20000 in
theorem nX5_count_X5 : ∀ w ∈ u_ws RX5 TX5 20, w ∈ mX5_count.2.2.1 := by decide +kernel
set_option maxRecDepth 20000 in
theorem fX5_count_25 : Cond.fieldLink mX5_count.1 25 (TX5 6).1 (TX5 6).2.1 (TX5 6).2.2.1 ∈ mX5_count.2.2.1 := by decide +kernel
set_option maxRecDepth 20000 in
theorem kX5_count_55 : Cond.constant mX5_count.1 55 (-99999999) ∈ mX5_count.2.2.1 := by decide +kernel
set_option maxRecDepth 20000 in
theorem fX5_count_56 : Cond.fieldLink mX5_count.1 56 (TX5 0).1 (TX5 0).2.1 (TX5 0).2.2.1 ∈ mX5_count.2.2.1 := by decide +kernel
set_option maxRecDepth 20000 in
theorem fX5_count_83 : Cond.fieldLink mX5_count.1 83 (TX5 16).1 (TX5 16).2.1 (TX5 16).2.2.1 ∈ mX5_count.2.2.1 := by decide +kernel
set_option maxRecDepth 20000 in
theorem fX5_count_86 : Cond.fieldLink mX5_count.1 86 (TX5 17).1 (TX5 17).2.1 (TX5 17).2.2.1 ∈ mX5_count.2.2.1 := by decide +kernel
set_option maxRecDepth 20000 in
theorem fX5_count_22 : Cond.fieldLink mX5_count.1 22 (TX5 5).1 (TX5 5).2.1 (TX5 5).2.2.1 ∈ mX5_count.2.2.1 := by decide +kernel
set_option maxRecDepth 20000 in
theorem fX5_count_136 : Cond.fieldLink mX5_count.1 136 (TX5 14).1 (TX5 14).2.1 (TX5 14).2.2.1 ∈ mX5_count.2.2.1 := by decide +kernel
