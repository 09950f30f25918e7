
theorem x_S_at {v : zs_V} (h : x_S v) {s : Int} (h0 : 0 ≤ s) (h1 : s < v 15 0) : s < 6 ∧ (v 0 s = 0 ∨ v 0 s = 1) ∧ (v 1 s = 0 ∨ v 1 s = 1) ∧ 1 ≤ v 2 s ∧ v 2 s ≤ 100000 ∧ (v 3 s = 0 ∨ v 3 s = 1) ∧ 0 ≤ v 4 (v 1 s) ∧ v 4 (v 1 s) ≤ 1000000000 := by
  obtain ⟨a, b, c, d1, d2, d3, d4⟩ := h
  obtain ⟨e1, e2, e3, e4, e5⟩ := c s h0 h1
  refine ⟨by omega, e1, e2, e3, e4, e5, ?_, ?_⟩ <;> rcases e2 with e | e <;> rw [e] <;> assumption
set_option maxHeartbeats 4000000 in
set_option maxRecDepth 100000 in
theorem t_X3_make {v : zs_V} (f c s w : Int) (h : 0 ≤ v 15 0 ∧ v 15 0 < 6) : zs_R mX3_make 0 0 shX (zs_X (v 15 0) (zs_put (zs_put (zs_put (zs_put (zs_put v 0 (v 15 0) f) 1 (v 15 0) c) 2 (v 15 0) s) 3 (v 15 0) w) 15 0 (v 15 0 + 1))) v 0 [some (.inr 1), some (.inl (f)), some (.inl (c)), some (.inl (s)), some (.inl (w)), none] [] := by
  refine zs_aload_n dX3_make_0 rfl ?_
  refine zs_geti (j := 5) dX3_make_1 rfl rfl rfl (by decide) nX3_make_X3 fX3_make_27 ?_
  refine zs_istore (lv' := [some (.inr 1), some (.inl (f)), some (.inl (c)), some (.inl (s)), some (.inl (w)), some (.inl (v 15 0))]) dX3_make_4 (by decide) rfl ?_
  refine zs_aload_n dX3_make_6 rfl ?_
  refine zs_getr (j := 0) dX3_make_7 rfl rfl rfl (by decide) nX3_make_X3 fX3_make_9 ?_
  refine zs_iload dX3_make_10 rfl ?_
  refine zs_iload_n dX3_make_12 rfl ?_
  refine zs_iastore dX3_make_13 rfl (by decide) (by decide) (by omega) (by omega) ?_
  refine zs_aload_n dX3_make_14 rfl ?_
  refine zs_getr (j := 1) dX3_make_15 rfl rfl rfl (by decide) nX3_make_X3 fX3_make_15 ?_
  refine zs_iload dX3_make_18 rfl ?_
  refine zs_iload_n dX3_make_20 rfl ?_
  refine zs_iastore dX3_make_21 rfl (by decide) (by decide) (by omega) (by omega) ?_
  refine zs_aload_n dX3_make_22 rfl ?_
  refine zs_getr (j := 2) dX3_make_23 rfl rfl rfl (by decide) nX3_make_X3 fX3_make_18 ?_
  refine zs_iload dX3_make_26 rfl ?_
  refine zs_iload_n dX3_make_28 rfl ?_
  refine zs_iastore dX3_make_29 rfl (by decide) (by decide) (by omega) (by omega) ?_
  refine zs_aload_n dX3_make_30 rfl ?_
  refine zs_getr (j := 3) dX3_make_31 rfl rfl rfl (by decide) nX3_make_X3 fX3_make_21 ?_
  refine zs_iload dX3_make_34 rfl ?_
  refine zs_iload dX3_make_36 rfl ?_
  refine zs_iastore dX3_make_38 rfl (by decide) (by decide) (by omega) (by omega) ?_
  refine zs_aload_n dX3_make_39 rfl ?_
  refine zs_dup dX3_make_40 ?_
  refine zs_geti (j := 5) dX3_make_41 rfl rfl rfl (by decide) nX3_make_X3 fX3_make_27 ?_
  refine zs_iconst (x := 1) dX3_make_44 (by decide) ?_
  refine zs_iadd dX3_make_45 ?_
  refine zs_puti (j := 5) dX3_make_46 rfl rfl (by decide) rfl (by decide) nX3_make_X3 tyX3 tyX3_ok nmX3 rfl (by decide +kernel) fX3_make_27 ?_
  refine zs_iload dX3_make_49 rfl ?_
  refine zs_iret dX3_make_51 rfl ?_
  exact ⟨rfl, rfl⟩
set_option maxHeartbeats 4000000 in
set_option maxRecDepth 100000 in
theorem t_X3_has {v : zs_V} (s : Int) (hs : zn s) (h : zn (v 15 0)) : zs_R mX3_has 0 0 shX (zs_X (zb (0 ≤ s ∧ s < v 15 0)) v) v 0 [some (.inr 1), some (.inl (s))] [] := by
  refine zs_iload_n dX3_has_0 rfl ?_
  refine zs_if_lt (tgt := 16) dX3_has_1 (by decide) (by omega) (fun h1 => ?_) (fun h1 => ?_)
  · refine zs_iconst (x := 0) dX3_has_16 (by decide) ?_
    refine zs_zret dX3_has_17 rfl (by first | omega | (split <;> omega)) ?_
    exact ⟨(zb_n (by omega)).symm, rfl⟩
  · refine zs_iload_n dX3_has_4 rfl ?_
    refine zs_aload_n dX3_has_5 rfl ?_
    refine zs_geti (j := 5) dX3_has_6 rfl rfl rfl (by decide) nX3_has_X3 fX3_has_27 ?_
    refine zs_icmp_ge (tgt := 16) dX3_has_9 (by decide) (by omega) (by omega) (fun h9 => ?_) (fun h9 => ?_)
    · refine zs_iconst (x := 0) dX3_has_16 (by decide) ?_
      refine zs_zret dX3_has_17 rfl (by first | omega | (split <;> omega)) ?_
      exact ⟨(zb_n (by omega)).symm, rfl⟩
    · refine zs_iconst (x := 1) dX3_has_12 (by decide) ?_
      refine zs_goto (tgt := 17) dX3_has_13 (by decide) ?_
      refine zs_zret dX3_has_17 rfl (by first | omega | (split <;> omega)) ?_
      exact ⟨(zb_p (by omega)).symm, rfl⟩
set_option maxHeartbeats 4000000 in
set_option maxRecDepth 100000 in
theorem t_X3_isList {v : zs_V} (s : Int) (hs : 0 ≤ s ∧ s < 6) (h : zn (v 0 s)) : zs_R mX3_isList 0 0 shX (zs_X (zb (v 0 s = 1)) v) v 0 [some (.inr 1), some (.inl (s))] [] := by
  refine zs_aload_n dX3_isList_0 rfl ?_
  refine zs_getr (j := 0) dX3_isList_1 rfl rfl rfl (by decide) nX3_isList_X3 fX3_isList_9 ?_
  refine zs_iload_n dX3_isList_4 rfl ?_
  refine zs_iaload dX3_isList_5 rfl (by decide) (by omega) (by omega) ?_
  refine zs_iconst (x := 1) dX3_isList_6 (by decide) ?_
  refine zs_icmp_ne (tgt := 14) dX3_isList_7 (by decide) (by omega) (by omega) (fun h7 => ?_) (fun h7 => ?_)
  · refine zs_iconst (x := 0) dX3_isList_14 (by decide) ?_
    refine zs_zret dX3_isList_15 rfl (by first | omega | (split <;> omega)) ?_
    exact ⟨(zb_n (by omega)).symm, rfl⟩
  · refine zs_iconst (x := 1) dX3_isList_10 (by decide) ?_
    refine zs_goto (tgt := 15) dX3_isList_11 (by decide) ?_
    refine zs_zret dX3_isList_15 rfl (by first | omega | (split <;> omega)) ?_
    exact ⟨(zb_p (by omega)).symm, rfl⟩
set_option maxHeartbeats 4000000 in
set_option maxRecDepth 100000 in
theorem t_X3_isStampedByReads {v : zs_V} (s : Int) (hs : 0 ≤ s ∧ s < 6) (h : zn (v 3 s)) : zs_R mX3_isStampedByReads 0 0 shX (zs_X (zb (v 3 s = 1)) v) v 0 [some (.inr 1), some (.inl (s))] [] := by
  refine zs_aload_n dX3_isStampedByReads_0 rfl ?_
  refine zs_getr (j := 3) dX3_isStampedByReads_1 rfl rfl rfl (by decide) nX3_isStampedByReads_X3 fX3_isStampedByReads_21 ?_
  refine zs_iload_n dX3_isStampedByReads_4 rfl ?_
  refine zs_iaload dX3_isStampedByReads_5 rfl (by decide) (by omega) (by omega) ?_
  refine zs_iconst (x := 1) dX3_isStampedByReads_6 (by decide) ?_
  refine zs_icmp_ne (tgt := 14) dX3_isStampedByReads_7 (by decide) (by omega) (by omega) (fun h7 => ?_) (fun h7 => ?_)
  · refine zs_iconst (x := 0) dX3_isStampedByReads_14 (by decide) ?_
    refine zs_zret dX3_isStampedByReads_15 rfl (by first | omega | (split <;> omega)) ?_
    exact ⟨(zb_n (by omega)).symm, rfl⟩
  · refine zs_iconst (x := 1) dX3_isStampedByReads_10 (by decide) ?_
    refine zs_goto (tgt := 15) dX3_isStampedByReads_11 (by decide) ?_
    refine zs_zret dX3_isStampedByReads_15 rfl (by first | omega | (split <;> omega)) ?_
    exact ⟨(zb_p (by omega)).symm, rfl⟩
set_option maxHeartbeats 4000000 in
set_option maxRecDepth 100000 in
theorem t_X3_timeOf {v : zs_V} (s : Int) (hs : 0 ≤ s ∧ s < 6) (h : v 1 s = 0 ∨ v 1 s = 1) : zs_R mX3_timeOf 0 0 shX (zs_X (v 4 (v 1 s)) v) v 0 [some (.inr 1), some (.inl (s))] [] := by
  refine zs_aload_n dX3_timeOf_0 rfl ?_
  refine zs_getr (j := 4) dX3_timeOf_1 rfl rfl rfl (by decide) nX3_timeOf_X3 fX3_timeOf_24 ?_
  refine zs_aload_n dX3_timeOf_4 rfl ?_
  refine zs_getr (j := 1) dX3_timeOf_5 rfl rfl rfl (by decide) nX3_timeOf_X3 fX3_timeOf_15 ?_
  refine zs_iload_n dX3_timeOf_8 rfl ?_
  refine zs_iaload dX3_timeOf_9 rfl (by decide) (by omega) (by omega) ?_
  refine zs_iaload dX3_timeOf_10 rfl (by decide) (by omega) (by omega) ?_
  refine zs_iret dX3_timeOf_11 rfl ?_
  exact ⟨rfl, rfl⟩
set_option maxHeartbeats 4000000 in
set_option maxRecDepth 100000 in
theorem t_X1_isTaken {v : zs_V} (p : Int) (hp : 0 ≤ p ∧ p < 200) (h : zn (v 5 p)) : zs_R mX1_isTaken 0 0 shX (zs_X (zb (¬ v 5 p = -1)) v) v 0 [some (.inr 7), some (.inl (p))] [] := by
  refine zs_aload_n dX1_isTaken_0 rfl ?_
  refine zs_getr (j := 0) dX1_isTaken_1 rfl rfl rfl (by decide) nX1_isTaken_X1 fX1_isTaken_9 ?_
  refine zs_iload_n dX1_isTaken_4 rfl ?_
  refine zs_iaload dX1_isTaken_5 rfl (by decide) (by omega) (by omega) ?_
  refine zs_iconst (x := -1) dX1_isTaken_6 (by decide) ?_
  refine zs_icmp_eq (tgt := 14) dX1_isTaken_7 (by decide) (by omega) (by omega) (fun h7 => ?_) (fun h7 => ?_)
  · refine zs_iconst (x := 0) dX1_isTaken_14 (by decide) ?_
    refine zs_zret dX1_isTaken_15 rfl (by first | omega | (split <;> omega)) ?_
    exact ⟨(zb_n (by omega)).symm, rfl⟩
  · refine zs_iconst (x := 1) dX1_isTaken_10 (by decide) ?_
    refine zs_goto (tgt := 15) dX1_isTaken_11 (by decide) ?_
    refine zs_zret dX1_isTaken_15 rfl (by first | omega | (split <;> omega)) ?_
    exact ⟨(zb_p (by omega)).symm, rfl⟩
set_option maxHeartbeats 4000000 in
set_option maxRecDepth 100000 in
theorem t_X1_stateAt {v : zs_V} (p : Int) (hp : 0 ≤ p ∧ p < 200) (h : 0 ≤ v 5 p ∧ v 5 p < 6000) : zs_R mX1_stateAt 0 0 shX (zs_X (v 5 p / 1000) v) v 0 [some (.inr 7), some (.inl (p))] [] := by
  refine zs_aload_n dX1_stateAt_0 rfl ?_
  refine zs_getr (j := 0) dX1_stateAt_1 rfl rfl rfl (by decide) nX1_stateAt_X1 fX1_stateAt_9 ?_
  refine zs_iload_n dX1_stateAt_4 rfl ?_
  refine zs_iaload dX1_stateAt_5 rfl (by decide) (by omega) (by omega) ?_
  refine zs_sipush (x := 1000) dX1_stateAt_6 (by decide) ?_
  refine zs_idiv dX1_stateAt_9 (by omega) (by omega) ?_
  refine zs_iret dX1_stateAt_10 rfl ?_
  exact ⟨rfl, rfl⟩
set_option maxHeartbeats 4000000 in
set_option maxRecDepth 100000 in
theorem t_X1_keyAt {v : zs_V} (p : Int) (hp : 0 ≤ p ∧ p < 200) (h : 0 ≤ v 5 p ∧ v 5 p < 6000) : zs_R mX1_keyAt 0 0 shX (zs_X (v 5 p / 10 % 100) v) v 0 [some (.inr 7), some (.inl (p))] [] := by
  refine zs_aload_n dX1_keyAt_0 rfl ?_
  refine zs_getr (j := 0) dX1_keyAt_1 rfl rfl rfl (by decide) nX1_keyAt_X1 fX1_keyAt_9 ?_
  refine zs_iload_n dX1_keyAt_4 rfl ?_
  refine zs_iaload dX1_keyAt_5 rfl (by decide) (by omega) (by omega) ?_
  refine zs_bipush (x := 10) dX1_keyAt_6 (by decide) ?_
  refine zs_idiv dX1_keyAt_8 (by omega) (by omega) ?_
  refine zs_bipush (x := 100) dX1_keyAt_9 (by decide) ?_
  refine zs_irem dX1_keyAt_11 (by omega) (by omega) ?_
  refine zs_iret dX1_keyAt_12 rfl ?_
  exact ⟨rfl, rfl⟩
set_option maxHeartbeats 4000000 in
set_option maxRecDepth 100000 in
theorem t_X1_memberAt {v : zs_V} (p : Int) (hp : 0 ≤ p ∧ p < 200) (h : 0 ≤ v 5 p ∧ v 5 p < 6000) : zs_R mX1_memberAt 0 0 shX (zs_X (v 5 p % 10) v) v 0 [some (.inr 7), some (.inl (p))] [] := by
  refine zs_aload_n dX1_memberAt_0 rfl ?_
  refine zs_getr (j := 0) dX1_memberAt_1 rfl rfl rfl (by decide) nX1_memberAt_X1 fX1_memberAt_9 ?_
  refine zs_iload_n dX1_memberAt_4 rfl ?_
  refine zs_iaload dX1_memberAt_5 rfl (by decide) (by omega) (by omega) ?_
  refine zs_bipush (x := 10) dX1_memberAt_6 (by decide) ?_
  refine zs_irem dX1_memberAt_8 (by omega) (by omega) ?_
  refine zs_iret dX1_memberAt_9 rfl ?_
  exact ⟨rfl, rfl⟩
set_option maxHeartbeats 4000000 in
set_option maxRecDepth 100000 in
theorem t_X2_indexOf {v : zs_V} (i : Int) (hi : 0 ≤ i ∧ i < 150) (h : 0 ≤ v 17 0 ∧ v 17 0 < 150) : zs_R mX2_indexOf 0 0 shX (zs_X (x_ri v i) v) v 0 [some (.inr 13), some (.inl (i))] [] := by
  refine zs_aload_n dX2_indexOf_0 rfl ?_
  refine zs_geti (j := 1) dX2_indexOf_1 rfl rfl rfl (by decide) nX2_indexOf_X2 fX2_indexOf_15 ?_
  refine zs_iload_n dX2_indexOf_4 rfl ?_
  refine zs_iadd dX2_indexOf_5 ?_
  refine zs_sipush (x := 150) dX2_indexOf_6 (by decide) ?_
  refine zs_irem dX2_indexOf_9 (by omega) (by omega) ?_
  refine zs_bipush (x := 6) dX2_indexOf_10 (by decide) ?_
  refine zs_imul dX2_indexOf_12 ?_
  refine zs_iret dX2_indexOf_13 rfl ?_
  exact ⟨rfl, rfl⟩
set_option maxHeartbeats 4000000 in
set_option maxRecDepth 100000 in
theorem t_X2_cell {v : zs_V} (i c : Int) (hi : 0 ≤ i ∧ i < 150) (hc : 0 ≤ c ∧ c < 6) (h : 0 ≤ v 17 0 ∧ v 17 0 < 150) : zs_R mX2_cell 0 0 shX (zs_X (v 10 (x_ri v i + c)) v) v 0 [some (.inr 13), some (.inl (i)), some (.inl (c))] [] := by
  refine zs_aload_n dX2_cell_0 rfl ?_
  refine zs_getr (j := 0) dX2_cell_1 rfl rfl rfl (by decide) nX2_cell_X2 fX2_cell_9 ?_
  refine zs_aload_n dX2_cell_4 rfl ?_
  have hx : 0 ≤ x_ri v i ∧ x_ri v i < 895 := by unfold x_ri; omega
  refine zs_iload_n dX2_cell_5 rfl ?_
  refine zs_eV (As := [.inl (i)]) (rest := [.inr 14]) (q := 13) dX2_cell_6 rfl (Nat.le_of_ble_eq_true rfl) rfl rfl YX2_indexOf rfl rfl (Nat.le_of_ble_eq_true rfl) gX2_cell_X2_indexOf (by decide) ⟨Nat.zero_le _, Nat.zero_le _⟩ rfl (t_X2_indexOf (v := v) (i) (by omega) (by omega)) ?_
  refine zs_iload_n dX2_cell_9 rfl ?_
  refine zs_iadd dX2_cell_10 ?_
  refine zs_iaload dX2_cell_11 rfl (by decide) (by omega) (by omega) ?_
  refine zs_iret dX2_cell_12 rfl ?_
  exact ⟨rfl, rfl⟩
set_option maxHeartbeats 4000000 in
set_option maxRecDepth 100000 in
theorem t_X0_indexOf {v : zs_V} (m i : Int) : zs_R mX0_indexOf 0 0 shX (zs_X (m * 200 + i) v) v 0 [some (.inr 15), some (.inl (m)), some (.inl (i))] [] := by
  refine zs_iload_n dX0_indexOf_0 rfl ?_
  refine zs_sipush (x := 200) dX0_indexOf_1 (by decide) ?_
  refine zs_imul dX0_indexOf_4 ?_
  refine zs_iload_n dX0_indexOf_5 rfl ?_
  refine zs_iadd dX0_indexOf_6 ?_
  refine zs_iret dX0_indexOf_7 rfl ?_
  exact ⟨rfl, rfl⟩
set_option maxHeartbeats 4000000 in
set_option maxRecDepth 100000 in
theorem t_X0_begin {v : zs_V} (m : Int) (hm : 0 ≤ m ∧ m < 3) : zs_R mX0_begin 0 0 shX (zs_X 0 (zs_put v 14 m 0)) v 0 [some (.inr 15), some (.inl (m))] [] := by
  refine zs_aload_n dX0_begin_0 rfl ?_
  refine zs_getr (j := 3) dX0_begin_1 rfl rfl rfl (by decide) nX0_begin_X0 fX0_begin_21 ?_
  refine zs_iload_n dX0_begin_4 rfl ?_
  refine zs_iconst (x := 0) dX0_begin_5 (by decide) ?_
  refine zs_iastore dX0_begin_6 rfl (by decide) (by decide) (by omega) (by omega) ?_
  refine zs_vret dX0_begin_7 rfl ?_
  exact ⟨rfl, rfl⟩
set_option maxHeartbeats 4000000 in
set_option maxRecDepth 100000 in
theorem t_X0_keep {v : zs_V} (m s x l : Int) (hm : 0 ≤ m ∧ m < 3) (h : 0 ≤ v 14 m ∧ v 14 m < 200) : zs_R mX0_keep 0 0 shX (zs_X 0 (x_keep v m s x l)) v 0 [some (.inr 15), some (.inl (m)), some (.inl (s)), some (.inl (x)), some (.inl (l)), none] [] := by
  refine zs_aload_n dX0_keep_0 rfl ?_
  refine zs_iload_n dX0_keep_1 rfl ?_
  refine zs_aload_n dX0_keep_2 rfl ?_
  refine zs_getr (j := 3) dX0_keep_3 rfl rfl rfl (by decide) nX0_keep_X0 fX0_keep_21 ?_
  refine zs_iload_n dX0_keep_6 rfl ?_
  refine zs_iaload dX0_keep_7 rfl (by decide) (by omega) (by omega) ?_
  refine zs_eV (As := [.inl (m), .inl (v 14 (m))]) (rest := []) (q := 15) dX0_keep_8 rfl (Nat.le_of_ble_eq_true rfl) rfl rfl YX0_indexOf rfl rfl (Nat.le_of_ble_eq_true rfl) gX0_keep_X0_indexOf (by decide) ⟨Nat.zero_le _, Nat.zero_le _⟩ rfl (t_X0_indexOf (v := v) (m) (v 14 (m))) ?_
  refine zs_istore (lv' := [some (.inr 15), some (.inl (m)), some (.inl (s)), some (.inl (x)), some (.inl (l)), some (.inl ((m) * 200 + (v 14 (m))))]) dX0_keep_11 (by decide) rfl ?_
  refine zs_aload_n dX0_keep_13 rfl ?_
  refine zs_getr (j := 0) dX0_keep_14 rfl rfl rfl (by decide) nX0_keep_X0 fX0_keep_9 ?_
  refine zs_iload dX0_keep_17 rfl ?_
  refine zs_iload_n dX0_keep_19 rfl ?_
  refine zs_iastore dX0_keep_20 rfl (by decide) (by decide) (by omega) (by omega) ?_
  refine zs_aload_n dX0_keep_21 rfl ?_
  refine zs_getr (j := 1) dX0_keep_22 rfl rfl rfl (by decide) nX0_keep_X0 fX0_keep_15 ?_
  refine zs_iload dX0_keep_25 rfl ?_
  refine zs_iload_n dX0_keep_27 rfl ?_
  refine zs_iastore dX0_keep_28 rfl (by decide) (by decide) (by omega) (by omega) ?_
  refine zs_aload_n dX0_keep_29 rfl ?_
  refine zs_getr (j := 2) dX0_keep_30 rfl rfl rfl (by decide) nX0_keep_X0 fX0_keep_18 ?_
  refine zs_iload dX0_keep_33 rfl ?_
  refine zs_iload dX0_keep_35 rfl ?_
  refine zs_iastore dX0_keep_37 rfl (by decide) (by decide) (by omega) (by omega) ?_
  refine zs_aload_n dX0_keep_38 rfl ?_
  refine zs_getr (j := 3) dX0_keep_39 rfl rfl rfl (by decide) nX0_keep_X0 fX0_keep_21 ?_
  refine zs_iload_n dX0_keep_42 rfl ?_
  refine zs_dup2 dX0_keep_43 ?_
  refine zs_iaload dX0_keep_44 rfl (by decide) (by omega) (by omega) ?_
  refine zs_iconst (x := 1) dX0_keep_45 (by decide) ?_
  refine zs_iadd dX0_keep_46 ?_
  refine zs_iastore dX0_keep_47 rfl (by decide) (by decide) (by omega) (by omega) ?_
  refine zs_vret dX0_keep_48 rfl ?_
  exact ⟨rfl, rfl⟩
