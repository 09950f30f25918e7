set_option maxHeartbeats 4000000 in
set_option maxRecDepth 100000 in
theorem t_X4_isZeroOrOne {v : zs_V} (x : Int) (hx : zn x) : zs_R mX4_isZeroOrOne 0 0 shX (zs_X (zb (x = 0 ∨ x = 1)) v) v 0 [some (.inl (x))] [] := by
  refine zs_iload_n dX4_isZeroOrOne_0 rfl ?_
  refine zs_if_eq (tgt := 9) dX4_isZeroOrOne_1 (by decide) (by omega) (fun h1 => ?_) (fun h1 => ?_)
  · refine zs_iconst (x := 1) dX4_isZeroOrOne_9 (by decide) ?_
    refine zs_goto (tgt := 14) dX4_isZeroOrOne_10 (by decide) ?_
    refine zs_zret dX4_isZeroOrOne_14 rfl (by first | omega | (split <;> omega)) ?_
    exact ⟨(zb_p (by omega)).symm, rfl⟩
  · refine zs_iload_n dX4_isZeroOrOne_4 rfl ?_
    refine zs_iconst (x := 1) dX4_isZeroOrOne_5 (by decide) ?_
    refine zs_icmp_ne (tgt := 13) dX4_isZeroOrOne_6 (by decide) (by omega) (by omega) (fun h6 => ?_) (fun h6 => ?_)
    · refine zs_iconst (x := 0) dX4_isZeroOrOne_13 (by decide) ?_
      refine zs_zret dX4_isZeroOrOne_14 rfl (by first | omega | (split <;> omega)) ?_
      exact ⟨(zb_n (by omega)).symm, rfl⟩
    · refine zs_iconst (x := 1) dX4_isZeroOrOne_9 (by decide) ?_
      refine zs_goto (tgt := 14) dX4_isZeroOrOne_10 (by decide) ?_
      refine zs_zret dX4_isZeroOrOne_14 rfl (by first | omega | (split <;> omega)) ?_
      exact ⟨(zb_p (by omega)).symm, rfl⟩
set_option maxHeartbeats 4000000 in
set_option maxRecDepth 100000 in
theorem t_X4_isSpan {v : zs_V} (x : Int) (hx : zn x) : zs_R mX4_isSpan 0 0 shX (zs_X (zb (1 ≤ x ∧ x ≤ 100000)) v) v 0 [some (.inl (x))] [] := by
  refine zs_iload_n dX4_isSpan_0 rfl ?_
  refine zs_iconst (x := 1) dX4_isSpan_1 (by decide) ?_
  refine zs_icmp_lt (tgt := 15) dX4_isSpan_2 (by decide) (by omega) (by omega) (fun h2 => ?_) (fun h2 => ?_)
  · refine zs_iconst (x := 0) dX4_isSpan_15 (by decide) ?_
    refine zs_zret dX4_isSpan_16 rfl (by first | omega | (split <;> omega)) ?_
    exact ⟨(zb_n (by omega)).symm, rfl⟩
  · refine zs_iload_n dX4_isSpan_5 rfl ?_
    refine zs_ldc (x := 100000) dX4_isSpan_6 kX4_isSpan_118 (by decide) ?_
    refine zs_icmp_gt (tgt := 15) dX4_isSpan_8 (by decide) (by omega) (by omega) (fun h8 => ?_) (fun h8 => ?_)
    · refine zs_iconst (x := 0) dX4_isSpan_15 (by decide) ?_
      refine zs_zret dX4_isSpan_16 rfl (by first | omega | (split <;> omega)) ?_
      exact ⟨(zb_n (by omega)).symm, rfl⟩
    · refine zs_iconst (x := 1) dX4_isSpan_11 (by decide) ?_
      refine zs_goto (tgt := 16) dX4_isSpan_12 (by decide) ?_
      refine zs_zret dX4_isSpan_16 rfl (by first | omega | (split <;> omega)) ?_
      exact ⟨(zb_p (by omega)).symm, rfl⟩
set_option maxHeartbeats 4000000 in
set_option maxRecDepth 100000 in
theorem t_X4_isMember {v : zs_V} (x : Int) (hx : zn x) : zs_R mX4_isMember 0 0 shX (zs_X (zb (0 ≤ x ∧ x < 10)) v) v 0 [some (.inl (x))] [] := by
  refine zs_iload_n dX4_isMember_0 rfl ?_
  refine zs_if_lt (tgt := 14) dX4_isMember_1 (by decide) (by omega) (fun h1 => ?_) (fun h1 => ?_)
  · refine zs_iconst (x := 0) dX4_isMember_14 (by decide) ?_
    refine zs_zret dX4_isMember_15 rfl (by first | omega | (split <;> omega)) ?_
    exact ⟨(zb_n (by omega)).symm, rfl⟩
  · refine zs_iload_n dX4_isMember_4 rfl ?_
    refine zs_bipush (x := 10) dX4_isMember_5 (by decide) ?_
    refine zs_icmp_ge (tgt := 14) dX4_isMember_7 (by decide) (by omega) (by omega) (fun h7 => ?_) (fun h7 => ?_)
    · refine zs_iconst (x := 0) dX4_isMember_14 (by decide) ?_
      refine zs_zret dX4_isMember_15 rfl (by first | omega | (split <;> omega)) ?_
      exact ⟨(zb_n (by omega)).symm, rfl⟩
    · refine zs_iconst (x := 1) dX4_isMember_10 (by decide) ?_
      refine zs_goto (tgt := 15) dX4_isMember_11 (by decide) ?_
      refine zs_zret dX4_isMember_15 rfl (by first | omega | (split <;> omega)) ?_
      exact ⟨(zb_p (by omega)).symm, rfl⟩
set_option maxHeartbeats 4000000 in
set_option maxRecDepth 100000 in
theorem t_X4_isMark {v : zs_V} (x : Int) (hx : zn x) : zs_R mX4_isMark 0 0 shX (zs_X (zb (0 ≤ x ∧ x < 3)) v) v 0 [some (.inl (x))] [] := by
  refine zs_iload_n dX4_isMark_0 rfl ?_
  refine zs_if_lt (tgt := 13) dX4_isMark_1 (by decide) (by omega) (fun h1 => ?_) (fun h1 => ?_)
  · refine zs_iconst (x := 0) dX4_isMark_13 (by decide) ?_
    refine zs_zret dX4_isMark_14 rfl (by first | omega | (split <;> omega)) ?_
    exact ⟨(zb_n (by omega)).symm, rfl⟩
  · refine zs_iload_n dX4_isMark_4 rfl ?_
    refine zs_iconst (x := 3) dX4_isMark_5 (by decide) ?_
    refine zs_icmp_ge (tgt := 13) dX4_isMark_6 (by decide) (by omega) (by omega) (fun h6 => ?_) (fun h6 => ?_)
    · refine zs_iconst (x := 0) dX4_isMark_13 (by decide) ?_
      refine zs_zret dX4_isMark_14 rfl (by first | omega | (split <;> omega)) ?_
      exact ⟨(zb_n (by omega)).symm, rfl⟩
    · refine zs_iconst (x := 1) dX4_isMark_9 (by decide) ?_
      refine zs_goto (tgt := 14) dX4_isMark_10 (by decide) ?_
      refine zs_zret dX4_isMark_14 rfl (by first | omega | (split <;> omega)) ?_
      exact ⟨(zb_p (by omega)).symm, rfl⟩
set_option maxHeartbeats 4000000 in
set_option maxRecDepth 100000 in
theorem t_X4_isStateAndKey {v : zs_V} (s k : Int) (hs : zn s) (hk : zn k) (hm : zn (v 15 0)) : zs_R mX4_isStateAndKey 0 0 shX (zs_X (zb ((0 ≤ s ∧ s < v 15 0) ∧ 0 ≤ k ∧ k < 100)) v) v 0 [some (.inr 0), some (.inl (s)), some (.inl (k))] [] := by
  refine zs_aload_n dX4_isStateAndKey_0 rfl ?_
  refine zs_getr (j := 0) dX4_isStateAndKey_1 rfl rfl rfl (by decide) nX4_isStateAndKey_X4 fX4_isStateAndKey_12 ?_
  refine zs_iload_n dX4_isStateAndKey_4 rfl ?_
  refine zs_eV (As := [.inl (s)]) (rest := []) (q := 1) dX4_isStateAndKey_5 rfl (Nat.le_of_ble_eq_true rfl) rfl rfl YX3_has rfl rfl (Nat.le_of_ble_eq_true rfl) gX4_isStateAndKey_X3_has (by decide) ⟨Nat.zero_le _, Nat.zero_le _⟩ rfl (t_X3_has (v := v) (s) (by omega) (by omega)) ?_
  refine zs_ifz_eq (tgt := 25) dX4_isStateAndKey_8 (by decide)  (fun h8 => ?_) (fun h8 => ?_)
  · refine zs_iconst (x := 0) dX4_isStateAndKey_25 (by decide) ?_
    refine zs_zret dX4_isStateAndKey_26 rfl (by first | omega | (split <;> omega)) ?_
    exact ⟨(zb_n (by omega)).symm, rfl⟩
  · refine zs_iload_n dX4_isStateAndKey_11 rfl ?_
    refine zs_if_lt (tgt := 25) dX4_isStateAndKey_12 (by decide) (by omega) (fun h12 => ?_) (fun h12 => ?_)
    · refine zs_iconst (x := 0) dX4_isStateAndKey_25 (by decide) ?_
      refine zs_zret dX4_isStateAndKey_26 rfl (by first | omega | (split <;> omega)) ?_
      exact ⟨(zb_n (by omega)).symm, rfl⟩
    · refine zs_iload_n dX4_isStateAndKey_15 rfl ?_
      refine zs_bipush (x := 100) dX4_isStateAndKey_16 (by decide) ?_
      refine zs_icmp_ge (tgt := 25) dX4_isStateAndKey_18 (by decide) (by omega) (by omega) (fun h18 => ?_) (fun h18 => ?_)
      · refine zs_iconst (x := 0) dX4_isStateAndKey_25 (by decide) ?_
        refine zs_zret dX4_isStateAndKey_26 rfl (by first | omega | (split <;> omega)) ?_
        exact ⟨(zb_n (by omega)).symm, rfl⟩
      · refine zs_iconst (x := 1) dX4_isStateAndKey_21 (by decide) ?_
        refine zs_goto (tgt := 26) dX4_isStateAndKey_22 (by decide) ?_
        refine zs_zret dX4_isStateAndKey_26 rfl (by first | omega | (split <;> omega)) ?_
        exact ⟨(zb_p (by omega)).symm, rfl⟩
set_option maxHeartbeats 4000000 in
set_option maxRecDepth 100000 in
theorem t_X4_isNumberFor {v : zs_V} (hS : x_S v) (s k m : Int) (hs : zn s) (hk : zn k) (hm : zn m) : zs_R mX4_isNumberFor 0 0 shX (zs_X (zb (((0 ≤ s ∧ s < v 15 0) ∧ 0 ≤ k ∧ k < 100) ∧ ¬ v 0 s = 1 ∧ 0 ≤ m ∧ m < 10)) v) v 0 [some (.inr 0), some (.inl (s)), some (.inl (k)), some (.inl (m))] [] := by
  have hm1 := hS.1
  have hm2 := hS.2.1
  refine zs_aload_n dX4_isNumberFor_0 rfl ?_
  refine zs_iload_n dX4_isNumberFor_1 rfl ?_
  refine zs_iload_n dX4_isNumberFor_2 rfl ?_
  refine zs_eV (As := [.inl (s), .inl (k)]) (rest := []) (q := 0) dX4_isNumberFor_3 rfl (Nat.le_of_ble_eq_true rfl) rfl rfl YX4_isStateAndKey rfl rfl (Nat.le_of_ble_eq_true rfl) gX4_isNumberFor_X4_isStateAndKey (by decide) ⟨Nat.zero_le _, Nat.zero_le _⟩ rfl (t_X4_isStateAndKey (v := v) (s) (k) (by omega) (by omega) (by omega)) ?_
  refine zs_ifz_eq (tgt := 31) dX4_isNumberFor_6 (by decide)  (fun h6 => ?_) (fun h6 => ?_)
  · refine zs_iconst (x := 0) dX4_isNumberFor_31 (by decide) ?_
    refine zs_zret dX4_isNumberFor_32 rfl (by first | omega | (split <;> omega)) ?_
    exact ⟨(zb_n (by omega)).symm, rfl⟩
  · have hs1 := x_S_at hS (s := s) (by omega) (by omega)
    refine zs_aload_n dX4_isNumberFor_9 rfl ?_
    refine zs_getr (j := 0) dX4_isNumberFor_10 rfl rfl rfl (by decide) nX4_isNumberFor_X4 fX4_isNumberFor_12 ?_
    refine zs_iload_n dX4_isNumberFor_13 rfl ?_
    refine zs_eV (As := [.inl (s)]) (rest := []) (q := 1) dX4_isNumberFor_14 rfl (Nat.le_of_ble_eq_true rfl) rfl rfl YX3_isList rfl rfl (Nat.le_of_ble_eq_true rfl) gX4_isNumberFor_X3_isList (by decide) ⟨Nat.zero_le _, Nat.zero_le _⟩ rfl (t_X3_isList (v := v) (s) (by omega) (by omega)) ?_
    refine zs_ifz_ne (tgt := 31) dX4_isNumberFor_17 (by decide)  (fun h17 => ?_) (fun h17 => ?_)
    · refine zs_iconst (x := 0) dX4_isNumberFor_31 (by decide) ?_
      refine zs_zret dX4_isNumberFor_32 rfl (by first | omega | (split <;> omega)) ?_
      exact ⟨(zb_n (by omega)).symm, rfl⟩
    · refine zs_iload_n dX4_isNumberFor_20 rfl ?_
      refine zs_eS (As := [.inl (m)]) (rest := []) dX4_isNumberFor_21 rfl (Nat.le_of_ble_eq_true rfl) YX4_isMember rfl (Nat.le_of_ble_eq_true rfl) gX4_isNumberFor_X4_isMember (by decide) ⟨Nat.zero_le _, Nat.zero_le _⟩ rfl (t_X4_isMember (v := v) (m) (by omega)) ?_
      refine zs_ifz_eq (tgt := 31) dX4_isNumberFor_24 (by decide)  (fun h24 => ?_) (fun h24 => ?_)
      · refine zs_iconst (x := 0) dX4_isNumberFor_31 (by decide) ?_
        refine zs_zret dX4_isNumberFor_32 rfl (by first | omega | (split <;> omega)) ?_
        exact ⟨(zb_n (by omega)).symm, rfl⟩
      · refine zs_iconst (x := 1) dX4_isNumberFor_27 (by decide) ?_
        refine zs_goto (tgt := 32) dX4_isNumberFor_28 (by decide) ?_
        refine zs_zret dX4_isNumberFor_32 rfl (by first | omega | (split <;> omega)) ?_
        exact ⟨(zb_p (by omega)).symm, rfl⟩
set_option maxHeartbeats 4000000 in
set_option maxRecDepth 100000 in
theorem t_X4_isListFor {v : zs_V} (hS : x_S v) (s k : Int) (hs : zn s) (hk : zn k) : zs_R mX4_isListFor 0 0 shX (zs_X (zb (((0 ≤ s ∧ s < v 15 0) ∧ 0 ≤ k ∧ k < 100) ∧ v 0 s = 1)) v) v 0 [some (.inr 0), some (.inl (s)), some (.inl (k))] [] := by
  have hm1 := hS.1
  have hm2 := hS.2.1
  refine zs_aload_n dX4_isListFor_0 rfl ?_
  refine zs_iload_n dX4_isListFor_1 rfl ?_
  refine zs_iload_n dX4_isListFor_2 rfl ?_
  refine zs_eV (As := [.inl (s), .inl (k)]) (rest := []) (q := 0) dX4_isListFor_3 rfl (Nat.le_of_ble_eq_true rfl) rfl rfl YX4_isStateAndKey rfl rfl (Nat.le_of_ble_eq_true rfl) gX4_isListFor_X4_isStateAndKey (by decide) ⟨Nat.zero_le _, Nat.zero_le _⟩ rfl (t_X4_isStateAndKey (v := v) (s) (k) (by omega) (by omega) (by omega)) ?_
  refine zs_ifz_eq (tgt := 24) dX4_isListFor_6 (by decide)  (fun h6 => ?_) (fun h6 => ?_)
  · refine zs_iconst (x := 0) dX4_isListFor_24 (by decide) ?_
    refine zs_zret dX4_isListFor_25 rfl (by first | omega | (split <;> omega)) ?_
    exact ⟨(zb_n (by omega)).symm, rfl⟩
  · have hs1 := x_S_at hS (s := s) (by omega) (by omega)
    refine zs_aload_n dX4_isListFor_9 rfl ?_
    refine zs_getr (j := 0) dX4_isListFor_10 rfl rfl rfl (by decide) nX4_isListFor_X4 fX4_isListFor_12 ?_
    refine zs_iload_n dX4_isListFor_13 rfl ?_
    refine zs_eV (As := [.inl (s)]) (rest := []) (q := 1) dX4_isListFor_14 rfl (Nat.le_of_ble_eq_true rfl) rfl rfl YX3_isList rfl rfl (Nat.le_of_ble_eq_true rfl) gX4_isListFor_X3_isList (by decide) ⟨Nat.zero_le _, Nat.zero_le _⟩ rfl (t_X3_isList (v := v) (s) (by omega) (by omega)) ?_
    refine zs_ifz_eq (tgt := 24) dX4_isListFor_17 (by decide)  (fun h17 => ?_) (fun h17 => ?_)
    · refine zs_iconst (x := 0) dX4_isListFor_24 (by decide) ?_
      refine zs_zret dX4_isListFor_25 rfl (by first | omega | (split <;> omega)) ?_
      exact ⟨(zb_n (by omega)).symm, rfl⟩
    · refine zs_iconst (x := 1) dX4_isListFor_20 (by decide) ?_
      refine zs_goto (tgt := 25) dX4_isListFor_21 (by decide) ?_
      refine zs_zret dX4_isListFor_25 rfl (by first | omega | (split <;> omega)) ?_
      exact ⟨(zb_p (by omega)).symm, rfl⟩
set_option maxHeartbeats 4000000 in
set_option maxRecDepth 100000 in
theorem t_X4_isMemberOrIndexFor {v : zs_V} (hS : x_S v) (s k m : Int) (hs : zn s) (hk : zn k) (hm : zn m) : zs_R mX4_isMemberOrIndexFor 0 0 shX (zs_X (zb (((0 ≤ s ∧ s < v 15 0) ∧ 0 ≤ k ∧ k < 100) ∧ 0 ≤ m ∧ (v 0 s = 1 ∨ m < 10))) v) v 0 [some (.inr 0), some (.inl (s)), some (.inl (k)), some (.inl (m))] [] := by
  have hm1 := hS.1
  have hm2 := hS.2.1
  refine zs_aload_n dX4_isMemberOrIndexFor_0 rfl ?_
  refine zs_iload_n dX4_isMemberOrIndexFor_1 rfl ?_
  refine zs_iload_n dX4_isMemberOrIndexFor_2 rfl ?_
  refine zs_eV (As := [.inl (s), .inl (k)]) (rest := []) (q := 0) dX4_isMemberOrIndexFor_3 rfl (Nat.le_of_ble_eq_true rfl) rfl rfl YX4_isStateAndKey rfl rfl (Nat.le_of_ble_eq_true rfl) gX4_isMemberOrIndexFor_X4_isStateAndKey (by decide) ⟨Nat.zero_le _, Nat.zero_le _⟩ rfl (t_X4_isStateAndKey (v := v) (s) (k) (by omega) (by omega) (by omega)) ?_
  refine zs_ifz_eq (tgt := 35) dX4_isMemberOrIndexFor_6 (by decide)  (fun h6 => ?_) (fun h6 => ?_)
  · refine zs_iconst (x := 0) dX4_isMemberOrIndexFor_35 (by decide) ?_
    refine zs_zret dX4_isMemberOrIndexFor_36 rfl (by first | omega | (split <;> omega)) ?_
    exact ⟨(zb_n (by omega)).symm, rfl⟩
  · have hs1 := x_S_at hS (s := s) (by omega) (by omega)
    refine zs_iload_n dX4_isMemberOrIndexFor_9 rfl ?_
    refine zs_if_lt (tgt := 35) dX4_isMemberOrIndexFor_10 (by decide) (by omega) (fun h10 => ?_) (fun h10 => ?_)
    · refine zs_iconst (x := 0) dX4_isMemberOrIndexFor_35 (by decide) ?_
      refine zs_zret dX4_isMemberOrIndexFor_36 rfl (by first | omega | (split <;> omega)) ?_
      exact ⟨(zb_n (by omega)).symm, rfl⟩
    · refine zs_aload_n dX4_isMemberOrIndexFor_13 rfl ?_
      refine zs_getr (j := 0) dX4_isMemberOrIndexFor_14 rfl rfl rfl (by decide) nX4_isMemberOrIndexFor_X4 fX4_isMemberOrIndexFor_12 ?_
      refine zs_iload_n dX4_isMemberOrIndexFor_17 rfl ?_
      refine zs_eV (As := [.inl (s)]) (rest := []) (q := 1) dX4_isMemberOrIndexFor_18 rfl (Nat.le_of_ble_eq_true rfl) rfl rfl YX3_isList rfl rfl (Nat.le_of_ble_eq_true rfl) gX4_isMemberOrIndexFor_X3_isList (by decide) ⟨Nat.zero_le _, Nat.zero_le _⟩ rfl (t_X3_isList (v := v) (s) (by omega) (by omega)) ?_
      refine zs_ifz_ne (tgt := 31) dX4_isMemberOrIndexFor_21 (by decide)  (fun h21 => ?_) (fun h21 => ?_)
      · refine zs_iconst (x := 1) dX4_isMemberOrIndexFor_31 (by decide) ?_
        refine zs_goto (tgt := 36) dX4_isMemberOrIndexFor_32 (by decide) ?_
        refine zs_zret dX4_isMemberOrIndexFor_36 rfl (by first | omega | (split <;> omega)) ?_
        exact ⟨(zb_p (by omega)).symm, rfl⟩
      · refine zs_iload_n dX4_isMemberOrIndexFor_24 rfl ?_
        refine zs_eS (As := [.inl (m)]) (rest := []) dX4_isMemberOrIndexFor_25 rfl (Nat.le_of_ble_eq_true rfl) YX4_isMember rfl (Nat.le_of_ble_eq_true rfl) gX4_isMemberOrIndexFor_X4_isMember (by decide) ⟨Nat.zero_le _, Nat.zero_le _⟩ rfl (t_X4_isMember (v := v) (m) (by omega)) ?_
        refine zs_ifz_eq (tgt := 35) dX4_isMemberOrIndexFor_28 (by decide)  (fun h28 => ?_) (fun h28 => ?_)
        · refine zs_iconst (x := 0) dX4_isMemberOrIndexFor_35 (by decide) ?_
          refine zs_zret dX4_isMemberOrIndexFor_36 rfl (by first | omega | (split <;> omega)) ?_
          exact ⟨(zb_n (by omega)).symm, rfl⟩
        · refine zs_iconst (x := 1) dX4_isMemberOrIndexFor_31 (by decide) ?_
          refine zs_goto (tgt := 36) dX4_isMemberOrIndexFor_32 (by decide) ?_
          refine zs_zret dX4_isMemberOrIndexFor_36 rfl (by first | omega | (split <;> omega)) ?_
          exact ⟨(zb_p (by omega)).symm, rfl⟩
set_option maxHeartbeats 4000000 in
set_option maxRecDepth 100000 in
theorem t_X4_slotOf {v : zs_V} (s k m : Int) : zs_R mX4_slotOf 0 0 shX (zs_X (s * 1000 + k * 10 + m) v) v 0 [some (.inl (s)), some (.inl (k)), some (.inl (m))] [] := by
  refine zs_iload_n dX4_slotOf_0 rfl ?_
  refine zs_sipush (x := 1000) dX4_slotOf_1 (by decide) ?_
  refine zs_imul dX4_slotOf_4 ?_
  refine zs_iload_n dX4_slotOf_5 rfl ?_
  refine zs_bipush (x := 10) dX4_slotOf_6 (by decide) ?_
  refine zs_imul dX4_slotOf_8 ?_
  refine zs_iadd dX4_slotOf_9 ?_
  refine zs_iload_n dX4_slotOf_10 rfl ?_
  refine zs_iadd dX4_slotOf_11 ?_
  refine zs_iret dX4_slotOf_12 rfl ?_
  exact ⟨rfl, rfl⟩
set_option maxHeartbeats 4000000 in
set_option maxRecDepth 100000 in
theorem t_X4_slotFor {v : zs_V} (hS : x_S v) (s k m : Int) (hs : 0 ≤ s ∧ s < v 15 0) : zs_R mX4_slotFor 0 0 shX (zs_X (s * 1000 + k * 10 + (if v 0 s = 1 then 0 else m)) v) v 0 [some (.inr 0), some (.inl (s)), some (.inl (k)), some (.inl (m))] [] := by
  have hs1 := x_S_at hS (s := s) (by omega) (by omega)
  refine zs_iload_n dX4_slotFor_0 rfl ?_
  refine zs_iload_n dX4_slotFor_1 rfl ?_
  refine zs_aload_n dX4_slotFor_2 rfl ?_
  refine zs_getr (j := 0) dX4_slotFor_3 rfl rfl rfl (by decide) nX4_slotFor_X4 fX4_slotFor_12 ?_
  refine zs_iload_n dX4_slotFor_6 rfl ?_
  refine zs_eV (As := [.inl (s)]) (rest := [.inl (k), .inl (s)]) (q := 1) dX4_slotFor_7 rfl (Nat.le_of_ble_eq_true rfl) rfl rfl YX3_isList rfl rfl (Nat.le_of_ble_eq_true rfl) gX4_slotFor_X3_isList (by decide) ⟨Nat.zero_le _, Nat.zero_le _⟩ rfl (t_X3_isList (v := v) (s) (by omega) (by omega)) ?_
  refine zs_ifz_eq (tgt := 17) dX4_slotFor_10 (by decide)  (fun h10 => ?_) (fun h10 => ?_)
  · refine zs_iload_n dX4_slotFor_17 rfl ?_
    refine zs_eS (As := [.inl (s), .inl (k), .inl (m)]) (rest := []) dX4_slotFor_18 rfl (Nat.le_of_ble_eq_true rfl) YX4_slotOf rfl (Nat.le_of_ble_eq_true rfl) gX4_slotFor_X4_slotOf (by decide) ⟨Nat.zero_le _, Nat.zero_le _⟩ rfl (t_X4_slotOf (v := v) (s) (k) (m)) ?_
    refine zs_iret dX4_slotFor_21 rfl ?_
    exact ⟨by rw [if_neg h10], rfl⟩
  · refine zs_iconst (x := 0) dX4_slotFor_13 (by decide) ?_
    refine zs_goto (tgt := 18) dX4_slotFor_14 (by decide) ?_
    refine zs_eS (As := [.inl (s), .inl (k), .inl (0)]) (rest := []) dX4_slotFor_18 rfl (Nat.le_of_ble_eq_true rfl) YX4_slotOf rfl (Nat.le_of_ble_eq_true rfl) gX4_slotFor_X4_slotOf (by decide) ⟨Nat.zero_le _, Nat.zero_le _⟩ rfl (t_X4_slotOf (v := v) (s) (k) (0)) ?_
    refine zs_iret dX4_slotFor_21 rfl ?_
    exact ⟨by rw [if_pos h10], rfl⟩
set_option maxHeartbeats 4000000 in
set_option maxRecDepth 100000 in
theorem t_X4_indexFor {v : zs_V} (hS : x_S v) (s m : Int) (hs : 0 ≤ s ∧ s < v 15 0) : zs_R mX4_indexFor 0 0 shX (zs_X (if v 0 s = 1 then m else 0) v) v 0 [some (.inr 0), some (.inl (s)), some (.inl (m))] [] := by
  have hs1 := x_S_at hS (s := s) (by omega) (by omega)
  refine zs_aload_n dX4_indexFor_0 rfl ?_
  refine zs_getr (j := 0) dX4_indexFor_1 rfl rfl rfl (by decide) nX4_indexFor_X4 fX4_indexFor_12 ?_
  refine zs_iload_n dX4_indexFor_4 rfl ?_
  refine zs_eV (As := [.inl (s)]) (rest := []) (q := 1) dX4_indexFor_5 rfl (Nat.le_of_ble_eq_true rfl) rfl rfl YX3_isList rfl rfl (Nat.le_of_ble_eq_true rfl) gX4_indexFor_X3_isList (by decide) ⟨Nat.zero_le _, Nat.zero_le _⟩ rfl (t_X3_isList (v := v) (s) (by omega) (by omega)) ?_
  refine zs_ifz_eq (tgt := 15) dX4_indexFor_8 (by decide)  (fun h8 => ?_) (fun h8 => ?_)
  · refine zs_iconst (x := 0) dX4_indexFor_15 (by decide) ?_
    refine zs_iret dX4_indexFor_16 rfl ?_
    exact ⟨by rw [if_neg h8], rfl⟩
  · refine zs_iload_n dX4_indexFor_11 rfl ?_
    refine zs_goto (tgt := 16) dX4_indexFor_12 (by decide) ?_
    refine zs_iret dX4_indexFor_16 rfl ?_
    exact ⟨by rw [if_pos h8], rfl⟩
set_option maxHeartbeats 4000000 in
set_option maxRecDepth 100000 in
theorem t_X4_isOfKey {v : zs_V} (p s k : Int) (hp : 0 ≤ p ∧ p < 200) (h : 0 ≤ v 5 p ∧ v 5 p < 6000) (hs : zn s) (hk : zn k) : zs_R mX4_isOfKey 0 0 shX (zs_X (zb (v 5 p / 1000 = s ∧ v 5 p / 10 % 100 = k)) v) v 0 [some (.inr 0), some (.inl (p)), some (.inl (s)), some (.inl (k))] [] := by
  refine zs_aload_n dX4_isOfKey_0 rfl ?_
  refine zs_getr (j := 1) dX4_isOfKey_1 rfl rfl rfl (by decide) nX4_isOfKey_X4 fX4_isOfKey_19 ?_
  refine zs_iload_n dX4_isOfKey_4 rfl ?_
  refine zs_eV (As := [.inl (p)]) (rest := []) (q := 7) dX4_isOfKey_5 rfl (Nat.le_of_ble_eq_true rfl) rfl rfl YX1_stateAt rfl rfl (Nat.le_of_ble_eq_true rfl) gX4_isOfKey_X1_stateAt (by decide) ⟨Nat.zero_le _, Nat.zero_le _⟩ rfl (t_X1_stateAt (v := v) (p) (by omega) (by omega)) ?_
  refine zs_iload_n dX4_isOfKey_8 rfl ?_
  refine zs_icmp_ne (tgt := 28) dX4_isOfKey_9 (by decide) (by omega) (by omega) (fun h9 => ?_) (fun h9 => ?_)
  · refine zs_iconst (x := 0) dX4_isOfKey_28 (by decide) ?_
    refine zs_zret dX4_isOfKey_29 rfl (by first | omega | (split <;> omega)) ?_
    exact ⟨(zb_n (by omega)).symm, rfl⟩
  · refine zs_aload_n dX4_isOfKey_12 rfl ?_
    refine zs_getr (j := 1) dX4_isOfKey_13 rfl rfl rfl (by decide) nX4_isOfKey_X4 fX4_isOfKey_19 ?_
    refine zs_iload_n dX4_isOfKey_16 rfl ?_
    refine zs_eV (As := [.inl (p)]) (rest := []) (q := 7) dX4_isOfKey_17 rfl (Nat.le_of_ble_eq_true rfl) rfl rfl YX1_keyAt rfl rfl (Nat.le_of_ble_eq_true rfl) gX4_isOfKey_X1_keyAt (by decide) ⟨Nat.zero_le _, Nat.zero_le _⟩ rfl (t_X1_keyAt (v := v) (p) (by omega) (by omega)) ?_
    refine zs_iload_n dX4_isOfKey_20 rfl ?_
    refine zs_icmp_ne (tgt := 28) dX4_isOfKey_21 (by decide) (by omega) (by omega) (fun h21 => ?_) (fun h21 => ?_)
    · refine zs_iconst (x := 0) dX4_isOfKey_28 (by decide) ?_
      refine zs_zret dX4_isOfKey_29 rfl (by first | omega | (split <;> omega)) ?_
      exact ⟨(zb_n (by omega)).symm, rfl⟩
    · refine zs_iconst (x := 1) dX4_isOfKey_24 (by decide) ?_
      refine zs_goto (tgt := 29) dX4_isOfKey_25 (by decide) ?_
      refine zs_zret dX4_isOfKey_29 rfl (by first | omega | (split <;> omega)) ?_
      exact ⟨(zb_p (by omega)).symm, rfl⟩

theorem x_P_f {v : zs_V} {p : Int} (hS : x_S v) (h : x_P v p) : 0 ≤ p ∧ p < 200 ∧ 0 ≤ v 5 p ∧ v 5 p < 6000 ∧ 0 ≤ v 5 p / 1000 ∧ v 5 p / 1000 < 6 ∧ v 5 p / 1000 < v 15 0 ∧ (v 0 (v 5 p / 1000) = 0 ∨ v 0 (v 5 p / 1000) = 1) ∧ (v 1 (v 5 p / 1000) = 0 ∨ v 1 (v 5 p / 1000) = 1) ∧ 1 ≤ v 2 (v 5 p / 1000) ∧ v 2 (v 5 p / 1000) ≤ 100000 ∧ (v 3 (v 5 p / 1000) = 0 ∨ v 3 (v 5 p / 1000) = 1) ∧ 0 ≤ v 4 (v 1 (v 5 p / 1000)) ∧ v 4 (v 1 (v 5 p / 1000)) ≤ 1000000000 := by
  obtain ⟨h1, h2, h3, h4⟩ := h
  have hm := hS.2.1
  obtain ⟨a, b, c, d, e, f, g, i⟩ := x_S_at hS (s := v 5 p / 1000) (by omega) (by omega)
  exact ⟨h1, h2, h3, by omega, by omega, a, by omega, b, c, d, e, f, g, i⟩
theorem x_left_b {v : zs_V} {p : Int} (hS : x_S v) (h : x_E v p) : -1000000000 ≤ x_left v p ∧ x_left v p ≤ 1000100000 := by
  have hf := x_P_f hS h.1
  have h2 := h.2
  unfold x_left
  omega
theorem x_S_of {u v : zs_V} (h0 : u 0 = v 0) (h1 : u 1 = v 1) (h2 : u 2 = v 2) (h3 : u 3 = v 3) (h4 : u 4 = v 4) (h15 : u 15 = v 15) (h : x_S v) : x_S u := by
  unfold x_S
  rw [h0, h1, h2, h3, h4, h15]
  exact h
theorem x_P_of {u v : zs_V} {p : Int} (h5 : u 5 = v 5) (h15 : u 15 = v 15) (h : x_P v p) : x_P u p := by
  unfold x_P
  rw [h5, h15]
  exact h
theorem x_E_of {u v : zs_V} {p : Int} (h5 : u 5 = v 5) (h8 : u 8 = v 8) (h15 : u 15 = v 15) (h : x_E v p) : x_E u p := by
  unfold x_E
  rw [h8]
  exact ⟨x_P_of h5 h15 h.1, h.2⟩
theorem x_T_of {u v : zs_V} (h5 : u 5 = v 5) (h8 : u 8 = v 8) (h9 : u 9 = v 9) (h15 : u 15 = v 15) (h16 : u 16 = v 16) (h : x_T v) : x_T u := by
  unfold x_T
  rw [h16, h9]
  exact ⟨h.1, h.2.1, fun j a b => x_E_of h5 h8 h15 (h.2.2 j a b)⟩
theorem x_seg_9 {u v : zs_V} (h : u 9 = v 9) (a : Int) (n : Nat) : x_seg u a n = x_seg v a n := x_seg_congr u v a a n (fun i _ _ => by rw [h])
theorem x_L_of {u v : zs_V} (h9 : u 9 = v 9) (h16 : u 16 = v 16) : x_L u = x_L v := by
  unfold x_L
  rw [h16]
  exact x_seg_9 h9 _ _
set_option maxHeartbeats 4000000 in
set_option maxRecDepth 100000 in
theorem t_X4_leftOf {v : zs_V} (p : Int) (hS : x_S v) (hE : x_E v p) : zs_R mX4_leftOf 0 0 shX (zs_X (x_left v p) v) v 0 [some (.inr 0), some (.inl (p))] [] := by
  have hf := x_P_f hS hE.1
  refine zs_aload_n dX4_leftOf_0 rfl ?_
  refine zs_getr (j := 1) dX4_leftOf_1 rfl rfl rfl (by decide) nX4_leftOf_X4 fX4_leftOf_19 ?_
  refine zs_getr (j := 3) dX4_leftOf_4 rfl rfl rfl (by decide) nX4_leftOf_X1 fX4_leftOf_187 ?_
  refine zs_iload_n dX4_leftOf_7 rfl ?_
  refine zs_iaload dX4_leftOf_8 rfl (by decide) (by omega) (by omega) ?_
  refine zs_aload_n dX4_leftOf_9 rfl ?_
  refine zs_getr (j := 0) dX4_leftOf_10 rfl rfl rfl (by decide) nX4_leftOf_X4 fX4_leftOf_12 ?_
  refine zs_aload_n dX4_leftOf_13 rfl ?_
  refine zs_getr (j := 1) dX4_leftOf_14 rfl rfl rfl (by decide) nX4_leftOf_X4 fX4_leftOf_19 ?_
  refine zs_iload_n dX4_leftOf_17 rfl ?_
  refine zs_eV (As := [.inl (p)]) (rest := [.inr 1, .inl (v 8 (p))]) (q := 7) dX4_leftOf_18 rfl (Nat.le_of_ble_eq_true rfl) rfl rfl YX1_stateAt rfl rfl (Nat.le_of_ble_eq_true rfl) gX4_leftOf_X1_stateAt (by decide) ⟨Nat.zero_le _, Nat.zero_le _⟩ rfl (t_X1_stateAt (v := v) (p) (by omega) (by omega)) ?_
  refine zs_eV (As := [.inl (v 5 (p) / 1000)]) (rest := [.inl (v 8 (p))]) (q := 1) dX4_leftOf_21 rfl (Nat.le_of_ble_eq_true rfl) rfl rfl YX3_timeOf rfl rfl (Nat.le_of_ble_eq_true rfl) gX4_leftOf_X3_timeOf (by decide) ⟨Nat.zero_le _, Nat.zero_le _⟩ rfl (t_X3_timeOf (v := v) (v 5 (p) / 1000) (by omega) (by omega)) ?_
  refine zs_isub dX4_leftOf_24 ?_
  refine zs_iret dX4_leftOf_25 rfl ?_
  exact ⟨rfl, rfl⟩
set_option maxHeartbeats 4000000 in
set_option maxRecDepth 100000 in
theorem t_X4_isShown {v : zs_V} (p : Int) (hS : x_S v) (hE : x_E v p) : zs_R mX4_isShown 0 0 shX (zs_X (zb (0 < x_left v p)) v) v 0 [some (.inr 0), some (.inl (p))] [] := by
  have hl := x_left_b hS hE
  refine zs_aload_n dX4_isShown_0 rfl ?_
  refine zs_iload_n dX4_isShown_1 rfl ?_
  refine zs_eV (As := [.inl (p)]) (rest := []) (q := 0) dX4_isShown_2 rfl (Nat.le_of_ble_eq_true rfl) rfl rfl YX4_leftOf rfl rfl (Nat.le_of_ble_eq_true rfl) gX4_isShown_X4_leftOf (by decide) ⟨Nat.zero_le _, Nat.zero_le _⟩ rfl (t_X4_leftOf (v := v) (p) hS hE) ?_
  refine zs_if_le (tgt := 12) dX4_isShown_5 (by decide) (by omega) (fun h5 => ?_) (fun h5 => ?_)
  · refine zs_iconst (x := 0) dX4_isShown_12 (by decide) ?_
    refine zs_zret dX4_isShown_13 rfl (by first | omega | (split <;> omega)) ?_
    exact ⟨(zb_n (by omega)).symm, rfl⟩
  · refine zs_iconst (x := 1) dX4_isShown_8 (by decide) ?_
    refine zs_goto (tgt := 13) dX4_isShown_9 (by decide) ?_
    refine zs_zret dX4_isShown_13 rfl (by first | omega | (split <;> omega)) ?_
    exact ⟨(zb_p (by omega)).symm, rfl⟩
