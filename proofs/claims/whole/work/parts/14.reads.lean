
theorem x_L_E {v : zs_V} (hT : x_T v) {p : Int} (h : p ∈ x_L v) : x_E v p := by
  obtain ⟨j, h1, h2, rfl⟩ := x_seg_mem h
  have := hT.1
  exact hT.2.2 j h1 (by omega)
theorem x_L_line {v : zs_V} {j : Int} (h0 : 0 ≤ j) (h1 : j < v 16 0) : v 9 j ∈ x_L v := x_seg_in v 0 _ j h0 (by omega)
theorem x_T_z {v : zs_V} (hT : x_T v) : ∀ j : Int, 0 ≤ j → j < v 16 0 → zn (v 9 j) := fun j h0 h1 => by
  have := (hT.2.2 j h0 h1).1
  have a := this.1
  have b := this.2.1
  omega
theorem x_pl_m (v : zs_V) (sl i ov : Int) (L : List Int) : ∀ b, x_pl v sl i ov L b = -1 ∨ x_pl v sl i ov L b ∈ L := by
  induction L with
  | nil => intro b; exact Or.inl rfl
  | cons p ps ih =>
    intro b
    simp only [x_pl]
    split
    · split
      · exact Or.inr List.mem_cons_self
      · exact (ih _).imp id (List.mem_cons_of_mem _)
    · exact (ih _).imp id (List.mem_cons_of_mem _)
theorem x_pl_c {v : zs_V} (hT : x_T v) (sl i ov : Int) : (x_pl v sl i ov (x_L v) 0 = -1 ∨ x_E v (x_pl v sl i ov (x_L v) 0)) ∧ -1 ≤ x_pl v sl i ov (x_L v) 0 ∧ x_pl v sl i ov (x_L v) 0 < 200 := by
  rcases x_pl_m v sl i ov (x_L v) 0 with h | h
  · rw [h]; exact ⟨Or.inl rfl, by omega, by omega⟩
  · have hE := x_L_E hT h
    have a := hE.1.1
    have b := hE.1.2.1
    exact ⟨Or.inr hE, by omega, b⟩
theorem x_lf_c (v : zs_V) (n : Nat) : ∀ p : Int, 0 ≤ p → x_lf v n p = -1 ∨ (p ≤ x_lf v n p ∧ x_lf v n p < p + n ∧ v 5 (x_lf v n p) = -1) := by
  induction n with
  | zero => intro p _; exact Or.inl rfl
  | succ n ih =>
    intro p hp
    simp only [x_lf]
    split
    · next h => exact Or.inr ⟨by omega, by omega, h⟩
    · rcases ih (p + 1) (by omega) with h | h
      · exact Or.inl h
      · exact Or.inr ⟨by omega, by omega, h.2.2⟩

noncomputable def x_stR (v : zs_V) (f c s w : Int) : Int := if (f = 0 ∨ f = 1) ∧ (c = 0 ∨ c = 1) ∧ (w = 0 ∨ w = 1) ∧ 1 ≤ s ∧ s ≤ 100000 then (if v 15 0 < 6 then v 15 0 else -3) else -1
noncomputable def x_stS (v : zs_V) (f c s w : Int) : zs_V := if (f = 0 ∨ f = 1) ∧ (c = 0 ∨ c = 1) ∧ (w = 0 ∨ w = 1) ∧ 1 ≤ s ∧ s ≤ 100000 then (if v 15 0 < 6 then zs_put (zs_put (zs_put (zs_put (zs_put v 0 (v 15 0) f) 1 (v 15 0) c) 2 (v 15 0) s) 3 (v 15 0) w) 15 0 (v 15 0 + 1) else v) else v
set_option maxHeartbeats 4000000 in
set_option maxRecDepth 100000 in
theorem t_X4_state {v : zs_V} (f c s w : Int) (hf : zn f) (hc : zn c) (hs : zn s) (hw : zn w) (hm : 0 ≤ v 15 0 ∧ v 15 0 ≤ 6) : zs_R mX4_state 0 0 shX (zs_X (x_stR v f c s w) (x_stS v f c s w)) v 0 [some (.inr 0), some (.inl (f)), some (.inl (c)), some (.inl (s)), some (.inl (w))] [] := by
  refine zs_iload_n dX4_state_0 rfl ?_
  refine zs_eS (As := [.inl (f)]) (rest := []) dX4_state_1 rfl (Nat.le_of_ble_eq_true rfl) YX4_isZeroOrOne rfl (Nat.le_of_ble_eq_true rfl) gX4_state_X4_isZeroOrOne (by decide) ⟨Nat.zero_le _, Nat.zero_le _⟩ rfl (t_X4_isZeroOrOne (v := v) (f) (by omega)) ?_
  refine zs_ifz_eq (tgt := 29) dX4_state_4 (by decide)  (fun h4 => ?_) (fun h4 => ?_)
  · refine zs_iconst (x := -1) dX4_state_29 (by decide) ?_
    refine zs_iret dX4_state_30 rfl ?_
    have hn : ¬ ((f = 0 ∨ f = 1) ∧ (c = 0 ∨ c = 1) ∧ (w = 0 ∨ w = 1) ∧ 1 ≤ s ∧ s ≤ 100000) := by omega
    exact ⟨by unfold x_stR; rw [if_neg hn], by unfold x_stS; rw [if_neg hn]⟩
  · refine zs_iload_n dX4_state_7 rfl ?_
    refine zs_eS (As := [.inl (c)]) (rest := []) dX4_state_8 rfl (Nat.le_of_ble_eq_true rfl) YX4_isZeroOrOne rfl (Nat.le_of_ble_eq_true rfl) gX4_state_X4_isZeroOrOne (by decide) ⟨Nat.zero_le _, Nat.zero_le _⟩ rfl (t_X4_isZeroOrOne (v := v) (c) (by omega)) ?_
    refine zs_ifz_eq (tgt := 29) dX4_state_11 (by decide)  (fun h11 => ?_) (fun h11 => ?_)
    · refine zs_iconst (x := -1) dX4_state_29 (by decide) ?_
      refine zs_iret dX4_state_30 rfl ?_
      have hn : ¬ ((f = 0 ∨ f = 1) ∧ (c = 0 ∨ c = 1) ∧ (w = 0 ∨ w = 1) ∧ 1 ≤ s ∧ s ≤ 100000) := by omega
      exact ⟨by unfold x_stR; rw [if_neg hn], by unfold x_stS; rw [if_neg hn]⟩
    · refine zs_iload dX4_state_14 rfl ?_
      refine zs_eS (As := [.inl (w)]) (rest := []) dX4_state_16 rfl (Nat.le_of_ble_eq_true rfl) YX4_isZeroOrOne rfl (Nat.le_of_ble_eq_true rfl) gX4_state_X4_isZeroOrOne (by decide) ⟨Nat.zero_le _, Nat.zero_le _⟩ rfl (t_X4_isZeroOrOne (v := v) (w) (by omega)) ?_
      refine zs_ifz_eq (tgt := 29) dX4_state_19 (by decide)  (fun h19 => ?_) (fun h19 => ?_)
      · refine zs_iconst (x := -1) dX4_state_29 (by decide) ?_
        refine zs_iret dX4_state_30 rfl ?_
        have hn : ¬ ((f = 0 ∨ f = 1) ∧ (c = 0 ∨ c = 1) ∧ (w = 0 ∨ w = 1) ∧ 1 ≤ s ∧ s ≤ 100000) := by omega
        exact ⟨by unfold x_stR; rw [if_neg hn], by unfold x_stS; rw [if_neg hn]⟩
      · refine zs_iload_n dX4_state_22 rfl ?_
        refine zs_eS (As := [.inl (s)]) (rest := []) dX4_state_23 rfl (Nat.le_of_ble_eq_true rfl) YX4_isSpan rfl (Nat.le_of_ble_eq_true rfl) gX4_state_X4_isSpan (by decide) ⟨Nat.zero_le _, Nat.zero_le _⟩ rfl (t_X4_isSpan (v := v) (s) (by omega)) ?_
        refine zs_ifz_ne (tgt := 31) dX4_state_26 (by decide)  (fun h26 => ?_) (fun h26 => ?_)
        · refine zs_aload_n dX4_state_31 rfl ?_
          refine zs_getr (j := 0) dX4_state_32 rfl rfl rfl (by decide) nX4_state_X4 fX4_state_12 ?_
          refine zs_geti (j := 5) dX4_state_35 rfl rfl rfl (by decide) nX4_state_X3 fX4_state_48 ?_
          refine zs_bipush (x := 6) dX4_state_38 (by decide) ?_
          refine zs_icmp_lt (tgt := 46) dX4_state_40 (by decide) (by omega) (by omega) (fun h40 => ?_) (fun h40 => ?_)
          · refine zs_aload_n dX4_state_46 rfl ?_
            refine zs_getr (j := 0) dX4_state_47 rfl rfl rfl (by decide) nX4_state_X4 fX4_state_12 ?_
            refine zs_iload_n dX4_state_50 rfl ?_
            refine zs_iload_n dX4_state_51 rfl ?_
            refine zs_iload_n dX4_state_52 rfl ?_
            refine zs_iload dX4_state_53 rfl ?_
            refine zs_eV (As := [.inl (f), .inl (c), .inl (s), .inl (w)]) (rest := []) (q := 1) dX4_state_55 rfl (Nat.le_of_ble_eq_true rfl) rfl rfl YX3_make rfl rfl (Nat.le_of_ble_eq_true rfl) gX4_state_X3_make (by decide) ⟨Nat.zero_le _, Nat.zero_le _⟩ rfl (t_X3_make (f) (c) (s) (w) (by omega)) ?_
            refine zs_iret dX4_state_58 rfl ?_
            have hn : ((f = 0 ∨ f = 1) ∧ (c = 0 ∨ c = 1) ∧ (w = 0 ∨ w = 1) ∧ 1 ≤ s ∧ s ≤ 100000) := by omega
            exact ⟨by unfold x_stR; rw [if_pos hn, if_pos h40], by unfold x_stS; rw [if_pos hn, if_pos h40]⟩
          · refine zs_bipush (x := -3) dX4_state_43 (by decide) ?_
            refine zs_iret dX4_state_45 rfl ?_
            have hn : ((f = 0 ∨ f = 1) ∧ (c = 0 ∨ c = 1) ∧ (w = 0 ∨ w = 1) ∧ 1 ≤ s ∧ s ≤ 100000) := by omega
            exact ⟨by unfold x_stR; rw [if_pos hn, if_neg h40], by unfold x_stS; rw [if_pos hn, if_neg h40]⟩
        · refine zs_iconst (x := -1) dX4_state_29 (by decide) ?_
          refine zs_iret dX4_state_30 rfl ?_
          have hn : ¬ ((f = 0 ∨ f = 1) ∧ (c = 0 ∨ c = 1) ∧ (w = 0 ∨ w = 1) ∧ 1 ≤ s ∧ s ≤ 100000) := by omega
          exact ⟨by unfold x_stR; rw [if_neg hn], by unfold x_stS; rw [if_neg hn]⟩

noncomputable def x_getR (v : zs_V) (s k m : Int) : Int := if (((0 ≤ s ∧ s < v 15 0) ∧ 0 ≤ k ∧ k < 100) ∧ ¬ v 0 s = 1 ∧ 0 ≤ m ∧ m < 10) then (if x_pl v (s * 1000 + k * 10 + m) 0 0 (x_L v) 0 = -1 then -99999999 else v 6 (x_pl v (s * 1000 + k * 10 + m) 0 0 (x_L v) 0)) else -1
noncomputable def x_getS (v : zs_V) (s k m : Int) : zs_V := if (((0 ≤ s ∧ s < v 15 0) ∧ 0 ≤ k ∧ k < 100) ∧ ¬ v 0 s = 1 ∧ 0 ≤ m ∧ m < 10) then x_read v (x_pl v (s * 1000 + k * 10 + m) 0 0 (x_L v) 0) else v
noncomputable def x_atR (v : zs_V) (s k i : Int) : Int := if (((0 ≤ s ∧ s < v 15 0) ∧ 0 ≤ k ∧ k < 100) ∧ v 0 s = 1) then (if x_pl v (s * 1000 + k * 10 + 0) i 0 (x_L v) 0 = -1 then -99999999 else v 6 (x_pl v (s * 1000 + k * 10 + 0) i 0 (x_L v) 0)) else -1
noncomputable def x_atS (v : zs_V) (s k i : Int) : zs_V := if (((0 ≤ s ∧ s < v 15 0) ∧ 0 ≤ k ∧ k < 100) ∧ v 0 s = 1) then x_read v (x_pl v (s * 1000 + k * 10 + 0) i 0 (x_L v) 0) else v
set_option maxHeartbeats 4000000 in
set_option maxRecDepth 100000 in
theorem t_X4_get {v : zs_V} (hS : x_S v) (hT : x_T v) (s k m : Int) (hs : zn s) (hk : zn k) (hm : zn m) : zs_R mX4_get 0 0 shX (zs_X (x_getR v s k m) (x_getS v s k m)) v 0 [some (.inr 0), some (.inl (s)), some (.inl (k)), some (.inl (m))] [] := by
  have hm2 := hS.2.1
  refine zs_aload_n dX4_get_0 rfl ?_
  refine zs_iload_n dX4_get_1 rfl ?_
  refine zs_iload_n dX4_get_2 rfl ?_
  refine zs_iload_n dX4_get_3 rfl ?_
  refine zs_eV (As := [.inl (s), .inl (k), .inl (m)]) (rest := []) (q := 0) dX4_get_4 rfl (Nat.le_of_ble_eq_true rfl) rfl rfl YX4_isNumberFor rfl rfl (Nat.le_of_ble_eq_true rfl) gX4_get_X4_isNumberFor (by decide) ⟨Nat.zero_le _, Nat.zero_le _⟩ rfl (t_X4_isNumberFor (v := v) hS (s) (k) (m) (by omega) (by omega) (by omega)) ?_
  refine zs_ifz_ne (tgt := 12) dX4_get_7 (by decide)  (fun h7 => ?_) (fun h7 => ?_)
  · refine zs_aload_n dX4_get_12 rfl ?_
    refine zs_aload_n dX4_get_13 rfl ?_
    refine zs_iload_n dX4_get_14 rfl ?_
    refine zs_iload_n dX4_get_15 rfl ?_
    refine zs_iload_n dX4_get_16 rfl ?_
    refine zs_eS (As := [.inl (s), .inl (k), .inl (m)]) (rest := [.inr 0, .inr 0]) dX4_get_17 rfl (Nat.le_of_ble_eq_true rfl) YX4_slotOf rfl (Nat.le_of_ble_eq_true rfl) gX4_get_X4_slotOf (by decide) ⟨Nat.zero_le _, Nat.zero_le _⟩ rfl (t_X4_slotOf (v := v) (s) (k) (m)) ?_
    refine zs_iconst (x := 0) dX4_get_20 (by decide) ?_
    refine zs_iconst (x := 0) dX4_get_21 (by decide) ?_
    refine zs_eV (As := [.inl ((s) * 1000 + (k) * 10 + (m)), .inl (0), .inl (0)]) (rest := [.inr 0]) (q := 0) dX4_get_22 rfl (Nat.le_of_ble_eq_true rfl) rfl rfl YX4_placeOf rfl rfl (Nat.le_of_ble_eq_true rfl) gX4_get_X4_placeOf (by decide) ⟨Nat.zero_le _, Nat.zero_le _⟩ rfl (t_X4_placeOf (v := v) ((s) * 1000 + (k) * 10 + (m)) (0) (0) hS hT (by omega) (by omega) (by omega)) ?_
    have hR := (x_pl_c hT (s * 1000 + k * 10 + m) 0 0).1.imp id (fun h => h.1)
    refine zs_eV (As := [.inl (x_pl v ((s) * 1000 + (k) * 10 + (m)) (0) (0) (x_L v) 0)]) (rest := []) (q := 0) dX4_get_25 rfl (Nat.le_of_ble_eq_true rfl) rfl rfl YX4_read rfl rfl (Nat.le_of_ble_eq_true rfl) gX4_get_X4_read (by decide) ⟨Nat.zero_le _, Nat.zero_le _⟩ rfl (t_X4_read (v := v) (x_pl v ((s) * 1000 + (k) * 10 + (m)) (0) (0) (x_L v) 0) hS hR) ?_
    refine zs_iret dX4_get_28 rfl ?_
    exact ⟨by unfold x_getR; rw [if_pos h7], by unfold x_getS; rw [if_pos h7]⟩
  · refine zs_iconst (x := -1) dX4_get_10 (by decide) ?_
    refine zs_iret dX4_get_11 rfl ?_
    exact ⟨by unfold x_getR; rw [if_neg h7], by unfold x_getS; rw [if_neg h7]⟩
set_option maxHeartbeats 4000000 in
set_option maxRecDepth 100000 in
theorem t_X4_at {v : zs_V} (hS : x_S v) (hT : x_T v) (s k i : Int) (hs : zn s) (hk : zn k) (hi : zn i) : zs_R mX4_at 0 0 shX (zs_X (x_atR v s k i) (x_atS v s k i)) v 0 [some (.inr 0), some (.inl (s)), some (.inl (k)), some (.inl (i))] [] := by
  have hm2 := hS.2.1
  refine zs_aload_n dX4_at_0 rfl ?_
  refine zs_iload_n dX4_at_1 rfl ?_
  refine zs_iload_n dX4_at_2 rfl ?_
  refine zs_eV (As := [.inl (s), .inl (k)]) (rest := []) (q := 0) dX4_at_3 rfl (Nat.le_of_ble_eq_true rfl) rfl rfl YX4_isListFor rfl rfl (Nat.le_of_ble_eq_true rfl) gX4_at_X4_isListFor (by decide) ⟨Nat.zero_le _, Nat.zero_le _⟩ rfl (t_X4_isListFor (v := v) hS (s) (k) (by omega) (by omega)) ?_
  refine zs_ifz_ne (tgt := 11) dX4_at_6 (by decide)  (fun h6 => ?_) (fun h6 => ?_)
  · refine zs_aload_n dX4_at_11 rfl ?_
    refine zs_aload_n dX4_at_12 rfl ?_
    refine zs_iload_n dX4_at_13 rfl ?_
    refine zs_iload_n dX4_at_14 rfl ?_
    refine zs_iconst (x := 0) dX4_at_15 (by decide) ?_
    refine zs_eS (As := [.inl (s), .inl (k), .inl (0)]) (rest := [.inr 0, .inr 0]) dX4_at_16 rfl (Nat.le_of_ble_eq_true rfl) YX4_slotOf rfl (Nat.le_of_ble_eq_true rfl) gX4_at_X4_slotOf (by decide) ⟨Nat.zero_le _, Nat.zero_le _⟩ rfl (t_X4_slotOf (v := v) (s) (k) (0)) ?_
    refine zs_iload_n dX4_at_19 rfl ?_
    refine zs_iconst (x := 0) dX4_at_20 (by decide) ?_
    refine zs_eV (As := [.inl ((s) * 1000 + (k) * 10 + (0)), .inl (i), .inl (0)]) (rest := [.inr 0]) (q := 0) dX4_at_21 rfl (Nat.le_of_ble_eq_true rfl) rfl rfl YX4_placeOf rfl rfl (Nat.le_of_ble_eq_true rfl) gX4_at_X4_placeOf (by decide) ⟨Nat.zero_le _, Nat.zero_le _⟩ rfl (t_X4_placeOf (v := v) ((s) * 1000 + (k) * 10 + (0)) (i) (0) hS hT (by omega) (by omega) (by omega)) ?_
    have hR := (x_pl_c hT (s * 1000 + k * 10 + 0) i 0).1.imp id (fun h => h.1)
    refine zs_eV (As := [.inl (x_pl v ((s) * 1000 + (k) * 10 + (0)) (i) (0) (x_L v) 0)]) (rest := []) (q := 0) dX4_at_24 rfl (Nat.le_of_ble_eq_true rfl) rfl rfl YX4_read rfl rfl (Nat.le_of_ble_eq_true rfl) gX4_at_X4_read (by decide) ⟨Nat.zero_le _, Nat.zero_le _⟩ rfl (t_X4_read (v := v) (x_pl v ((s) * 1000 + (k) * 10 + (0)) (i) (0) (x_L v) 0) hS hR) ?_
    refine zs_iret dX4_at_27 rfl ?_
    exact ⟨by unfold x_atR; rw [if_pos h6], by unfold x_atS; rw [if_pos h6]⟩
  · refine zs_iconst (x := -1) dX4_at_9 (by decide) ?_
    refine zs_iret dX4_at_10 rfl ?_
    exact ⟨by unfold x_atR; rw [if_neg h6], by unfold x_atS; rw [if_neg h6]⟩

noncomputable def x_heldR (v : zs_V) (s k o : Int) : Int := if ((0 ≤ s ∧ s < v 15 0) ∧ 0 ≤ k ∧ k < 100) then x_hm v s k (if o = 0 then 1 else 0) (x_L v) else -1
set_option maxHeartbeats 4000000 in
set_option maxRecDepth 100000 in
theorem t_X4_held {v : zs_V} (hS : x_S v) (hT : x_T v) (s k o : Int) (hs : zn s) (hk : zn k) (ho : zn o) : zs_R mX4_held 0 0 shX (zs_X (x_heldR v s k o) v) v 0 [some (.inr 0), some (.inl (s)), some (.inl (k)), some (.inl (o))] [] := by
  have hm1 := hS.1
  have hm2 := hS.2.1
  refine zs_aload_n dX4_held_0 rfl ?_
  refine zs_iload_n dX4_held_1 rfl ?_
  refine zs_iload_n dX4_held_2 rfl ?_
  refine zs_eV (As := [.inl (s), .inl (k)]) (rest := []) (q := 0) dX4_held_3 rfl (Nat.le_of_ble_eq_true rfl) rfl rfl YX4_isStateAndKey rfl rfl (Nat.le_of_ble_eq_true rfl) gX4_held_X4_isStateAndKey (by decide) ⟨Nat.zero_le _, Nat.zero_le _⟩ rfl (t_X4_isStateAndKey (v := v) (s) (k) (by omega) (by omega) (by omega)) ?_
  refine zs_ifz_ne (tgt := 11) dX4_held_6 (by decide)  (fun h6 => ?_) (fun h6 => ?_)
  · refine zs_aload_n dX4_held_11 rfl ?_
    refine zs_iload_n dX4_held_12 rfl ?_
    refine zs_iload_n dX4_held_13 rfl ?_
    refine zs_iload_n dX4_held_14 rfl ?_
    refine zs_if_ne (tgt := 22) dX4_held_15 (by decide) (by omega) (fun h15 => ?_) (fun h15 => ?_)
    · refine zs_iconst (x := 0) dX4_held_22 (by decide) ?_
      refine zs_eV (As := [.inl (s), .inl (k), .inl (0)]) (rest := []) (q := 0) dX4_held_23 rfl (Nat.le_of_ble_eq_true rfl) rfl rfl YX4_howMany rfl rfl (Nat.le_of_ble_eq_true rfl) gX4_held_X4_howMany (by decide) ⟨Nat.zero_le _, Nat.zero_le _⟩ rfl (t_X4_howMany (v := v) (s) (k) (0) hS hT (by omega) (by omega) (by omega)) ?_
      refine zs_iret dX4_held_26 rfl ?_
      exact ⟨by unfold x_heldR; rw [if_pos h6, if_neg h15], rfl⟩
    · refine zs_iconst (x := 1) dX4_held_18 (by decide) ?_
      refine zs_goto (tgt := 23) dX4_held_19 (by decide) ?_
      refine zs_eV (As := [.inl (s), .inl (k), .inl (1)]) (rest := []) (q := 0) dX4_held_23 rfl (Nat.le_of_ble_eq_true rfl) rfl rfl YX4_howMany rfl rfl (Nat.le_of_ble_eq_true rfl) gX4_held_X4_howMany (by decide) ⟨Nat.zero_le _, Nat.zero_le _⟩ rfl (t_X4_howMany (v := v) (s) (k) (1) hS hT (by omega) (by omega) (by omega)) ?_
      refine zs_iret dX4_held_26 rfl ?_
      exact ⟨by unfold x_heldR; rw [if_pos h6, if_pos h15], rfl⟩
  · refine zs_iconst (x := -1) dX4_held_9 (by decide) ?_
    refine zs_iret dX4_held_10 rfl ?_
    exact ⟨by unfold x_heldR; rw [if_neg h6], rfl⟩

noncomputable def x_ask (v : zs_V) (s k m o : Int) : Int := x_pl v (s * 1000 + k * 10 + (if v 0 s = 1 then 0 else m)) (if v 0 s = 1 then m else 0) o (x_L v) 0
noncomputable def x_leftR (v : zs_V) (s k m : Int) : Int := if (((0 ≤ s ∧ s < v 15 0) ∧ 0 ≤ k ∧ k < 100) ∧ 0 ≤ m ∧ (v 0 s = 1 ∨ m < 10)) then (if x_ask v s k m 0 = -1 then -99999999 else x_left v (x_ask v s k m 0)) else -1
noncomputable def x_placeR (v : zs_V) (s k m : Int) : Int := if (((0 ≤ s ∧ s < v 15 0) ∧ 0 ≤ k ∧ k < 100) ∧ 0 ≤ m ∧ (v 0 s = 1 ∨ m < 10)) then (if x_ask v s k m 1 = -1 then -99999999 else x_ask v s k m 1) else -1
theorem x_ask_z {v : zs_V} {s k m : Int} (hS : x_S v) (h : (((0 ≤ s ∧ s < v 15 0) ∧ 0 ≤ k ∧ k < 100) ∧ 0 ≤ m ∧ (v 0 s = 1 ∨ m < 10))) (hm : zn m) : zn (s * 1000 + k * 10 + (if v 0 s = 1 then 0 else m)) ∧ zn (if v 0 s = 1 then m else 0) := by
  have hm2 := hS.2.1
  split
  · omega
  · omega
set_option maxHeartbeats 4000000 in
set_option maxRecDepth 100000 in
theorem t_X4_left {v : zs_V} (hS : x_S v) (hT : x_T v) (s k m : Int) (hs : zn s) (hk : zn k) (hm : zn m) : zs_R mX4_left 0 0 shX (zs_X (x_leftR v s k m) v) v 0 [some (.inr 0), some (.inl (s)), some (.inl (k)), some (.inl (m)), none] [] := by
  refine zs_aload_n dX4_left_0 rfl ?_
  refine zs_iload_n dX4_left_1 rfl ?_
  refine zs_iload_n dX4_left_2 rfl ?_
  refine zs_iload_n dX4_left_3 rfl ?_
  refine zs_eV (As := [.inl (s), .inl (k), .inl (m)]) (rest := []) (q := 0) dX4_left_4 rfl (Nat.le_of_ble_eq_true rfl) rfl rfl YX4_isMemberOrIndexFor rfl rfl (Nat.le_of_ble_eq_true rfl) gX4_left_X4_isMemberOrIndexFor (by decide) ⟨Nat.zero_le _, Nat.zero_le _⟩ rfl (t_X4_isMemberOrIndexFor (v := v) hS (s) (k) (m) (by omega) (by omega) (by omega)) ?_
  refine zs_ifz_ne (tgt := 12) dX4_left_7 (by decide)  (fun h7 => ?_) (fun h7 => ?_)
  · have haz := x_ask_z hS h7 hm
    have hm2 := hS.2.1
    refine zs_aload_n dX4_left_12 rfl ?_
    refine zs_aload_n dX4_left_13 rfl ?_
    refine zs_iload_n dX4_left_14 rfl ?_
    refine zs_iload_n dX4_left_15 rfl ?_
    refine zs_iload_n dX4_left_16 rfl ?_
    refine zs_eV (As := [.inl (s), .inl (k), .inl (m)]) (rest := [.inr 0]) (q := 0) dX4_left_17 rfl (Nat.le_of_ble_eq_true rfl) rfl rfl YX4_slotFor rfl rfl (Nat.le_of_ble_eq_true rfl) gX4_left_X4_slotFor (by decide) ⟨Nat.zero_le _, Nat.zero_le _⟩ rfl (t_X4_slotFor (v := v) hS (s) (k) (m) (by omega)) ?_
    refine zs_aload_n dX4_left_20 rfl ?_
    refine zs_iload_n dX4_left_21 rfl ?_
    refine zs_iload_n dX4_left_22 rfl ?_
    refine zs_eV (As := [.inl (s), .inl (m)]) (rest := [.inl ((s) * 1000 + (k) * 10 + (if v 0 (s) = 1 then 0 else m)), .inr 0]) (q := 0) dX4_left_23 rfl (Nat.le_of_ble_eq_true rfl) rfl rfl YX4_indexFor rfl rfl (Nat.le_of_ble_eq_true rfl) gX4_left_X4_indexFor (by decide) ⟨Nat.zero_le _, Nat.zero_le _⟩ rfl (t_X4_indexFor (v := v) hS (s) (m) (by omega)) ?_
    refine zs_iconst (x := 0) dX4_left_26 (by decide) ?_
    refine zs_eV (As := [.inl ((s) * 1000 + (k) * 10 + (if v 0 (s) = 1 then 0 else m)), .inl ((if v 0 (s) = 1 then m else 0)), .inl (0)]) (rest := []) (q := 0) dX4_left_27 rfl (Nat.le_of_ble_eq_true rfl) rfl rfl YX4_placeOf rfl rfl (Nat.le_of_ble_eq_true rfl) gX4_left_X4_placeOf (by decide) ⟨Nat.zero_le _, Nat.zero_le _⟩ rfl (t_X4_placeOf (v := v) ((s) * 1000 + (k) * 10 + (if v 0 (s) = 1 then 0 else m)) ((if v 0 (s) = 1 then m else 0)) (0) hS hT haz.1 haz.2 (by omega)) ?_
    have hpc := x_pl_c hT (s * 1000 + k * 10 + (if v 0 s = 1 then 0 else m)) (if v 0 s = 1 then m else 0) 0
    refine zs_istore (lv' := [some (.inr 0), some (.inl (s)), some (.inl (k)), some (.inl (m)), some (.inl (x_pl v ((s) * 1000 + (k) * 10 + (if v 0 (s) = 1 then 0 else m)) ((if v 0 (s) = 1 then m else 0)) (0) (x_L v) 0))]) dX4_left_30 (by decide) rfl ?_
    refine zs_iload dX4_left_32 rfl ?_
    refine zs_iconst (x := -1) dX4_left_34 (by decide) ?_
    refine zs_icmp_ne (tgt := 43) dX4_left_35 (by decide) (by omega) (by omega) (fun h35 => ?_) (fun h35 => ?_)
    · have hE := hpc.1.resolve_left h35
      refine zs_aload_n dX4_left_43 rfl ?_
      refine zs_iload dX4_left_44 rfl ?_
      refine zs_eV (As := [.inl (x_pl v ((s) * 1000 + (k) * 10 + (if v 0 (s) = 1 then 0 else m)) ((if v 0 (s) = 1 then m else 0)) (0) (x_L v) 0)]) (rest := []) (q := 0) dX4_left_46 rfl (Nat.le_of_ble_eq_true rfl) rfl rfl YX4_leftOf rfl rfl (Nat.le_of_ble_eq_true rfl) gX4_left_X4_leftOf (by decide) ⟨Nat.zero_le _, Nat.zero_le _⟩ rfl (t_X4_leftOf (v := v) (x_pl v ((s) * 1000 + (k) * 10 + (if v 0 (s) = 1 then 0 else m)) ((if v 0 (s) = 1 then m else 0)) (0) (x_L v) 0) hS hE) ?_
      refine zs_iret dX4_left_49 rfl ?_
      have h35 : ¬ x_ask v s k m 0 = -1 := h35
      exact ⟨by unfold x_leftR; rw [if_pos h7, if_neg h35]; rfl, rfl⟩
    · refine zs_ldc (x := -99999999) dX4_left_38 kX4_left_114 (by decide) ?_
      refine zs_goto (tgt := 49) dX4_left_40 (by decide) ?_
      refine zs_iret dX4_left_49 rfl ?_
      have h35 : x_ask v s k m 0 = -1 := h35
      exact ⟨by unfold x_leftR; rw [if_pos h7, if_pos h35], rfl⟩
  · refine zs_iconst (x := -1) dX4_left_10 (by decide) ?_
    refine zs_iret dX4_left_11 rfl ?_
    exact ⟨by unfold x_leftR; rw [if_neg h7], rfl⟩
set_option maxHeartbeats 4000000 in
set_option maxRecDepth 100000 in
theorem t_X4_place {v : zs_V} (hS : x_S v) (hT : x_T v) (s k m : Int) (hs : zn s) (hk : zn k) (hm : zn m) : zs_R mX4_place 0 0 shX (zs_X (x_placeR v s k m) v) v 0 [some (.inr 0), some (.inl (s)), some (.inl (k)), some (.inl (m)), none] [] := by
  refine zs_aload_n dX4_place_0 rfl ?_
  refine zs_iload_n dX4_place_1 rfl ?_
  refine zs_iload_n dX4_place_2 rfl ?_
  refine zs_iload_n dX4_place_3 rfl ?_
  refine zs_eV (As := [.inl (s), .inl (k), .inl (m)]) (rest := []) (q := 0) dX4_place_4 rfl (Nat.le_of_ble_eq_true rfl) rfl rfl YX4_isMemberOrIndexFor rfl rfl (Nat.le_of_ble_eq_true rfl) gX4_place_X4_isMemberOrIndexFor (by decide) ⟨Nat.zero_le _, Nat.zero_le _⟩ rfl (t_X4_isMemberOrIndexFor (v := v) hS (s) (k) (m) (by omega) (by omega) (by omega)) ?_
  refine zs_ifz_ne (tgt := 12) dX4_place_7 (by decide)  (fun h7 => ?_) (fun h7 => ?_)
  · have haz := x_ask_z hS h7 hm
    have hm2 := hS.2.1
    refine zs_aload_n dX4_place_12 rfl ?_
    refine zs_aload_n dX4_place_13 rfl ?_
    refine zs_iload_n dX4_place_14 rfl ?_
    refine zs_iload_n dX4_place_15 rfl ?_
    refine zs_iload_n dX4_place_16 rfl ?_
    refine zs_eV (As := [.inl (s), .inl (k), .inl (m)]) (rest := [.inr 0]) (q := 0) dX4_place_17 rfl (Nat.le_of_ble_eq_true rfl) rfl rfl YX4_slotFor rfl rfl (Nat.le_of_ble_eq_true rfl) gX4_place_X4_slotFor (by decide) ⟨Nat.zero_le _, Nat.zero_le _⟩ rfl (t_X4_slotFor (v := v) hS (s) (k) (m) (by omega)) ?_
    refine zs_aload_n dX4_place_20 rfl ?_
    refine zs_iload_n dX4_place_21 rfl ?_
    refine zs_iload_n dX4_place_22 rfl ?_
    refine zs_eV (As := [.inl (s), .inl (m)]) (rest := [.inl ((s) * 1000 + (k) * 10 + (if v 0 (s) = 1 then 0 else m)), .inr 0]) (q := 0) dX4_place_23 rfl (Nat.le_of_ble_eq_true rfl) rfl rfl YX4_indexFor rfl rfl (Nat.le_of_ble_eq_true rfl) gX4_place_X4_indexFor (by decide) ⟨Nat.zero_le _, Nat.zero_le _⟩ rfl (t_X4_indexFor (v := v) hS (s) (m) (by omega)) ?_
    refine zs_iconst (x := 1) dX4_place_26 (by decide) ?_
    refine zs_eV (As := [.inl ((s) * 1000 + (k) * 10 + (if v 0 (s) = 1 then 0 else m)), .inl ((if v 0 (s) = 1 then m else 0)), .inl (1)]) (rest := []) (q := 0) dX4_place_27 rfl (Nat.le_of_ble_eq_true rfl) rfl rfl YX4_placeOf rfl rfl (Nat.le_of_ble_eq_true rfl) gX4_place_X4_placeOf (by decide) ⟨Nat.zero_le _, Nat.zero_le _⟩ rfl (t_X4_placeOf (v := v) ((s) * 1000 + (k) * 10 + (if v 0 (s) = 1 then 0 else m)) ((if v 0 (s) = 1 then m else 0)) (1) hS hT haz.1 haz.2 (by omega)) ?_
    have hpc := x_pl_c hT (s * 1000 + k * 10 + (if v 0 s = 1 then 0 else m)) (if v 0 s = 1 then m else 0) 1
    refine zs_istore (lv' := [some (.inr 0), some (.inl (s)), some (.inl (k)), some (.inl (m)), some (.inl (x_pl v ((s) * 1000 + (k) * 10 + (if v 0 (s) = 1 then 0 else m)) ((if v 0 (s) = 1 then m else 0)) (1) (x_L v) 0))]) dX4_place_30 (by decide) rfl ?_
    refine zs_iload dX4_place_32 rfl ?_
    refine zs_iconst (x := -1) dX4_place_34 (by decide) ?_
    refine zs_icmp_ne (tgt := 43) dX4_place_35 (by decide) (by omega) (by omega) (fun h35 => ?_) (fun h35 => ?_)
    · have hE := hpc.1.resolve_left h35
      refine zs_iload dX4_place_43 rfl ?_
      refine zs_iret dX4_place_45 rfl ?_
      have h35 : ¬ x_ask v s k m 1 = -1 := h35
      exact ⟨by unfold x_placeR; rw [if_pos h7, if_neg h35]; rfl, rfl⟩
    · refine zs_ldc (x := -99999999) dX4_place_38 kX4_place_114 (by decide) ?_
      refine zs_goto (tgt := 45) dX4_place_40 (by decide) ?_
      refine zs_iret dX4_place_45 rfl ?_
      have h35 : x_ask v s k m 1 = -1 := h35
      exact ⟨by unfold x_placeR; rw [if_pos h7, if_pos h35], rfl⟩
  · refine zs_iconst (x := -1) dX4_place_10 (by decide) ?_
    refine zs_iret dX4_place_11 rfl ?_
    exact ⟨by unfold x_placeR; rw [if_neg h7], rfl⟩

noncomputable def x_tickR (v : zs_V) (n : Int) : Int := if 1 ≤ n ∧ n ≤ 100000 then (if v 4 0 + n ≤ 1000000000 then x_hs v (x_L v) - x_hs (zs_put v 4 0 (v 4 0 + n)) (x_L v) else -2) else -1
noncomputable def x_tickS (v : zs_V) (n : Int) : zs_V := if 1 ≤ n ∧ n ≤ 100000 then (if v 4 0 + n ≤ 1000000000 then zs_put v 4 0 (v 4 0 + n) else v) else v
noncomputable def x_wmR (v : zs_V) (t : Int) : Int := if 0 ≤ t ∧ t ≤ 1000000000 then (if v 4 1 ≤ t then x_hs v (x_L v) - x_hs (zs_put v 4 1 t) (x_L v) else -2) else -1
noncomputable def x_wmS (v : zs_V) (t : Int) : zs_V := if 0 ≤ t ∧ t ≤ 1000000000 then (if v 4 1 ≤ t then zs_put v 4 1 t else v) else v
set_option maxHeartbeats 4000000 in
set_option maxRecDepth 100000 in
theorem t_X4_tick {v : zs_V} (hS : x_S v) (hT : x_T v) (n : Int) (hn : zn n) : zs_R mX4_tick 0 0 shX (zs_X (x_tickR v n) (x_tickS v n)) v 0 [some (.inr 0), some (.inl (n)), none] [] := by
  refine zs_iload_n dX4_tick_0 rfl ?_
  refine zs_iconst (x := 1) dX4_tick_1 (by decide) ?_
  refine zs_icmp_lt (tgt := 11) dX4_tick_2 (by decide) (by omega) (by omega) (fun h2 => ?_) (fun h2 => ?_)
  · refine zs_iconst (x := -1) dX4_tick_11 (by decide) ?_
    refine zs_iret dX4_tick_12 rfl ?_
    have hc : ¬ (1 ≤ n ∧ n ≤ 100000) := by omega
    exact ⟨by unfold x_tickR; rw [if_neg hc], by unfold x_tickS; rw [if_neg hc]⟩
  · refine zs_iload_n dX4_tick_5 rfl ?_
    refine zs_ldc (x := 100000) dX4_tick_6 kX4_tick_118 (by decide) ?_
    refine zs_icmp_le (tgt := 13) dX4_tick_8 (by decide) (by omega) (by omega) (fun h8 => ?_) (fun h8 => ?_)
    · obtain ⟨-, -, -, g1, g2, g3, g4⟩ := id hS
      refine zs_aload_n dX4_tick_13 rfl ?_
      refine zs_getr (j := 0) dX4_tick_14 rfl rfl rfl (by decide) nX4_tick_X4 fX4_tick_12 ?_
      refine zs_getr (j := 4) dX4_tick_17 rfl rfl rfl (by decide) nX4_tick_X3 fX4_tick_119 ?_
      refine zs_iconst (x := 0) dX4_tick_20 (by decide) ?_
      refine zs_iaload dX4_tick_21 rfl (by decide) (by omega) (by omega) ?_
      refine zs_iload_n dX4_tick_22 rfl ?_
      refine zs_iadd dX4_tick_23 ?_
      refine zs_istore_n (lv' := [some (.inr 0), some (.inl (n)), some (.inl ((v 4 (0)) + (n)))]) dX4_tick_24 (by decide) rfl ?_
      refine zs_iload_n dX4_tick_25 rfl ?_
      refine zs_ldc (x := 1000000000) dX4_tick_26 kX4_tick_123 (by decide) ?_
      refine zs_icmp_le (tgt := 34) dX4_tick_28 (by decide) (by omega) (by omega) (fun h28 => ?_) (fun h28 => ?_)
      · refine zs_aload_n dX4_tick_34 rfl ?_
        refine zs_iconst (x := 0) dX4_tick_35 (by decide) ?_
        refine zs_iload_n dX4_tick_36 rfl ?_
        refine zs_eV (As := [.inl (0), .inl ((v 4 (0)) + (n))]) (rest := []) (q := 0) dX4_tick_37 rfl (Nat.le_of_ble_eq_true rfl) rfl rfl YX4_moveClock rfl rfl (Nat.le_of_ble_eq_true rfl) gX4_tick_X4_moveClock (by decide) ⟨Nat.zero_le _, Nat.zero_le _⟩ rfl (t_X4_moveClock (v := v) (0) ((v 4 (0)) + (n)) hS hT (by omega) (by omega)) ?_
        refine zs_iret dX4_tick_40 rfl ?_
        have hc : 1 ≤ n ∧ n ≤ 100000 := by omega
        exact ⟨by unfold x_tickR; rw [if_pos hc, if_pos h28], by unfold x_tickS; rw [if_pos hc, if_pos h28]⟩
      · refine zs_bipush (x := -2) dX4_tick_31 (by decide) ?_
        refine zs_iret dX4_tick_33 rfl ?_
        have hc : 1 ≤ n ∧ n ≤ 100000 := by omega
        exact ⟨by unfold x_tickR; rw [if_pos hc, if_neg h28], by unfold x_tickS; rw [if_pos hc, if_neg h28]⟩
    · refine zs_iconst (x := -1) dX4_tick_11 (by decide) ?_
      refine zs_iret dX4_tick_12 rfl ?_
      have hc : ¬ (1 ≤ n ∧ n ≤ 100000) := by omega
      exact ⟨by unfold x_tickR; rw [if_neg hc], by unfold x_tickS; rw [if_neg hc]⟩
set_option maxHeartbeats 4000000 in
set_option maxRecDepth 100000 in
theorem t_X4_watermark {v : zs_V} (hS : x_S v) (hT : x_T v) (t : Int) (ht : zn t) : zs_R mX4_watermark 0 0 shX (zs_X (x_wmR v t) (x_wmS v t)) v 0 [some (.inr 0), some (.inl (t))] [] := by
  refine zs_iload_n dX4_watermark_0 rfl ?_
  refine zs_if_lt (tgt := 10) dX4_watermark_1 (by decide) (by omega) (fun h1 => ?_) (fun h1 => ?_)
  · refine zs_iconst (x := -1) dX4_watermark_10 (by decide) ?_
    refine zs_iret dX4_watermark_11 rfl ?_
    have hc : ¬ (0 ≤ t ∧ t ≤ 1000000000) := by omega
    exact ⟨by unfold x_wmR; rw [if_neg hc], by unfold x_wmS; rw [if_neg hc]⟩
  · refine zs_iload_n dX4_watermark_4 rfl ?_
    refine zs_ldc (x := 1000000000) dX4_watermark_5 kX4_watermark_123 (by decide) ?_
    refine zs_icmp_le (tgt := 12) dX4_watermark_7 (by decide) (by omega) (by omega) (fun h7 => ?_) (fun h7 => ?_)
    · obtain ⟨-, -, -, g1, g2, g3, g4⟩ := id hS
      refine zs_aload_n dX4_watermark_12 rfl ?_
      refine zs_getr (j := 0) dX4_watermark_13 rfl rfl rfl (by decide) nX4_watermark_X4 fX4_watermark_12 ?_
      refine zs_getr (j := 4) dX4_watermark_16 rfl rfl rfl (by decide) nX4_watermark_X3 fX4_watermark_119 ?_
      refine zs_iconst (x := 1) dX4_watermark_19 (by decide) ?_
      refine zs_iaload dX4_watermark_20 rfl (by decide) (by omega) (by omega) ?_
      refine zs_iload_n dX4_watermark_21 rfl ?_
      refine zs_icmp_le (tgt := 28) dX4_watermark_22 (by decide) (by omega) (by omega) (fun h22 => ?_) (fun h22 => ?_)
      · refine zs_aload_n dX4_watermark_28 rfl ?_
        refine zs_iconst (x := 1) dX4_watermark_29 (by decide) ?_
        refine zs_iload_n dX4_watermark_30 rfl ?_
        refine zs_eV (As := [.inl (1), .inl (t)]) (rest := []) (q := 0) dX4_watermark_31 rfl (Nat.le_of_ble_eq_true rfl) rfl rfl YX4_moveClock rfl rfl (Nat.le_of_ble_eq_true rfl) gX4_watermark_X4_moveClock (by decide) ⟨Nat.zero_le _, Nat.zero_le _⟩ rfl (t_X4_moveClock (v := v) (1) (t) hS hT (by omega) (by omega)) ?_
        refine zs_iret dX4_watermark_34 rfl ?_
        have hc : 0 ≤ t ∧ t ≤ 1000000000 := by omega
        exact ⟨by unfold x_wmR; rw [if_pos hc, if_pos h22], by unfold x_wmS; rw [if_pos hc, if_pos h22]⟩
      · refine zs_bipush (x := -2) dX4_watermark_25 (by decide) ?_
        refine zs_iret dX4_watermark_27 rfl ?_
        have hc : 0 ≤ t ∧ t ≤ 1000000000 := by omega
        exact ⟨by unfold x_wmR; rw [if_pos hc, if_neg h22], by unfold x_wmS; rw [if_pos hc, if_neg h22]⟩
    · refine zs_iconst (x := -1) dX4_watermark_10 (by decide) ?_
      refine zs_iret dX4_watermark_11 rfl ?_
      have hc : ¬ (0 ≤ t ∧ t ≤ 1000000000) := by omega
      exact ⟨by unfold x_wmR; rw [if_neg hc], by unfold x_wmS; rw [if_neg hc]⟩

noncomputable def x_setR (v : zs_V) (s l : Int) : Int := if (0 ≤ s ∧ s < v 15 0) ∧ 1 ≤ l ∧ l ≤ 100000 then v 2 s else -1
noncomputable def x_setS (v : zs_V) (s l a : Int) : zs_V := if (0 ≤ s ∧ s < v 15 0) ∧ 1 ≤ l ∧ l ≤ 100000 then (if a = 0 then zs_put v 2 s l else x_sa s (x_L v) (zs_put v 2 s l)) else v
theorem x_set_S {v : zs_V} {s l : Int} (hS : x_S v) (hl : 1 ≤ l ∧ l ≤ 100000) : x_S (zs_put v 2 s l) := by
  obtain ⟨g1, g2, g3, g4⟩ := hS
  refine ⟨g1, g2, fun q h0 h1 => ?_, g4⟩
  obtain ⟨a, b, c, d, e⟩ := g3 q h0 h1
  refine ⟨a, b, ?_, ?_, e⟩ <;> rw [zs_put_e] <;> split <;> omega
set_option maxHeartbeats 4000000 in
set_option maxRecDepth 100000 in
theorem t_X4_setting {v : zs_V} (hS : x_S v) (hT : x_T v) (hU : x_U v) (s l a : Int) (hs : zn s) (hl : zn l) (ha : zn a) : zs_R mX4_setting 0 0 shX (zs_X (x_setR v s l) (x_setS v s l a)) v 0 [some (.inr 0), some (.inl (s)), some (.inl (l)), some (.inl (a)), none] [] := by
  have hm1 := hS.1
  have hm2 := hS.2.1
  refine zs_aload_n dX4_setting_0 rfl ?_
  refine zs_getr (j := 0) dX4_setting_1 rfl rfl rfl (by decide) nX4_setting_X4 fX4_setting_12 ?_
  refine zs_iload_n dX4_setting_4 rfl ?_
  refine zs_eV (As := [.inl (s)]) (rest := []) (q := 1) dX4_setting_5 rfl (Nat.le_of_ble_eq_true rfl) rfl rfl YX3_has rfl rfl (Nat.le_of_ble_eq_true rfl) gX4_setting_X3_has (by decide) ⟨Nat.zero_le _, Nat.zero_le _⟩ rfl (t_X3_has (v := v) (s) (by omega) (by omega)) ?_
  refine zs_ifz_eq (tgt := 18) dX4_setting_8 (by decide)  (fun h8 => ?_) (fun h8 => ?_)
  · refine zs_iconst (x := -1) dX4_setting_18 (by decide) ?_
    refine zs_iret dX4_setting_19 rfl ?_
    have hc : ¬ ((0 ≤ s ∧ s < v 15 0) ∧ 1 ≤ l ∧ l ≤ 100000) := by omega
    exact ⟨by unfold x_setR; rw [if_neg hc], by unfold x_setS; rw [if_neg hc]⟩
  · refine zs_iload_n dX4_setting_11 rfl ?_
    refine zs_eS (As := [.inl (l)]) (rest := []) dX4_setting_12 rfl (Nat.le_of_ble_eq_true rfl) YX4_isSpan rfl (Nat.le_of_ble_eq_true rfl) gX4_setting_X4_isSpan (by decide) ⟨Nat.zero_le _, Nat.zero_le _⟩ rfl (t_X4_isSpan (v := v) (l) (by omega)) ?_
    refine zs_ifz_ne (tgt := 20) dX4_setting_15 (by decide)  (fun h15 => ?_) (fun h15 => ?_)
    · have hx : s < 6 := by omega
      refine zs_aload_n dX4_setting_20 rfl ?_
      refine zs_getr (j := 0) dX4_setting_21 rfl rfl rfl (by decide) nX4_setting_X4 fX4_setting_12 ?_
      refine zs_getr (j := 2) dX4_setting_24 rfl rfl rfl (by decide) nX4_setting_X3 fX4_setting_130 ?_
      refine zs_iload_n dX4_setting_27 rfl ?_
      refine zs_iaload dX4_setting_28 rfl (by decide) (by omega) (by omega) ?_
      refine zs_istore (lv' := [some (.inr 0), some (.inl (s)), some (.inl (l)), some (.inl (a)), some (.inl (v 2 (s)))]) dX4_setting_29 (by decide) rfl ?_
      refine zs_aload_n dX4_setting_31 rfl ?_
      refine zs_getr (j := 0) dX4_setting_32 rfl rfl rfl (by decide) nX4_setting_X4 fX4_setting_12 ?_
      refine zs_getr (j := 2) dX4_setting_35 rfl rfl rfl (by decide) nX4_setting_X3 fX4_setting_130 ?_
      refine zs_iload_n dX4_setting_38 rfl ?_
      refine zs_iload_n dX4_setting_39 rfl ?_
      refine zs_iastore dX4_setting_40 rfl (by decide) (by decide) (by omega) (by omega) ?_
      refine zs_iload_n dX4_setting_41 rfl ?_
      refine zs_if_eq (tgt := 50) dX4_setting_42 (by decide) (by omega) (fun h42 => ?_) (fun h42 => ?_)
      · refine zs_iload dX4_setting_50 rfl ?_
        refine zs_iret dX4_setting_52 rfl ?_
        have hc : (0 ≤ s ∧ s < v 15 0) ∧ 1 ≤ l ∧ l ≤ 100000 := by omega
        exact ⟨by unfold x_setR; rw [if_pos hc], by unfold x_setS; rw [if_pos hc, if_pos h42]⟩
      · have hS : x_S (zs_put v 2 s l) := x_set_S hS (by omega)
        have hT : x_T (zs_put v 2 s l) := x_T_of rfl rfl rfl rfl rfl hT
        have hU : x_U (zs_put v 2 s l) := hU
        have e15 : (zs_put v 2 s l) 15 0 = v 15 0 := rfl
        refine zs_aload_n dX4_setting_45 rfl ?_
        refine zs_iload_n dX4_setting_46 rfl ?_
        refine zs_eVv (As := [.inl (s)]) (rest := []) (q := 0) dX4_setting_47 rfl (Nat.le_of_ble_eq_true rfl) rfl rfl YX4_spanShownAnew rfl rfl (Nat.le_of_ble_eq_true rfl) gX4_setting_X4_spanShownAnew (by decide) ⟨Nat.zero_le _, Nat.zero_le _⟩ rfl (t_X4_spanShownAnew (v := (zs_put v 2 (s) (l))) (s) hS hT hU (by omega)) ?_
        refine zs_iload dX4_setting_50 rfl ?_
        refine zs_iret dX4_setting_52 rfl ?_
        have hc : (0 ≤ s ∧ s < v 15 0) ∧ 1 ≤ l ∧ l ≤ 100000 := by omega
        exact ⟨by unfold x_setR; rw [if_pos hc], by unfold x_setS; rw [if_pos hc, if_neg h42]; rw [x_L_of (u := zs_put v 2 s l) (v := v) rfl rfl]⟩
    · refine zs_iconst (x := -1) dX4_setting_18 (by decide) ?_
      refine zs_iret dX4_setting_19 rfl ?_
      have hc : ¬ ((0 ≤ s ∧ s < v 15 0) ∧ 1 ≤ l ∧ l ≤ 100000) := by omega
      exact ⟨by unfold x_setR; rw [if_neg hc], by unfold x_setS; rw [if_neg hc]⟩

noncomputable def x_rowR (v : zs_V) (i c : Int) : Int := if (0 ≤ i ∧ i < v 18 0) ∧ 0 ≤ c ∧ c < 6 then v 10 (x_ri v i + c) else -99999999
set_option maxHeartbeats 4000000 in
set_option maxRecDepth 100000 in
theorem t_X4_row {v : zs_V} (i c : Int) (hi : zn i) (hc : zn c) (hF : 0 ≤ v 17 0 ∧ v 17 0 < 150) (hK : 0 ≤ v 18 0 ∧ v 18 0 ≤ 150) : zs_R mX4_row 0 0 shX (zs_X (x_rowR v i c) v) v 0 [some (.inr 0), some (.inl (i)), some (.inl (c))] [] := by
  refine zs_iload_n dX4_row_0 rfl ?_
  refine zs_if_lt (tgt := 25) dX4_row_1 (by decide) (by omega) (fun h1 => ?_) (fun h1 => ?_)
  · refine zs_ldc (x := -99999999) dX4_row_25 kX4_row_114 (by decide) ?_
    refine zs_iret dX4_row_27 rfl ?_
    exact ⟨by unfold x_rowR; rw [if_neg (by omega)], rfl⟩
  · refine zs_iload_n dX4_row_4 rfl ?_
    refine zs_aload_n dX4_row_5 rfl ?_
    refine zs_getr (j := 2) dX4_row_6 rfl rfl rfl (by decide) nX4_row_X4 fX4_row_26 ?_
    refine zs_geti (j := 2) dX4_row_9 rfl rfl rfl (by decide) nX4_row_X2 fX4_row_178 ?_
    refine zs_icmp_ge (tgt := 25) dX4_row_12 (by decide) (by omega) (by omega) (fun h12 => ?_) (fun h12 => ?_)
    · refine zs_ldc (x := -99999999) dX4_row_25 kX4_row_114 (by decide) ?_
      refine zs_iret dX4_row_27 rfl ?_
      exact ⟨by unfold x_rowR; rw [if_neg (by omega)], rfl⟩
    · refine zs_iload_n dX4_row_15 rfl ?_
      refine zs_if_lt (tgt := 25) dX4_row_16 (by decide) (by omega) (fun h16 => ?_) (fun h16 => ?_)
      · refine zs_ldc (x := -99999999) dX4_row_25 kX4_row_114 (by decide) ?_
        refine zs_iret dX4_row_27 rfl ?_
        exact ⟨by unfold x_rowR; rw [if_neg (by omega)], rfl⟩
      · refine zs_iload_n dX4_row_19 rfl ?_
        refine zs_bipush (x := 6) dX4_row_20 (by decide) ?_
        refine zs_icmp_lt (tgt := 28) dX4_row_22 (by decide) (by omega) (by omega) (fun h22 => ?_) (fun h22 => ?_)
        · refine zs_aload_n dX4_row_28 rfl ?_
          refine zs_getr (j := 2) dX4_row_29 rfl rfl rfl (by decide) nX4_row_X4 fX4_row_26 ?_
          refine zs_iload_n dX4_row_32 rfl ?_
          refine zs_iload_n dX4_row_33 rfl ?_
          refine zs_eV (As := [.inl (i), .inl (c)]) (rest := []) (q := 13) dX4_row_34 rfl (Nat.le_of_ble_eq_true rfl) rfl rfl YX2_cell rfl rfl (Nat.le_of_ble_eq_true rfl) gX4_row_X2_cell (by decide) ⟨Nat.zero_le _, Nat.zero_le _⟩ rfl (t_X2_cell (v := v) (i) (c) (by omega) (by omega) (by omega)) ?_
          refine zs_iret dX4_row_37 rfl ?_
          exact ⟨by unfold x_rowR; rw [if_pos (by omega)], rfl⟩
        · refine zs_ldc (x := -99999999) dX4_row_25 kX4_row_114 (by decide) ?_
          refine zs_iret dX4_row_27 rfl ?_
          exact ⟨by unfold x_rowR; rw [if_neg (by omega)], rfl⟩
set_option maxHeartbeats 4000000 in
set_option maxRecDepth 100000 in
theorem l_X4_next {v : zs_V} {s r0 : Int} (hS : x_S v) (hT : x_T v) (hs : zn s) : ∀ (n : Nat) (j l : Int) (x4 : Option zs_A), 0 ≤ j → j + n = v 16 0 → zn l → x_nx v s (x_seg v j n) l = r0 → zs_R mX4_next 0 0 shX (zs_X r0 v) v 18 [some (.inr 0), some (.inl (s)), some (.inl (l)), some (.inl (j)), x4] [] := by
  have hT1 := hT.2.1
  intro n
  induction n using Nat.strongRecOn with
  | ind n ih =>
    intro j l x4 h0 hn hl hr
    refine zs_iload_n dX4_next_18 rfl ?_
    refine zs_aload_n dX4_next_19 rfl ?_
    refine zs_getr (j := 1) dX4_next_20 rfl rfl rfl (by decide) nX4_next_X4 fX4_next_19 ?_
    refine zs_geti (j := 5) dX4_next_23 rfl rfl rfl (by decide) nX4_next_X1 fX4_next_142 ?_
    refine zs_icmp_ge (tgt := 99) dX4_next_26 (by decide) (by omega) (by omega) (fun h26 => ?_) (fun h26 => ?_)
    · refine zs_iload_n dX4_next_99 rfl ?_
      refine zs_iret dX4_next_100 rfl ?_
      obtain rfl : n = 0 := by omega
      exact ⟨hr, rfl⟩
    · obtain ⟨n', rfl⟩ : ∃ n', n = n' + 1 := ⟨n - 1, by omega⟩
      have hE := hT.2.2 j (by omega) (by omega)
      have hf := x_P_f hS hE.1
      have hE2 := hE.2
      refine zs_aload_n dX4_next_29 rfl ?_
      refine zs_getr (j := 1) dX4_next_30 rfl rfl rfl (by decide) nX4_next_X4 fX4_next_19 ?_
      refine zs_getr (j := 4) dX4_next_33 rfl rfl rfl (by decide) nX4_next_X1 fX4_next_145 ?_
      refine zs_iload_n dX4_next_36 rfl ?_
      refine zs_iaload dX4_next_37 rfl (by decide) (by omega) (by omega) ?_
      refine zs_istore (lv' := [some (.inr 0), some (.inl (s)), some (.inl (l)), some (.inl (j)), some (.inl (v 9 (j)))]) dX4_next_38 (by decide) rfl ?_
      refine zs_aload_n dX4_next_40 rfl ?_
      refine zs_getr (j := 1) dX4_next_41 rfl rfl rfl (by decide) nX4_next_X4 fX4_next_19 ?_
      refine zs_iload dX4_next_44 rfl ?_
      refine zs_eV (As := [.inl (v 9 (j))]) (rest := []) (q := 7) dX4_next_46 rfl (Nat.le_of_ble_eq_true rfl) rfl rfl YX1_stateAt rfl rfl (Nat.le_of_ble_eq_true rfl) gX4_next_X1_stateAt (by decide) ⟨Nat.zero_le _, Nat.zero_le _⟩ rfl (t_X1_stateAt (v := v) (v 9 (j)) (by omega) (by omega)) ?_
      refine zs_iload_n dX4_next_49 rfl ?_
      refine zs_icmp_ne (tgt := 93) dX4_next_50 (by decide) (by omega) (by omega) (fun h50 => ?_) (fun h50 => ?_)
      · refine zs_iinc (lv' := [some (.inr 0), some (.inl (s)), some (.inl (l)), some (.inl (j + 1)), some (.inl (v 9 (j)))]) dX4_next_93 rfl (by decide) rfl ?_
        refine zs_goto (tgt := 18) dX4_next_96 (by decide) ?_
        simp only [x_seg, x_nx] at hr
        rw [if_neg (fun q => h50 q.1)] at hr
        exact ih n' (by omega) (j + 1) (l) _ (by omega) (by omega) (by omega) hr
      · refine zs_aload_n dX4_next_53 rfl ?_
        refine zs_iload dX4_next_54 rfl ?_
        refine zs_eV (As := [.inl (v 9 (j))]) (rest := []) (q := 0) dX4_next_56 rfl (Nat.le_of_ble_eq_true rfl) rfl rfl YX4_isShown rfl rfl (Nat.le_of_ble_eq_true rfl) gX4_next_X4_isShown (by decide) ⟨Nat.zero_le _, Nat.zero_le _⟩ rfl (t_X4_isShown (v := v) (v 9 (j)) hS hE) ?_
        refine zs_ifz_eq (tgt := 93) dX4_next_59 (by decide)  (fun h59 => ?_) (fun h59 => ?_)
        · refine zs_iinc (lv' := [some (.inr 0), some (.inl (s)), some (.inl (l)), some (.inl (j + 1)), some (.inl (v 9 (j)))]) dX4_next_93 rfl (by decide) rfl ?_
          refine zs_goto (tgt := 18) dX4_next_96 (by decide) ?_
          simp only [x_seg, x_nx] at hr
          rw [if_neg (fun q => h59 q.2.1)] at hr
          exact ih n' (by omega) (j + 1) (l) _ (by omega) (by omega) (by omega) hr
        · refine zs_iload_n dX4_next_62 rfl ?_
          refine zs_ldc (x := -99999999) dX4_next_63 kX4_next_114 (by decide) ?_
          refine zs_icmp_eq (tgt := 82) dX4_next_65 (by decide) (by omega) (by omega) (fun h65 => ?_) (fun h65 => ?_)
          · refine zs_aload_n dX4_next_82 rfl ?_
            refine zs_getr (j := 1) dX4_next_83 rfl rfl rfl (by decide) nX4_next_X4 fX4_next_19 ?_
            refine zs_getr (j := 3) dX4_next_86 rfl rfl rfl (by decide) nX4_next_X1 fX4_next_187 ?_
            refine zs_iload dX4_next_89 rfl ?_
            refine zs_iaload dX4_next_91 rfl (by decide) (by omega) (by omega) ?_
            refine zs_istore_n (lv' := [some (.inr 0), some (.inl (s)), some (.inl (v 8 (v 9 (j)))), some (.inl (j)), some (.inl (v 9 (j)))]) dX4_next_92 (by decide) rfl ?_
            refine zs_iinc (lv' := [some (.inr 0), some (.inl (s)), some (.inl (v 8 (v 9 (j)))), some (.inl (j + 1)), some (.inl (v 9 (j)))]) dX4_next_93 rfl (by decide) rfl ?_
            refine zs_goto (tgt := 18) dX4_next_96 (by decide) ?_
            simp only [x_seg, x_nx] at hr
            rw [if_pos ⟨h50, h59, Or.inl h65⟩] at hr
            exact ih n' (by omega) (j + 1) (v 8 (v 9 j)) _ (by omega) (by omega) (by omega) hr
          · refine zs_aload_n dX4_next_68 rfl ?_
            refine zs_getr (j := 1) dX4_next_69 rfl rfl rfl (by decide) nX4_next_X4 fX4_next_19 ?_
            refine zs_getr (j := 3) dX4_next_72 rfl rfl rfl (by decide) nX4_next_X1 fX4_next_187 ?_
            refine zs_iload dX4_next_75 rfl ?_
            refine zs_iaload dX4_next_77 rfl (by decide) (by omega) (by omega) ?_
            refine zs_iload_n dX4_next_78 rfl ?_
            refine zs_icmp_ge (tgt := 93) dX4_next_79 (by decide) (by omega) (by omega) (fun h79 => ?_) (fun h79 => ?_)
            · refine zs_iinc (lv' := [some (.inr 0), some (.inl (s)), some (.inl (l)), some (.inl (j + 1)), some (.inl (v 9 (j)))]) dX4_next_93 rfl (by decide) rfl ?_
              refine zs_goto (tgt := 18) dX4_next_96 (by decide) ?_
              simp only [x_seg, x_nx] at hr
              rw [if_neg (fun q => q.2.2.elim h65 (by omega))] at hr
              exact ih n' (by omega) (j + 1) (l) _ (by omega) (by omega) (by omega) hr
            · refine zs_aload_n dX4_next_82 rfl ?_
              refine zs_getr (j := 1) dX4_next_83 rfl rfl rfl (by decide) nX4_next_X4 fX4_next_19 ?_
              refine zs_getr (j := 3) dX4_next_86 rfl rfl rfl (by decide) nX4_next_X1 fX4_next_187 ?_
              refine zs_iload dX4_next_89 rfl ?_
              refine zs_iaload dX4_next_91 rfl (by decide) (by omega) (by omega) ?_
              refine zs_istore_n (lv' := [some (.inr 0), some (.inl (s)), some (.inl (v 8 (v 9 (j)))), some (.inl (j)), some (.inl (v 9 (j)))]) dX4_next_92 (by decide) rfl ?_
              refine zs_iinc (lv' := [some (.inr 0), some (.inl (s)), some (.inl (v 8 (v 9 (j)))), some (.inl (j + 1)), some (.inl (v 9 (j)))]) dX4_next_93 rfl (by decide) rfl ?_
              refine zs_goto (tgt := 18) dX4_next_96 (by decide) ?_
              simp only [x_seg, x_nx] at hr
              rw [if_pos ⟨h50, h59, Or.inr (by omega)⟩] at hr
              exact ih n' (by omega) (j + 1) (v 8 (v 9 j)) _ (by omega) (by omega) (by omega) hr

noncomputable def x_nextR (v : zs_V) (s : Int) : Int := if 0 ≤ s ∧ s < v 15 0 then x_nx v s (x_L v) (-99999999) else -1
set_option maxHeartbeats 4000000 in
set_option maxRecDepth 100000 in
theorem t_X4_next {v : zs_V} (hS : x_S v) (hT : x_T v) (s : Int) (hs : zn s) : zs_R mX4_next 0 0 shX (zs_X (x_nextR v s) v) v 0 [some (.inr 0), some (.inl (s)), none, none, none] [] := by
  have hm1 := hS.1
  have hm2 := hS.2.1
  refine zs_aload_n dX4_next_0 rfl ?_
  refine zs_getr (j := 0) dX4_next_1 rfl rfl rfl (by decide) nX4_next_X4 fX4_next_12 ?_
  refine zs_iload_n dX4_next_4 rfl ?_
  refine zs_eV (As := [.inl (s)]) (rest := []) (q := 1) dX4_next_5 rfl (Nat.le_of_ble_eq_true rfl) rfl rfl YX3_has rfl rfl (Nat.le_of_ble_eq_true rfl) gX4_next_X3_has (by decide) ⟨Nat.zero_le _, Nat.zero_le _⟩ rfl (t_X3_has (v := v) (s) (by omega) (by omega)) ?_
  refine zs_ifz_ne (tgt := 13) dX4_next_8 (by decide)  (fun h8 => ?_) (fun h8 => ?_)
  · refine zs_ldc (x := -99999999) dX4_next_13 kX4_next_114 (by decide) ?_
    refine zs_istore_n (lv' := [some (.inr 0), some (.inl (s)), some (.inl (-99999999)), none, none]) dX4_next_15 (by decide) rfl ?_
    refine zs_iconst (x := 0) dX4_next_16 (by decide) ?_
    refine zs_istore_n (lv' := [some (.inr 0), some (.inl (s)), some (.inl (-99999999)), some (.inl (0)), none]) dX4_next_17 (by decide) rfl ?_
    exact l_X4_next hS hT hs (v 16 0).toNat 0 (-99999999) _ (by omega) (by have := hT.1; omega) (by omega) (by unfold x_nextR; rw [if_pos h8]; rfl)
  · refine zs_iconst (x := -1) dX4_next_11 (by decide) ?_
    refine zs_iret dX4_next_12 rfl ?_
    exact ⟨by unfold x_nextR; rw [if_neg h8], rfl⟩

noncomputable def x_countR (v : zs_V) (c : Int) : Int := if c = 0 then v 15 0 else if c = 1 then v 16 0 else if c = 2 then x_hs v (x_L v) else if c = 3 then v 18 0 else if c = 4 then v 19 0 else if c = 5 then v 4 0 else if c = 6 then v 4 1 else if c = 7 then v 20 0 else -1
set_option maxHeartbeats 4000000 in
set_option maxRecDepth 100000 in
theorem t_X4_count {v : zs_V} (hS : x_S v) (hT : x_T v) (c : Int) (hc : zn c) : zs_R mX4_count 0 0 shX (zs_X (x_countR v c) v) v 0 [some (.inr 0), some (.inl (c))] [] := by
  refine zs_iload_n dX4_count_0 rfl ?_
  by_cases h1 : c < 0 ∨ 7 < c
  · refine zs_swOut (tgt := 110) dX4_count_1 (by omega) h1 (by decide) ?_
    refine zs_iconst (x := -1) dX4_count_110 (by decide) ?_
    refine zs_iret dX4_count_111 rfl ?_
    exact ⟨by unfold x_countR; simp only [show ¬ c = 0 by omega, show ¬ c = 1 by omega, show ¬ c = 2 by omega, show ¬ c = 3 by omega, show ¬ c = 4 by omega, show ¬ c = 5 by omega, show ¬ c = 6 by omega, show ¬ c = 7 by omega, if_false], rfl⟩
  · rcases (show c = 0 ∨ c = 1 ∨ c = 2 ∨ c = 3 ∨ c = 4 ∨ c = 5 ∨ c = 6 ∨ c = 7 by omega) with h1 | h1 | h1 | h1 | h1 | h1 | h1 | h1
    · refine zs_swIn (tgt := 48) dX4_count_1 (by omega) (by omega) (by omega) (by rw [h1]; rfl) (by decide) ?_
      refine zs_aload_n dX4_count_48 rfl ?_
      refine zs_getr (j := 0) dX4_count_49 rfl rfl rfl (by decide) nX4_count_X4 fX4_count_12 ?_
      refine zs_geti (j := 5) dX4_count_52 rfl rfl rfl (by decide) nX4_count_X3 fX4_count_48 ?_
      refine zs_iret dX4_count_55 rfl ?_
      exact ⟨by unfold x_countR; simp [h1], rfl⟩
    · refine zs_swIn (tgt := 56) dX4_count_1 (by omega) (by omega) (by omega) (by rw [h1]; rfl) (by decide) ?_
      refine zs_aload_n dX4_count_56 rfl ?_
      refine zs_getr (j := 1) dX4_count_57 rfl rfl rfl (by decide) nX4_count_X4 fX4_count_19 ?_
      refine zs_geti (j := 5) dX4_count_60 rfl rfl rfl (by decide) nX4_count_X1 fX4_count_142 ?_
      refine zs_iret dX4_count_63 rfl ?_
      exact ⟨by unfold x_countR; simp [h1], rfl⟩
    · refine zs_swIn (tgt := 64) dX4_count_1 (by omega) (by omega) (by omega) (by rw [h1]; rfl) (by decide) ?_
      refine zs_aload_n dX4_count_64 rfl ?_
      refine zs_eV (As := []) (rest := []) (q := 0) dX4_count_65 rfl (Nat.le_of_ble_eq_true rfl) rfl rfl YX4_howManyShown rfl rfl (Nat.le_of_ble_eq_true rfl) gX4_count_X4_howManyShown (by decide) ⟨Nat.zero_le _, Nat.zero_le _⟩ rfl (t_X4_howManyShown (v := v) hS hT) ?_
      refine zs_iret dX4_count_68 rfl ?_
      exact ⟨by unfold x_countR; simp [h1], rfl⟩
    · refine zs_swIn (tgt := 69) dX4_count_1 (by omega) (by omega) (by omega) (by rw [h1]; rfl) (by decide) ?_
      refine zs_aload_n dX4_count_69 rfl ?_
      refine zs_getr (j := 2) dX4_count_70 rfl rfl rfl (by decide) nX4_count_X4 fX4_count_26 ?_
      refine zs_geti (j := 2) dX4_count_73 rfl rfl rfl (by decide) nX4_count_X2 fX4_count_178 ?_
      refine zs_iret dX4_count_76 rfl ?_
      exact ⟨by unfold x_countR; simp [h1], rfl⟩
    · refine zs_swIn (tgt := 77) dX4_count_1 (by omega) (by omega) (by omega) (by rw [h1]; rfl) (by decide) ?_
      refine zs_aload_n dX4_count_77 rfl ?_
      refine zs_getr (j := 2) dX4_count_78 rfl rfl rfl (by decide) nX4_count_X4 fX4_count_26 ?_
      refine zs_geti (j := 3) dX4_count_81 rfl rfl rfl (by decide) nX4_count_X2 fX4_count_194 ?_
      refine zs_iret dX4_count_84 rfl ?_
      exact ⟨by unfold x_countR; simp [h1], rfl⟩
    · refine zs_swIn (tgt := 85) dX4_count_1 (by omega) (by omega) (by omega) (by rw [h1]; rfl) (by decide) ?_
      refine zs_aload_n dX4_count_85 rfl ?_
      refine zs_getr (j := 0) dX4_count_86 rfl rfl rfl (by decide) nX4_count_X4 fX4_count_12 ?_
      refine zs_getr (j := 4) dX4_count_89 rfl rfl rfl (by decide) nX4_count_X3 fX4_count_119 ?_
      refine zs_iconst (x := 0) dX4_count_92 (by decide) ?_
      refine zs_iaload dX4_count_93 rfl (by decide) (by omega) (by omega) ?_
      refine zs_iret dX4_count_94 rfl ?_
      exact ⟨by unfold x_countR; simp [h1], rfl⟩
    · refine zs_swIn (tgt := 95) dX4_count_1 (by omega) (by omega) (by omega) (by rw [h1]; rfl) (by decide) ?_
      refine zs_aload_n dX4_count_95 rfl ?_
      refine zs_getr (j := 0) dX4_count_96 rfl rfl rfl (by decide) nX4_count_X4 fX4_count_12 ?_
      refine zs_getr (j := 4) dX4_count_99 rfl rfl rfl (by decide) nX4_count_X3 fX4_count_119 ?_
      refine zs_iconst (x := 1) dX4_count_102 (by decide) ?_
      refine zs_iaload dX4_count_103 rfl (by decide) (by omega) (by omega) ?_
      refine zs_iret dX4_count_104 rfl ?_
      exact ⟨by unfold x_countR; simp [h1], rfl⟩
    · refine zs_swIn (tgt := 105) dX4_count_1 (by omega) (by omega) (by omega) (by rw [h1]; rfl) (by decide) ?_
      refine zs_aload_n dX4_count_105 rfl ?_
      refine zs_geti (j := 4) dX4_count_106 rfl rfl rfl (by decide) nX4_count_X4 fX4_count_37 ?_
      refine zs_iret dX4_count_109 rfl ?_
      exact ⟨by unfold x_countR; simp [h1], rfl⟩
