set_option maxHeartbeats 4000000 in
set_option maxRecDepth 100000 in
theorem l_X4_placeOf {v : zs_V} {slot i over r0 : Int} (hS : x_S v) (hT : x_T v) (hsl : zn slot) (hi : zn i) (hov : zn over) : ∀ (n : Nat) (j b : Int) (x6 : Option zs_A), 0 ≤ j → j + n = v 16 0 → 0 ≤ b → b ≤ j → x_pl v slot i over (x_seg v j n) b = r0 → zs_R mX4_placeOf 0 0 shX (zs_X r0 v) v 6 [some (.inr 0), some (.inl (slot)), some (.inl (i)), some (.inl (over)), some (.inl (b)), some (.inl (j)), x6] [] := by
  have hT1 := hT.2.1
  intro n
  induction n using Nat.strongRecOn with
  | ind n ih =>
    intro j b x6 h0 hn hb hbj hr
    refine zs_iload dX4_placeOf_6 rfl ?_
    refine zs_aload_n dX4_placeOf_8 rfl ?_
    refine zs_getr (j := 1) dX4_placeOf_9 rfl rfl rfl (by decide) nX4_placeOf_X4 fX4_placeOf_19 ?_
    refine zs_geti (j := 5) dX4_placeOf_12 rfl rfl rfl (by decide) nX4_placeOf_X1 fX4_placeOf_142 ?_
    refine zs_icmp_ge (tgt := 75) dX4_placeOf_15 (by decide) (by omega) (by omega) (fun h15 => ?_) (fun h15 => ?_)
    · refine zs_iconst (x := -1) dX4_placeOf_75 (by decide) ?_
      refine zs_iret dX4_placeOf_76 rfl ?_
      obtain rfl : n = 0 := by omega
      exact ⟨hr, rfl⟩
    · obtain ⟨n', rfl⟩ : ∃ n', n = n' + 1 := ⟨n - 1, by omega⟩
      have hE := hT.2.2 j (by omega) (by omega)
      have hf := x_P_f hS hE.1
      refine zs_aload_n dX4_placeOf_18 rfl ?_
      refine zs_getr (j := 1) dX4_placeOf_19 rfl rfl rfl (by decide) nX4_placeOf_X4 fX4_placeOf_19 ?_
      refine zs_getr (j := 4) dX4_placeOf_22 rfl rfl rfl (by decide) nX4_placeOf_X1 fX4_placeOf_145 ?_
      refine zs_iload dX4_placeOf_25 rfl ?_
      refine zs_iaload dX4_placeOf_27 rfl (by decide) (by omega) (by omega) ?_
      refine zs_istore (lv' := [some (.inr 0), some (.inl (slot)), some (.inl (i)), some (.inl (over)), some (.inl (b)), some (.inl (j)), some (.inl (v 9 (j)))]) dX4_placeOf_28 (by decide) rfl ?_
      refine zs_aload_n dX4_placeOf_30 rfl ?_
      refine zs_getr (j := 1) dX4_placeOf_31 rfl rfl rfl (by decide) nX4_placeOf_X4 fX4_placeOf_19 ?_
      refine zs_getr (j := 0) dX4_placeOf_34 rfl rfl rfl (by decide) nX4_placeOf_X1 fX4_placeOf_148 ?_
      refine zs_iload dX4_placeOf_37 rfl ?_
      refine zs_iaload dX4_placeOf_39 rfl (by decide) (by omega) (by omega) ?_
      refine zs_iload_n dX4_placeOf_40 rfl ?_
      refine zs_icmp_ne (tgt := 69) dX4_placeOf_41 (by decide) (by omega) (by omega) (fun h41 => ?_) (fun h41 => ?_)
      · refine zs_iinc (lv' := [some (.inr 0), some (.inl (slot)), some (.inl (i)), some (.inl (over)), some (.inl (b)), some (.inl (j + 1)), some (.inl (v 9 (j)))]) dX4_placeOf_69 rfl (by decide) rfl ?_
        refine zs_goto (tgt := 6) dX4_placeOf_72 (by decide) ?_
        simp only [x_seg, x_pl] at hr
        rw [if_neg (fun q => h41 q.1)] at hr
        exact ih n' (by omega) (j + 1) (b) _ (by omega) (by omega) (by omega) (by omega) hr
      · refine zs_iload_n dX4_placeOf_44 rfl ?_
        refine zs_if_ne (tgt := 57) dX4_placeOf_45 (by decide) (by omega) (fun h45 => ?_) (fun h45 => ?_)
        · refine zs_iload dX4_placeOf_57 rfl ?_
          refine zs_iload_n dX4_placeOf_59 rfl ?_
          refine zs_icmp_ne (tgt := 66) dX4_placeOf_60 (by decide) (by omega) (by omega) (fun h60 => ?_) (fun h60 => ?_)
          · refine zs_iinc (lv' := [some (.inr 0), some (.inl (slot)), some (.inl (i)), some (.inl (over)), some (.inl (b + 1)), some (.inl (j)), some (.inl (v 9 (j)))]) dX4_placeOf_66 rfl (by decide) rfl ?_
            refine zs_iinc (lv' := [some (.inr 0), some (.inl (slot)), some (.inl (i)), some (.inl (over)), some (.inl (b + 1)), some (.inl (j + 1)), some (.inl (v 9 (j)))]) dX4_placeOf_69 rfl (by decide) rfl ?_
            refine zs_goto (tgt := 6) dX4_placeOf_72 (by decide) ?_
            simp only [x_seg, x_pl] at hr
            rw [if_pos ⟨h41, Or.inl h45⟩, if_neg h60] at hr
            exact ih n' (by omega) (j + 1) (b + 1) _ (by omega) (by omega) (by omega) (by omega) hr
          · refine zs_iload dX4_placeOf_63 rfl ?_
            refine zs_iret dX4_placeOf_65 rfl ?_
            simp only [x_seg, x_pl] at hr
            rw [if_pos ⟨h41, Or.inl h45⟩, if_pos h60] at hr
            exact ⟨hr, rfl⟩
        · refine zs_aload_n dX4_placeOf_48 rfl ?_
          refine zs_iload dX4_placeOf_49 rfl ?_
          refine zs_eV (As := [.inl (v 9 (j))]) (rest := []) (q := 0) dX4_placeOf_51 rfl (Nat.le_of_ble_eq_true rfl) rfl rfl YX4_isShown rfl rfl (Nat.le_of_ble_eq_true rfl) gX4_placeOf_X4_isShown (by decide) ⟨Nat.zero_le _, Nat.zero_le _⟩ rfl (t_X4_isShown (v := v) (v 9 (j)) hS hE) ?_
          refine zs_ifz_eq (tgt := 69) dX4_placeOf_54 (by decide)  (fun h54 => ?_) (fun h54 => ?_)
          · refine zs_iinc (lv' := [some (.inr 0), some (.inl (slot)), some (.inl (i)), some (.inl (over)), some (.inl (b)), some (.inl (j + 1)), some (.inl (v 9 (j)))]) dX4_placeOf_69 rfl (by decide) rfl ?_
            refine zs_goto (tgt := 6) dX4_placeOf_72 (by decide) ?_
            simp only [x_seg, x_pl] at hr
            rw [if_neg (fun q => q.2.elim (fun z => z h45) h54)] at hr
            exact ih n' (by omega) (j + 1) (b) _ (by omega) (by omega) (by omega) (by omega) hr
          · refine zs_iload dX4_placeOf_57 rfl ?_
            refine zs_iload_n dX4_placeOf_59 rfl ?_
            refine zs_icmp_ne (tgt := 66) dX4_placeOf_60 (by decide) (by omega) (by omega) (fun h60 => ?_) (fun h60 => ?_)
            · refine zs_iinc (lv' := [some (.inr 0), some (.inl (slot)), some (.inl (i)), some (.inl (over)), some (.inl (b + 1)), some (.inl (j)), some (.inl (v 9 (j)))]) dX4_placeOf_66 rfl (by decide) rfl ?_
              refine zs_iinc (lv' := [some (.inr 0), some (.inl (slot)), some (.inl (i)), some (.inl (over)), some (.inl (b + 1)), some (.inl (j + 1)), some (.inl (v 9 (j)))]) dX4_placeOf_69 rfl (by decide) rfl ?_
              refine zs_goto (tgt := 6) dX4_placeOf_72 (by decide) ?_
              simp only [x_seg, x_pl] at hr
              rw [if_pos ⟨h41, Or.inr h54⟩, if_neg h60] at hr
              exact ih n' (by omega) (j + 1) (b + 1) _ (by omega) (by omega) (by omega) (by omega) hr
            · refine zs_iload dX4_placeOf_63 rfl ?_
              refine zs_iret dX4_placeOf_65 rfl ?_
              simp only [x_seg, x_pl] at hr
              rw [if_pos ⟨h41, Or.inr h54⟩, if_pos h60] at hr
              exact ⟨hr, rfl⟩
set_option maxHeartbeats 4000000 in
set_option maxRecDepth 100000 in
theorem t_X4_placeOf {v : zs_V} (slot i over : Int) (hS : x_S v) (hT : x_T v) (hsl : zn slot) (hi : zn i) (hov : zn over) : zs_R mX4_placeOf 0 0 shX (zs_X (x_pl v slot i over (x_L v) 0) v) v 0 [some (.inr 0), some (.inl (slot)), some (.inl (i)), some (.inl (over)), none, none, none] [] := by
  refine zs_iconst (x := 0) dX4_placeOf_0 (by decide) ?_
  refine zs_istore (lv' := [some (.inr 0), some (.inl (slot)), some (.inl (i)), some (.inl (over)), some (.inl (0)), none, none]) dX4_placeOf_1 (by decide) rfl ?_
  refine zs_iconst (x := 0) dX4_placeOf_3 (by decide) ?_
  refine zs_istore (lv' := [some (.inr 0), some (.inl (slot)), some (.inl (i)), some (.inl (over)), some (.inl (0)), some (.inl (0)), none]) dX4_placeOf_4 (by decide) rfl ?_
  exact l_X4_placeOf hS hT hsl hi hov (v 16 0).toNat 0 0 _ (by omega) (by have := hT.1; omega) (by omega) (by omega) rfl
set_option maxHeartbeats 4000000 in
set_option maxRecDepth 100000 in
theorem l_X4_howMany {v : zs_V} {s k b r0 : Int} (hS : x_S v) (hT : x_T v) (hs : zn s) (hk : zn k) (hb : zn b) : ∀ (n : Nat) (j c : Int) (x6 : Option zs_A), 0 ≤ j → j + n = v 16 0 → c + x_hm v s k b (x_seg v j n) = r0 → zs_R mX4_howMany 0 0 shX (zs_X r0 v) v 6 [some (.inr 0), some (.inl (s)), some (.inl (k)), some (.inl (b)), some (.inl (c)), some (.inl (j)), x6] [] := by
  have hT1 := hT.2.1
  intro n
  induction n using Nat.strongRecOn with
  | ind n ih =>
    intro j c x6 h0 hn hr
    refine zs_iload dX4_howMany_6 rfl ?_
    refine zs_aload_n dX4_howMany_8 rfl ?_
    refine zs_getr (j := 1) dX4_howMany_9 rfl rfl rfl (by decide) nX4_howMany_X4 fX4_howMany_19 ?_
    refine zs_geti (j := 5) dX4_howMany_12 rfl rfl rfl (by decide) nX4_howMany_X1 fX4_howMany_142 ?_
    refine zs_icmp_ge (tgt := 60) dX4_howMany_15 (by decide) (by omega) (by omega) (fun h15 => ?_) (fun h15 => ?_)
    · refine zs_iload dX4_howMany_60 rfl ?_
      refine zs_iret dX4_howMany_62 rfl ?_
      obtain rfl : n = 0 := by omega
      simp only [x_seg, x_hm] at hr
      exact ⟨by omega, rfl⟩
    · obtain ⟨n', rfl⟩ : ∃ n', n = n' + 1 := ⟨n - 1, by omega⟩
      have hE := hT.2.2 j (by omega) (by omega)
      have hf := x_P_f hS hE.1
      refine zs_aload_n dX4_howMany_18 rfl ?_
      refine zs_getr (j := 1) dX4_howMany_19 rfl rfl rfl (by decide) nX4_howMany_X4 fX4_howMany_19 ?_
      refine zs_getr (j := 4) dX4_howMany_22 rfl rfl rfl (by decide) nX4_howMany_X1 fX4_howMany_145 ?_
      refine zs_iload dX4_howMany_25 rfl ?_
      refine zs_iaload dX4_howMany_27 rfl (by decide) (by omega) (by omega) ?_
      refine zs_istore (lv' := [some (.inr 0), some (.inl (s)), some (.inl (k)), some (.inl (b)), some (.inl (c)), some (.inl (j)), some (.inl (v 9 (j)))]) dX4_howMany_28 (by decide) rfl ?_
      refine zs_aload_n dX4_howMany_30 rfl ?_
      refine zs_iload dX4_howMany_31 rfl ?_
      refine zs_iload_n dX4_howMany_33 rfl ?_
      refine zs_iload_n dX4_howMany_34 rfl ?_
      refine zs_eV (As := [.inl (v 9 (j)), .inl (s), .inl (k)]) (rest := []) (q := 0) dX4_howMany_35 rfl (Nat.le_of_ble_eq_true rfl) rfl rfl YX4_isOfKey rfl rfl (Nat.le_of_ble_eq_true rfl) gX4_howMany_X4_isOfKey (by decide) ⟨Nat.zero_le _, Nat.zero_le _⟩ rfl (t_X4_isOfKey (v := v) (v 9 (j)) (s) (k) (by omega) (by omega) (by omega) (by omega)) ?_
      refine zs_ifz_eq (tgt := 54) dX4_howMany_38 (by decide)  (fun h38 => ?_) (fun h38 => ?_)
      · refine zs_iinc (lv' := [some (.inr 0), some (.inl (s)), some (.inl (k)), some (.inl (b)), some (.inl (c)), some (.inl (j + 1)), some (.inl (v 9 (j)))]) dX4_howMany_54 rfl (by decide) rfl ?_
        refine zs_goto (tgt := 6) dX4_howMany_57 (by decide) ?_
        simp only [x_seg, x_hm] at hr
        rw [if_neg (fun q => h38 q.1)] at hr
        exact ih n' (by omega) (j + 1) (c) _ (by omega) (by omega) (by omega)
      · refine zs_aload_n dX4_howMany_41 rfl ?_
        refine zs_iload dX4_howMany_42 rfl ?_
        refine zs_eV (As := [.inl (v 9 (j))]) (rest := []) (q := 0) dX4_howMany_44 rfl (Nat.le_of_ble_eq_true rfl) rfl rfl YX4_isShown rfl rfl (Nat.le_of_ble_eq_true rfl) gX4_howMany_X4_isShown (by decide) ⟨Nat.zero_le _, Nat.zero_le _⟩ rfl (t_X4_isShown (v := v) (v 9 (j)) hS hE) ?_
        refine zs_iload_n dX4_howMany_47 rfl ?_
        refine zs_icmp_ne (tgt := 54) dX4_howMany_48 (by decide) (zb_zn _) (by omega) (fun h48 => ?_) (fun h48 => ?_)
        · refine zs_iinc (lv' := [some (.inr 0), some (.inl (s)), some (.inl (k)), some (.inl (b)), some (.inl (c)), some (.inl (j + 1)), some (.inl (v 9 (j)))]) dX4_howMany_54 rfl (by decide) rfl ?_
          refine zs_goto (tgt := 6) dX4_howMany_57 (by decide) ?_
          simp only [x_seg, x_hm] at hr
          rw [if_neg (fun q => h48 q.2)] at hr
          exact ih n' (by omega) (j + 1) (c) _ (by omega) (by omega) (by omega)
        · refine zs_iinc (lv' := [some (.inr 0), some (.inl (s)), some (.inl (k)), some (.inl (b)), some (.inl (c + 1)), some (.inl (j)), some (.inl (v 9 (j)))]) dX4_howMany_51 rfl (by decide) rfl ?_
          refine zs_iinc (lv' := [some (.inr 0), some (.inl (s)), some (.inl (k)), some (.inl (b)), some (.inl (c + 1)), some (.inl (j + 1)), some (.inl (v 9 (j)))]) dX4_howMany_54 rfl (by decide) rfl ?_
          refine zs_goto (tgt := 6) dX4_howMany_57 (by decide) ?_
          simp only [x_seg, x_hm] at hr
          rw [if_pos ⟨h38, h48⟩] at hr
          exact ih n' (by omega) (j + 1) (c + 1) _ (by omega) (by omega) (by omega)
set_option maxHeartbeats 4000000 in
set_option maxRecDepth 100000 in
theorem t_X4_howMany {v : zs_V} (s k b : Int) (hS : x_S v) (hT : x_T v) (hs : zn s) (hk : zn k) (hb : zn b) : zs_R mX4_howMany 0 0 shX (zs_X (x_hm v s k b (x_L v)) v) v 0 [some (.inr 0), some (.inl (s)), some (.inl (k)), some (.inl (b)), none, none, none] [] := by
  refine zs_iconst (x := 0) dX4_howMany_0 (by decide) ?_
  refine zs_istore (lv' := [some (.inr 0), some (.inl (s)), some (.inl (k)), some (.inl (b)), some (.inl (0)), none, none]) dX4_howMany_1 (by decide) rfl ?_
  refine zs_iconst (x := 0) dX4_howMany_3 (by decide) ?_
  refine zs_istore (lv' := [some (.inr 0), some (.inl (s)), some (.inl (k)), some (.inl (b)), some (.inl (0)), some (.inl (0)), none]) dX4_howMany_4 (by decide) rfl ?_
  exact l_X4_howMany hS hT hs hk hb (v 16 0).toNat 0 0 _ (by omega) (by have := hT.1; omega) (by unfold x_L; omega)
set_option maxHeartbeats 4000000 in
set_option maxRecDepth 100000 in
theorem l_X4_howManyShown {v : zs_V} {r0 : Int} (hS : x_S v) (hT : x_T v) : ∀ (n : Nat) (j c : Int), 0 ≤ j → j + n = v 16 0 → c + x_hs v (x_seg v j n) = r0 → zs_R mX4_howManyShown 0 0 shX (zs_X r0 v) v 4 [some (.inr 0), some (.inl (c)), some (.inl (j))] [] := by
  have hT1 := hT.2.1
  intro n
  induction n using Nat.strongRecOn with
  | ind n ih =>
    intro j c h0 hn hr
    refine zs_iload_n dX4_howManyShown_4 rfl ?_
    refine zs_aload_n dX4_howManyShown_5 rfl ?_
    refine zs_getr (j := 1) dX4_howManyShown_6 rfl rfl rfl (by decide) nX4_howManyShown_X4 fX4_howManyShown_19 ?_
    refine zs_geti (j := 5) dX4_howManyShown_9 rfl rfl rfl (by decide) nX4_howManyShown_X1 fX4_howManyShown_142 ?_
    refine zs_icmp_ge (tgt := 40) dX4_howManyShown_12 (by decide) (by omega) (by omega) (fun h12 => ?_) (fun h12 => ?_)
    · refine zs_iload_n dX4_howManyShown_40 rfl ?_
      refine zs_iret dX4_howManyShown_41 rfl ?_
      obtain rfl : n = 0 := by omega
      simp only [x_seg, x_hs] at hr
      exact ⟨by omega, rfl⟩
    · obtain ⟨n', rfl⟩ : ∃ n', n = n' + 1 := ⟨n - 1, by omega⟩
      have hE := hT.2.2 j (by omega) (by omega)
      have hf := x_P_f hS hE.1
      refine zs_aload_n dX4_howManyShown_15 rfl ?_
      refine zs_aload_n dX4_howManyShown_16 rfl ?_
      refine zs_getr (j := 1) dX4_howManyShown_17 rfl rfl rfl (by decide) nX4_howManyShown_X4 fX4_howManyShown_19 ?_
      refine zs_getr (j := 4) dX4_howManyShown_20 rfl rfl rfl (by decide) nX4_howManyShown_X1 fX4_howManyShown_145 ?_
      refine zs_iload_n dX4_howManyShown_23 rfl ?_
      refine zs_iaload dX4_howManyShown_24 rfl (by decide) (by omega) (by omega) ?_
      refine zs_eV (As := [.inl (v 9 (j))]) (rest := []) (q := 0) dX4_howManyShown_25 rfl (Nat.le_of_ble_eq_true rfl) rfl rfl YX4_isShown rfl rfl (Nat.le_of_ble_eq_true rfl) gX4_howManyShown_X4_isShown (by decide) ⟨Nat.zero_le _, Nat.zero_le _⟩ rfl (t_X4_isShown (v := v) (v 9 (j)) hS hE) ?_
      refine zs_ifz_eq (tgt := 34) dX4_howManyShown_28 (by decide)  (fun h28 => ?_) (fun h28 => ?_)
      · refine zs_iinc (lv' := [some (.inr 0), some (.inl (c)), some (.inl (j + 1))]) dX4_howManyShown_34 rfl (by decide) rfl ?_
        refine zs_goto (tgt := 4) dX4_howManyShown_37 (by decide) ?_
        simp only [x_seg, x_hs] at hr
        rw [if_neg h28] at hr
        exact ih n' (by omega) (j + 1) (c) (by omega) (by omega) (by omega)
      · refine zs_iinc (lv' := [some (.inr 0), some (.inl (c + 1)), some (.inl (j))]) dX4_howManyShown_31 rfl (by decide) rfl ?_
        refine zs_iinc (lv' := [some (.inr 0), some (.inl (c + 1)), some (.inl (j + 1))]) dX4_howManyShown_34 rfl (by decide) rfl ?_
        refine zs_goto (tgt := 4) dX4_howManyShown_37 (by decide) ?_
        simp only [x_seg, x_hs] at hr
        rw [if_pos h28] at hr
        exact ih n' (by omega) (j + 1) (c + 1) (by omega) (by omega) (by omega)
set_option maxHeartbeats 4000000 in
set_option maxRecDepth 100000 in
theorem t_X4_howManyShown {v : zs_V} (hS : x_S v) (hT : x_T v) : zs_R mX4_howManyShown 0 0 shX (zs_X (x_hs v (x_L v)) v) v 0 [some (.inr 0), none, none] [] := by
  refine zs_iconst (x := 0) dX4_howManyShown_0 (by decide) ?_
  refine zs_istore_n (lv' := [some (.inr 0), some (.inl (0)), none]) dX4_howManyShown_1 (by decide) rfl ?_
  refine zs_iconst (x := 0) dX4_howManyShown_2 (by decide) ?_
  refine zs_istore_n (lv' := [some (.inr 0), some (.inl (0)), some (.inl (0))]) dX4_howManyShown_3 (by decide) rfl ?_
  exact l_X4_howManyShown hS hT (v 16 0).toNat 0 0 (by omega) (by have := hT.1; omega) (by unfold x_L; omega)
set_option maxHeartbeats 4000000 in
set_option maxRecDepth 100000 in
theorem t_X4_stamp {v : zs_V} (p l : Int) (hS : x_S v) (hP : x_P v p) : zs_R mX4_stamp 0 0 shX (zs_X 0 (x_stamp v p l)) v 0 [some (.inr 0), some (.inl (p)), some (.inl (l)), none] [] := by
  have hf := x_P_f hS hP
  refine zs_aload_n dX4_stamp_0 rfl ?_
  refine zs_getr (j := 0) dX4_stamp_1 rfl rfl rfl (by decide) nX4_stamp_X4 fX4_stamp_12 ?_
  refine zs_aload_n dX4_stamp_4 rfl ?_
  refine zs_getr (j := 1) dX4_stamp_5 rfl rfl rfl (by decide) nX4_stamp_X4 fX4_stamp_19 ?_
  refine zs_iload_n dX4_stamp_8 rfl ?_
  refine zs_eV (As := [.inl (p)]) (rest := [.inr 1]) (q := 7) dX4_stamp_9 rfl (Nat.le_of_ble_eq_true rfl) rfl rfl YX1_stateAt rfl rfl (Nat.le_of_ble_eq_true rfl) gX4_stamp_X1_stateAt (by decide) ⟨Nat.zero_le _, Nat.zero_le _⟩ rfl (t_X1_stateAt (v := v) (p) (by omega) (by omega)) ?_
  refine zs_eV (As := [.inl (v 5 (p) / 1000)]) (rest := []) (q := 1) dX4_stamp_12 rfl (Nat.le_of_ble_eq_true rfl) rfl rfl YX3_timeOf rfl rfl (Nat.le_of_ble_eq_true rfl) gX4_stamp_X3_timeOf (by decide) ⟨Nat.zero_le _, Nat.zero_le _⟩ rfl (t_X3_timeOf (v := v) (v 5 (p) / 1000) (by omega) (by omega)) ?_
  refine zs_istore_n (lv' := [some (.inr 0), some (.inl (p)), some (.inl (l)), some (.inl (v 4 (v 1 (v 5 (p) / 1000))))]) dX4_stamp_15 (by decide) rfl ?_
  refine zs_aload_n dX4_stamp_16 rfl ?_
  refine zs_getr (j := 1) dX4_stamp_17 rfl rfl rfl (by decide) nX4_stamp_X4 fX4_stamp_19 ?_
  refine zs_getr (j := 2) dX4_stamp_20 rfl rfl rfl (by decide) nX4_stamp_X1 fX4_stamp_212 ?_
  refine zs_iload_n dX4_stamp_23 rfl ?_
  refine zs_iload_n dX4_stamp_24 rfl ?_
  refine zs_iastore dX4_stamp_25 rfl (by decide) (by decide) (by omega) (by omega) ?_
  refine zs_aload_n dX4_stamp_26 rfl ?_
  refine zs_getr (j := 1) dX4_stamp_27 rfl rfl rfl (by decide) nX4_stamp_X4 fX4_stamp_19 ?_
  refine zs_getr (j := 3) dX4_stamp_30 rfl rfl rfl (by decide) nX4_stamp_X1 fX4_stamp_187 ?_
  refine zs_iload_n dX4_stamp_33 rfl ?_
  refine zs_iload_n dX4_stamp_34 rfl ?_
  refine zs_iload_n dX4_stamp_35 rfl ?_
  refine zs_iadd dX4_stamp_36 ?_
  refine zs_iastore dX4_stamp_37 rfl (by decide) (by decide) (by omega) (by omega) ?_
  refine zs_vret dX4_stamp_38 rfl ?_
  exact ⟨rfl, rfl⟩
set_option maxHeartbeats 4000000 in
set_option maxRecDepth 100000 in
theorem t_X4_write {v : zs_V} (p x : Int) (hS0 : x_S v) (hP0 : x_P v p) : zs_R mX4_write 0 0 shX (zs_X 0 (x_write v p x)) v 0 [some (.inr 0), some (.inl (p)), some (.inl (x))] [] := by
  have hf := x_P_f hS0 hP0
  refine zs_aload_n dX4_write_0 rfl ?_
  refine zs_getr (j := 1) dX4_write_1 rfl rfl rfl (by decide) nX4_write_X4 fX4_write_19 ?_
  refine zs_getr (j := 1) dX4_write_4 rfl rfl rfl (by decide) nX4_write_X1 fX4_write_151 ?_
  refine zs_iload_n dX4_write_7 rfl ?_
  refine zs_iload_n dX4_write_8 rfl ?_
  refine zs_iastore dX4_write_9 rfl (by decide) (by decide) (by omega) (by omega) ?_
  have hS : x_S (zs_put v 6 (p) (x)) := x_S_of rfl rfl rfl rfl rfl rfl hS0
  have hP : x_P (zs_put v 6 (p) (x)) p := x_P_of rfl rfl hP0
  have hf1 := x_P_f hS hP
  refine zs_aload_n dX4_write_10 rfl ?_
  refine zs_iload_n dX4_write_11 rfl ?_
  refine zs_aload_n dX4_write_12 rfl ?_
  refine zs_getr (j := 0) dX4_write_13 rfl rfl rfl (by decide) nX4_write_X4 fX4_write_12 ?_
  refine zs_getr (j := 2) dX4_write_16 rfl rfl rfl (by decide) nX4_write_X3 fX4_write_130 ?_
  refine zs_aload_n dX4_write_19 rfl ?_
  refine zs_getr (j := 1) dX4_write_20 rfl rfl rfl (by decide) nX4_write_X4 fX4_write_19 ?_
  refine zs_iload_n dX4_write_23 rfl ?_
  refine zs_eV (As := [.inl (p)]) (rest := [.inr 4, .inl (p), .inr 0]) (q := 7) dX4_write_24 rfl (Nat.le_of_ble_eq_true rfl) rfl rfl YX1_stateAt rfl rfl (Nat.le_of_ble_eq_true rfl) gX4_write_X1_stateAt (by decide) ⟨Nat.zero_le _, Nat.zero_le _⟩ rfl (t_X1_stateAt (v := (zs_put v 6 (p) (x))) (p) (by omega) (by omega)) ?_
  refine zs_iaload dX4_write_27 rfl (by decide) (by omega) (by omega) ?_
  refine zs_eVv (As := [.inl (p), .inl ((zs_put v 6 (p) (x)) 2 ((zs_put v 6 (p) (x)) 5 (p) / 1000))]) (rest := []) (q := 0) dX4_write_28 rfl (Nat.le_of_ble_eq_true rfl) rfl rfl YX4_stamp rfl rfl (Nat.le_of_ble_eq_true rfl) gX4_write_X4_stamp (by decide) ⟨Nat.zero_le _, Nat.zero_le _⟩ rfl (t_X4_stamp (v := (zs_put v 6 (p) (x))) (p) ((zs_put v 6 (p) (x)) 2 ((zs_put v 6 (p) (x)) 5 (p) / 1000)) hS hP) ?_
  refine zs_vret dX4_write_31 rfl ?_
  exact ⟨rfl, rfl⟩

def x_read (v : zs_V) (p : Int) : zs_V := if p = -1 then v else if v 3 (v 5 p / 1000) = 1 then x_stamp v p (v 2 (v 5 p / 1000)) else v
set_option maxHeartbeats 4000000 in
set_option maxRecDepth 100000 in
theorem t_X4_read {v : zs_V} (p : Int) (hS : x_S v) (h : p = -1 ∨ x_P v p) : zs_R mX4_read 0 0 shX (zs_X (if p = -1 then -99999999 else v 6 p) (x_read v p)) v 0 [some (.inr 0), some (.inl (p)), none] [] := by
  have hpz : zn p := by rcases h with h | h; omega; have := h.1; have := h.2.1; omega
  refine zs_iload_n dX4_read_0 rfl ?_
  refine zs_iconst (x := -1) dX4_read_1 (by decide) ?_
  refine zs_icmp_ne (tgt := 8) dX4_read_2 (by decide) (by omega) (by omega) (fun h2 => ?_) (fun h2 => ?_)
  · have hP : x_P v p := h.resolve_left h2
    have hf := x_P_f hS hP
    refine zs_aload_n dX4_read_8 rfl ?_
    refine zs_getr (j := 1) dX4_read_9 rfl rfl rfl (by decide) nX4_read_X4 fX4_read_19 ?_
    refine zs_iload_n dX4_read_12 rfl ?_
    refine zs_eV (As := [.inl (p)]) (rest := []) (q := 7) dX4_read_13 rfl (Nat.le_of_ble_eq_true rfl) rfl rfl YX1_stateAt rfl rfl (Nat.le_of_ble_eq_true rfl) gX4_read_X1_stateAt (by decide) ⟨Nat.zero_le _, Nat.zero_le _⟩ rfl (t_X1_stateAt (v := v) (p) (by omega) (by omega)) ?_
    refine zs_istore_n (lv' := [some (.inr 0), some (.inl (p)), some (.inl (v 5 (p) / 1000))]) dX4_read_16 (by decide) rfl ?_
    refine zs_aload_n dX4_read_17 rfl ?_
    refine zs_getr (j := 0) dX4_read_18 rfl rfl rfl (by decide) nX4_read_X4 fX4_read_12 ?_
    refine zs_iload_n dX4_read_21 rfl ?_
    refine zs_eV (As := [.inl (v 5 (p) / 1000)]) (rest := []) (q := 1) dX4_read_22 rfl (Nat.le_of_ble_eq_true rfl) rfl rfl YX3_isStampedByReads rfl rfl (Nat.le_of_ble_eq_true rfl) gX4_read_X3_isStampedByReads (by decide) ⟨Nat.zero_le _, Nat.zero_le _⟩ rfl (t_X3_isStampedByReads (v := v) (v 5 (p) / 1000) (by omega) (by omega)) ?_
    refine zs_ifz_eq (tgt := 42) dX4_read_25 (by decide)  (fun h25 => ?_) (fun h25 => ?_)
    · refine zs_aload_n dX4_read_42 rfl ?_
      refine zs_getr (j := 1) dX4_read_43 rfl rfl rfl (by decide) nX4_read_X4 fX4_read_19 ?_
      refine zs_getr (j := 1) dX4_read_46 rfl rfl rfl (by decide) nX4_read_X1 fX4_read_151 ?_
      refine zs_iload_n dX4_read_49 rfl ?_
      refine zs_iaload dX4_read_50 rfl (by decide) (by omega) (by omega) ?_
      refine zs_iret dX4_read_51 rfl ?_
      exact ⟨by rw [if_neg h2], by unfold x_read; rw [if_neg h2, if_neg h25]⟩
    · refine zs_aload_n dX4_read_28 rfl ?_
      refine zs_iload_n dX4_read_29 rfl ?_
      refine zs_aload_n dX4_read_30 rfl ?_
      refine zs_getr (j := 0) dX4_read_31 rfl rfl rfl (by decide) nX4_read_X4 fX4_read_12 ?_
      refine zs_getr (j := 2) dX4_read_34 rfl rfl rfl (by decide) nX4_read_X3 fX4_read_130 ?_
      refine zs_iload_n dX4_read_37 rfl ?_
      refine zs_iaload dX4_read_38 rfl (by decide) (by omega) (by omega) ?_
      refine zs_eVv (As := [.inl (p), .inl (v 2 (v 5 (p) / 1000))]) (rest := []) (q := 0) dX4_read_39 rfl (Nat.le_of_ble_eq_true rfl) rfl rfl YX4_stamp rfl rfl (Nat.le_of_ble_eq_true rfl) gX4_read_X4_stamp (by decide) ⟨Nat.zero_le _, Nat.zero_le _⟩ rfl (t_X4_stamp (v := v) (p) (v 2 (v 5 (p) / 1000)) hS hP) ?_
      refine zs_aload_n dX4_read_42 rfl ?_
      refine zs_getr (j := 1) dX4_read_43 rfl rfl rfl (by decide) nX4_read_X4 fX4_read_19 ?_
      refine zs_getr (j := 1) dX4_read_46 rfl rfl rfl (by decide) nX4_read_X1 fX4_read_151 ?_
      refine zs_iload_n dX4_read_49 rfl ?_
      refine zs_iaload dX4_read_50 rfl (by decide) (by omega) (by omega) ?_
      refine zs_iret dX4_read_51 rfl ?_
      exact ⟨by rw [if_neg h2]; rfl, by unfold x_read; rw [if_neg h2, if_pos h25]⟩
  · refine zs_ldc (x := -99999999) dX4_read_5 kX4_read_114 (by decide) ?_
    refine zs_iret dX4_read_7 rfl ?_
    exact ⟨by rw [if_pos h2], by unfold x_read; rw [if_pos h2]⟩

theorem x_rb_r (v : zs_V) {r : Nat} (h1 : r ≠ 17) (h2 : r ≠ 18) (h3 : r ≠ 19) : x_rb v r = v r := by
  unfold x_rb
  rw [zs_put_r _ _ _ _ h3]
  split
  · exact zs_put_r _ _ _ _ h1
  · exact zs_put_r _ _ _ _ h2
theorem x_rb_k {v : zs_V} (h : 0 ≤ v 17 0 ∧ v 17 0 < 150) (hk : 0 ≤ v 18 0 ∧ v 18 0 ≤ 150) : 1 ≤ (x_rb v) 18 0 ∧ (x_rb v) 18 0 ≤ 150 ∧ 0 ≤ (x_rb v) 17 0 ∧ (x_rb v) 17 0 < 150 := by
  unfold x_rb
  rw [zs_put_r _ _ _ _ (by decide : 18 ≠ 19), zs_put_r _ _ _ _ (by decide : 17 ≠ 19)]
  split
  · rw [zs_put_r _ _ _ _ (by decide : 18 ≠ 17), zs_put_s]
    omega
  · rw [zs_put_s, zs_put_r _ _ _ _ (by decide : 17 ≠ 18)]
    omega
theorem x_rb_i {v : zs_V} (h : 0 ≤ v 17 0 ∧ v 17 0 < 150) (hk : 0 ≤ v 18 0 ∧ v 18 0 ≤ 150) : 0 ≤ x_ri (x_rb v) ((x_rb v) 18 0 - 1) ∧ x_ri (x_rb v) ((x_rb v) 18 0 - 1) ≤ 894 := by
  have := x_rb_k h hk
  unfold x_ri
  omega
set_option maxHeartbeats 4000000 in
set_option maxRecDepth 100000 in
theorem t_X4_tell {v : zs_V} (p : Int) (hS : x_S v) (hP : x_P v p) (h : 0 ≤ v 17 0 ∧ v 17 0 < 150) (hk : 0 ≤ v 18 0 ∧ v 18 0 ≤ 150) : zs_R mX4_tell 0 0 shX (zs_X 0 (x_tell v p)) v 0 [some (.inr 0), some (.inl (p)), none] [] := by
  have hf := x_P_f hS hP
  refine zs_aload_n dX4_tell_0 rfl ?_
  refine zs_getr (j := 2) dX4_tell_1 rfl rfl rfl (by decide) nX4_tell_X4 fX4_tell_26 ?_
  refine zs_eV (As := []) (rest := []) (q := 13) dX4_tell_4 rfl (Nat.le_of_ble_eq_true rfl) rfl rfl YX2_begin rfl rfl (Nat.le_of_ble_eq_true rfl) gX4_tell_X2_begin (by decide) ⟨Nat.zero_le _, Nat.zero_le _⟩ rfl (t_X2_begin (v := v) (by omega) (by omega)) ?_
  refine zs_istore_n (lv' := [some (.inr 0), some (.inl (p)), some (.inl (x_ri (x_rb v) ((x_rb v) 18 0 - 1)))]) dX4_tell_7 (by decide) rfl ?_
  have hi := x_rb_i h hk
  have hq : 0 ≤ (x_rb v) 5 p ∧ (x_rb v) 5 p < 6000 := by rw [x_rb_r v (by decide) (by decide) (by decide)]; omega
  refine zs_aload_n dX4_tell_8 rfl ?_
  refine zs_getr (j := 2) dX4_tell_9 rfl rfl rfl (by decide) nX4_tell_X4 fX4_tell_26 ?_
  refine zs_getr (j := 0) dX4_tell_12 rfl rfl rfl (by decide) nX4_tell_X2 fX4_tell_220 ?_
  refine zs_iload_n dX4_tell_15 rfl ?_
  refine zs_aload_n dX4_tell_16 rfl ?_
  refine zs_getr (j := 1) dX4_tell_17 rfl rfl rfl (by decide) nX4_tell_X4 fX4_tell_19 ?_
  refine zs_iload_n dX4_tell_20 rfl ?_
  refine zs_eV (As := [.inl (p)]) (rest := [.inl (x_ri (x_rb v) ((x_rb v) 18 0 - 1)), .inr 14]) (q := 7) dX4_tell_21 rfl (Nat.le_of_ble_eq_true rfl) rfl rfl YX1_stateAt rfl rfl (Nat.le_of_ble_eq_true rfl) gX4_tell_X1_stateAt (by decide) ⟨Nat.zero_le _, Nat.zero_le _⟩ rfl (t_X1_stateAt (v := (x_rb v)) (p) (by omega) (by omega)) ?_
  refine zs_iastore dX4_tell_24 rfl (by decide) (by decide) (by omega) (by omega) ?_
  refine zs_aload_n dX4_tell_25 rfl ?_
  refine zs_getr (j := 2) dX4_tell_26 rfl rfl rfl (by decide) nX4_tell_X4 fX4_tell_26 ?_
  refine zs_getr (j := 0) dX4_tell_29 rfl rfl rfl (by decide) nX4_tell_X2 fX4_tell_220 ?_
  refine zs_iload_n dX4_tell_32 rfl ?_
  refine zs_iconst (x := 1) dX4_tell_33 (by decide) ?_
  refine zs_iadd dX4_tell_34 ?_
  refine zs_aload_n dX4_tell_35 rfl ?_
  refine zs_getr (j := 1) dX4_tell_36 rfl rfl rfl (by decide) nX4_tell_X4 fX4_tell_19 ?_
  refine zs_iload_n dX4_tell_39 rfl ?_
  have hq40 : 0 ≤ (zs_put (x_rb v) 10 (x_ri (x_rb v) ((x_rb v) 18 0 - 1)) ((x_rb v) 5 (p) / 1000)) 5 p ∧ (zs_put (x_rb v) 10 (x_ri (x_rb v) ((x_rb v) 18 0 - 1)) ((x_rb v) 5 (p) / 1000)) 5 p < 6000 := hq
  refine zs_eV (As := [.inl (p)]) (rest := [.inl ((x_ri (x_rb v) ((x_rb v) 18 0 - 1)) + (1)), .inr 14]) (q := 7) dX4_tell_40 rfl (Nat.le_of_ble_eq_true rfl) rfl rfl YX1_keyAt rfl rfl (Nat.le_of_ble_eq_true rfl) gX4_tell_X1_keyAt (by decide) ⟨Nat.zero_le _, Nat.zero_le _⟩ rfl (t_X1_keyAt (v := (zs_put (x_rb v) 10 (x_ri (x_rb v) ((x_rb v) 18 0 - 1)) ((x_rb v) 5 (p) / 1000))) (p) (by omega) (by omega)) ?_
  refine zs_iastore dX4_tell_43 rfl (by decide) (by decide) (by omega) (by omega) ?_
  refine zs_aload_n dX4_tell_44 rfl ?_
  refine zs_getr (j := 2) dX4_tell_45 rfl rfl rfl (by decide) nX4_tell_X4 fX4_tell_26 ?_
  refine zs_getr (j := 0) dX4_tell_48 rfl rfl rfl (by decide) nX4_tell_X2 fX4_tell_220 ?_
  refine zs_iload_n dX4_tell_51 rfl ?_
  refine zs_iconst (x := 2) dX4_tell_52 (by decide) ?_
  refine zs_iadd dX4_tell_53 ?_
  refine zs_aload_n dX4_tell_54 rfl ?_
  refine zs_getr (j := 1) dX4_tell_55 rfl rfl rfl (by decide) nX4_tell_X4 fX4_tell_19 ?_
  refine zs_iload_n dX4_tell_58 rfl ?_
  have hq59 : 0 ≤ (zs_put (zs_put (x_rb v) 10 (x_ri (x_rb v) ((x_rb v) 18 0 - 1)) ((x_rb v) 5 (p) / 1000)) 10 ((x_ri (x_rb v) ((x_rb v) 18 0 - 1)) + (1)) ((zs_put (x_rb v) 10 (x_ri (x_rb v) ((x_rb v) 18 0 - 1)) ((x_rb v) 5 (p) / 1000)) 5 (p) / 10 % 100)) 5 p ∧ (zs_put (zs_put (x_rb v) 10 (x_ri (x_rb v) ((x_rb v) 18 0 - 1)) ((x_rb v) 5 (p) / 1000)) 10 ((x_ri (x_rb v) ((x_rb v) 18 0 - 1)) + (1)) ((zs_put (x_rb v) 10 (x_ri (x_rb v) ((x_rb v) 18 0 - 1)) ((x_rb v) 5 (p) / 1000)) 5 (p) / 10 % 100)) 5 p < 6000 := hq
  refine zs_eV (As := [.inl (p)]) (rest := [.inl ((x_ri (x_rb v) ((x_rb v) 18 0 - 1)) + (2)), .inr 14]) (q := 7) dX4_tell_59 rfl (Nat.le_of_ble_eq_true rfl) rfl rfl YX1_memberAt rfl rfl (Nat.le_of_ble_eq_true rfl) gX4_tell_X1_memberAt (by decide) ⟨Nat.zero_le _, Nat.zero_le _⟩ rfl (t_X1_memberAt (v := (zs_put (zs_put (x_rb v) 10 (x_ri (x_rb v) ((x_rb v) 18 0 - 1)) ((x_rb v) 5 (p) / 1000)) 10 ((x_ri (x_rb v) ((x_rb v) 18 0 - 1)) + (1)) ((zs_put (x_rb v) 10 (x_ri (x_rb v) ((x_rb v) 18 0 - 1)) ((x_rb v) 5 (p) / 1000)) 5 (p) / 10 % 100))) (p) (by omega) (by omega)) ?_
  refine zs_iastore dX4_tell_62 rfl (by decide) (by decide) (by omega) (by omega) ?_
  refine zs_aload_n dX4_tell_63 rfl ?_
  refine zs_getr (j := 2) dX4_tell_64 rfl rfl rfl (by decide) nX4_tell_X4 fX4_tell_26 ?_
  refine zs_getr (j := 0) dX4_tell_67 rfl rfl rfl (by decide) nX4_tell_X2 fX4_tell_220 ?_
  refine zs_iload_n dX4_tell_70 rfl ?_
  refine zs_iconst (x := 3) dX4_tell_71 (by decide) ?_
  refine zs_iadd dX4_tell_72 ?_
  refine zs_aload_n dX4_tell_73 rfl ?_
  refine zs_getr (j := 1) dX4_tell_74 rfl rfl rfl (by decide) nX4_tell_X4 fX4_tell_19 ?_
  refine zs_getr (j := 1) dX4_tell_77 rfl rfl rfl (by decide) nX4_tell_X1 fX4_tell_151 ?_
  refine zs_iload_n dX4_tell_80 rfl ?_
  refine zs_iaload dX4_tell_81 rfl (by decide) (by omega) (by omega) ?_
  refine zs_iastore dX4_tell_82 rfl (by decide) (by decide) (by omega) (by omega) ?_
  refine zs_aload_n dX4_tell_83 rfl ?_
  refine zs_getr (j := 2) dX4_tell_84 rfl rfl rfl (by decide) nX4_tell_X4 fX4_tell_26 ?_
  refine zs_getr (j := 0) dX4_tell_87 rfl rfl rfl (by decide) nX4_tell_X2 fX4_tell_220 ?_
  refine zs_iload_n dX4_tell_90 rfl ?_
  refine zs_iconst (x := 4) dX4_tell_91 (by decide) ?_
  refine zs_iadd dX4_tell_92 ?_
  refine zs_aload_n dX4_tell_93 rfl ?_
  refine zs_getr (j := 1) dX4_tell_94 rfl rfl rfl (by decide) nX4_tell_X4 fX4_tell_19 ?_
  refine zs_getr (j := 3) dX4_tell_97 rfl rfl rfl (by decide) nX4_tell_X1 fX4_tell_187 ?_
  refine zs_iload_n dX4_tell_100 rfl ?_
  refine zs_iaload dX4_tell_101 rfl (by decide) (by omega) (by omega) ?_
  refine zs_iastore dX4_tell_102 rfl (by decide) (by decide) (by omega) (by omega) ?_
  refine zs_aload_n dX4_tell_103 rfl ?_
  refine zs_getr (j := 2) dX4_tell_104 rfl rfl rfl (by decide) nX4_tell_X4 fX4_tell_26 ?_
  refine zs_getr (j := 0) dX4_tell_107 rfl rfl rfl (by decide) nX4_tell_X2 fX4_tell_220 ?_
  refine zs_iload_n dX4_tell_110 rfl ?_
  refine zs_iconst (x := 5) dX4_tell_111 (by decide) ?_
  refine zs_iadd dX4_tell_112 ?_
  refine zs_aload_n dX4_tell_113 rfl ?_
  refine zs_getr (j := 0) dX4_tell_114 rfl rfl rfl (by decide) nX4_tell_X4 fX4_tell_12 ?_
  refine zs_getr (j := 4) dX4_tell_117 rfl rfl rfl (by decide) nX4_tell_X3 fX4_tell_119 ?_
  refine zs_iconst (x := 0) dX4_tell_120 (by decide) ?_
  refine zs_iaload dX4_tell_121 rfl (by decide) (by omega) (by omega) ?_
  refine zs_iastore dX4_tell_122 rfl (by decide) (by decide) (by omega) (by omega) ?_
  refine zs_vret dX4_tell_123 rfl ?_
  exact ⟨rfl, rfl⟩
set_option maxHeartbeats 4000000 in
set_option maxRecDepth 100000 in
theorem t_X4_moveClock {v : zs_V} (c t : Int) (hS : x_S v) (hT : x_T v) (hc : c = 0 ∨ c = 1) (ht : 0 ≤ t ∧ t ≤ 1000000000) : zs_R mX4_moveClock 0 0 shX (zs_X (x_hs v (x_L v) - x_hs (zs_put v 4 c t) (x_L v)) (zs_put v 4 c t)) v 0 [some (.inr 0), some (.inl (c)), some (.inl (t)), none] [] := by
  refine zs_aload_n dX4_moveClock_0 rfl ?_
  refine zs_eV (As := []) (rest := []) (q := 0) dX4_moveClock_1 rfl (Nat.le_of_ble_eq_true rfl) rfl rfl YX4_howManyShown rfl rfl (Nat.le_of_ble_eq_true rfl) gX4_moveClock_X4_howManyShown (by decide) ⟨Nat.zero_le _, Nat.zero_le _⟩ rfl (t_X4_howManyShown (v := v) hS hT) ?_
  refine zs_istore_n (lv' := [some (.inr 0), some (.inl (c)), some (.inl (t)), some (.inl (x_hs v (x_L v)))]) dX4_moveClock_4 (by decide) rfl ?_
  refine zs_aload_n dX4_moveClock_5 rfl ?_
  refine zs_getr (j := 0) dX4_moveClock_6 rfl rfl rfl (by decide) nX4_moveClock_X4 fX4_moveClock_12 ?_
  refine zs_getr (j := 4) dX4_moveClock_9 rfl rfl rfl (by decide) nX4_moveClock_X3 fX4_moveClock_119 ?_
  refine zs_iload_n dX4_moveClock_12 rfl ?_
  refine zs_iload_n dX4_moveClock_13 rfl ?_
  refine zs_iastore dX4_moveClock_14 rfl (by decide) (by decide) (by omega) (by omega) ?_
  have hS0 := hS
  have hT0 := hT
  have hS : x_S (zs_put v 4 c t) := by
    obtain ⟨g1, g2, g3, g4, g5, g6, g7⟩ := hS
    refine ⟨g1, g2, g3, ?_⟩
    rw [zs_put_e, zs_put_e]
    rcases hc with rfl | rfl <;> simp <;> omega
  have hT : x_T (zs_put v 4 c t) := x_T_of rfl rfl rfl rfl rfl hT0
  refine zs_iload_n dX4_moveClock_15 rfl ?_
  refine zs_aload_n dX4_moveClock_16 rfl ?_
  refine zs_eV (As := []) (rest := [.inl (x_hs v (x_L v))]) (q := 0) dX4_moveClock_17 rfl (Nat.le_of_ble_eq_true rfl) rfl rfl YX4_howManyShown rfl rfl (Nat.le_of_ble_eq_true rfl) gX4_moveClock_X4_howManyShown (by decide) ⟨Nat.zero_le _, Nat.zero_le _⟩ rfl (t_X4_howManyShown (v := (zs_put v 4 (c) (t))) hS hT) ?_
  refine zs_isub dX4_moveClock_20 ?_
  refine zs_iret dX4_moveClock_21 rfl ?_
  exact ⟨by rw [x_L_of (u := zs_put v 4 c t) (v := v) rfl rfl], rfl⟩

def x_U (v : zs_V) : Prop := ∀ j : Int, 0 ≤ j → j < v 16 0 → 0 ≤ v 7 (v 9 j) ∧ v 7 (v 9 j) ≤ 1000000000
theorem x_sa_T {u : zs_V} {j x : Int} (hT : x_T u) (hx : 0 ≤ x ∧ x ≤ 1000100000) : x_T (zs_put u 8 (u 9 j) x) := by
  refine ⟨hT.1, hT.2.1, fun i h0 h1 => ?_⟩
  have := hT.2.2 i h0 h1
  refine ⟨x_P_of rfl rfl this.1, ?_⟩
  rw [zs_put_e]
  split
  · exact hx
  · exact this.2
set_option maxHeartbeats 4000000 in
set_option maxRecDepth 100000 in
theorem l_X4_spanShownAnew {s : Int} : ∀ (n : Nat) (u : zs_V) (hS : x_S u) (hT : x_T u) (hU : x_U u) (j : Int) (x3 : Option zs_A), 0 ≤ j → j + n = u 16 0 → 0 ≤ s ∧ s < u 15 0 → zs_R mX4_spanShownAnew 0 0 shX (zs_X 0 (x_sa s (x_seg u j n) u)) u 2 [some (.inr 0), some (.inl (s)), some (.inl (j)), x3] [] := by
  intro n
  induction n using Nat.strongRecOn with
  | ind n ih =>
    intro u hS hT hU j x3 h0 hn hs
    have hT1 := hT.2.1
    refine zs_iload_n dX4_spanShownAnew_2 rfl ?_
    refine zs_aload_n dX4_spanShownAnew_3 rfl ?_
    refine zs_getr (j := 1) dX4_spanShownAnew_4 rfl rfl rfl (by decide) nX4_spanShownAnew_X4 fX4_spanShownAnew_19 ?_
    refine zs_geti (j := 5) dX4_spanShownAnew_7 rfl rfl rfl (by decide) nX4_spanShownAnew_X1 fX4_spanShownAnew_142 ?_
    refine zs_icmp_ge (tgt := 77) dX4_spanShownAnew_10 (by decide) (by omega) (by omega) (fun h10 => ?_) (fun h10 => ?_)
    · refine zs_vret dX4_spanShownAnew_77 rfl ?_
      obtain rfl : n = 0 := by omega
      exact ⟨rfl, rfl⟩
    · obtain ⟨n', rfl⟩ : ∃ n', n = n' + 1 := ⟨n - 1, by omega⟩
      have hE := hT.2.2 j (by omega) (by omega)
      have hf := x_P_f hS hE.1
      have hn' : j + 1 + n' = u 16 0 := by omega
      have hu := hU j (by omega) (by omega)
      have hs1 := x_S_at hS (s := s) (by omega) (by omega)
      refine zs_aload_n dX4_spanShownAnew_13 rfl ?_
      refine zs_getr (j := 1) dX4_spanShownAnew_14 rfl rfl rfl (by decide) nX4_spanShownAnew_X4 fX4_spanShownAnew_19 ?_
      refine zs_getr (j := 4) dX4_spanShownAnew_17 rfl rfl rfl (by decide) nX4_spanShownAnew_X1 fX4_spanShownAnew_145 ?_
      refine zs_iload_n dX4_spanShownAnew_20 rfl ?_
      refine zs_iaload dX4_spanShownAnew_21 rfl (by decide) (by omega) (by omega) ?_
      refine zs_istore_n (lv' := [some (.inr 0), some (.inl (s)), some (.inl (j)), some (.inl (u 9 (j)))]) dX4_spanShownAnew_22 (by decide) rfl ?_
      refine zs_aload_n dX4_spanShownAnew_23 rfl ?_
      refine zs_getr (j := 1) dX4_spanShownAnew_24 rfl rfl rfl (by decide) nX4_spanShownAnew_X4 fX4_spanShownAnew_19 ?_
      refine zs_iload_n dX4_spanShownAnew_27 rfl ?_
      refine zs_eV (As := [.inl (u 9 (j))]) (rest := []) (q := 7) dX4_spanShownAnew_28 rfl (Nat.le_of_ble_eq_true rfl) rfl rfl YX1_stateAt rfl rfl (Nat.le_of_ble_eq_true rfl) gX4_spanShownAnew_X1_stateAt (by decide) ⟨Nat.zero_le _, Nat.zero_le _⟩ rfl (t_X1_stateAt (v := u) (u 9 (j)) (by omega) (by omega)) ?_
      refine zs_iload_n dX4_spanShownAnew_31 rfl ?_
      refine zs_icmp_ne (tgt := 71) dX4_spanShownAnew_32 (by decide) (by omega) (by omega) (fun h32 => ?_) (fun h32 => ?_)
      · refine zs_iinc (lv' := [some (.inr 0), some (.inl (s)), some (.inl (j + 1)), some (.inl (u 9 (j)))]) dX4_spanShownAnew_71 rfl (by decide) rfl ?_
        refine zs_goto (tgt := 2) dX4_spanShownAnew_74 (by decide) ?_
        simp only [x_seg, x_sa]
        rw [if_neg (fun q => h32 q.1)]
        exact ih n' (by omega) u hS hT hU (j + 1) _ (by omega) hn' hs
      · refine zs_aload_n dX4_spanShownAnew_35 rfl ?_
        refine zs_iload_n dX4_spanShownAnew_36 rfl ?_
        refine zs_eV (As := [.inl (u 9 (j))]) (rest := []) (q := 0) dX4_spanShownAnew_37 rfl (Nat.le_of_ble_eq_true rfl) rfl rfl YX4_isShown rfl rfl (Nat.le_of_ble_eq_true rfl) gX4_spanShownAnew_X4_isShown (by decide) ⟨Nat.zero_le _, Nat.zero_le _⟩ rfl (t_X4_isShown (v := u) (u 9 (j)) hS hE) ?_
        refine zs_ifz_eq (tgt := 71) dX4_spanShownAnew_40 (by decide)  (fun h40 => ?_) (fun h40 => ?_)
        · refine zs_iinc (lv' := [some (.inr 0), some (.inl (s)), some (.inl (j + 1)), some (.inl (u 9 (j)))]) dX4_spanShownAnew_71 rfl (by decide) rfl ?_
          refine zs_goto (tgt := 2) dX4_spanShownAnew_74 (by decide) ?_
          simp only [x_seg, x_sa]
          rw [if_neg (fun q => h40 q.2)]
          exact ih n' (by omega) u hS hT hU (j + 1) _ (by omega) hn' hs
        · refine zs_aload_n dX4_spanShownAnew_43 rfl ?_
          refine zs_getr (j := 1) dX4_spanShownAnew_44 rfl rfl rfl (by decide) nX4_spanShownAnew_X4 fX4_spanShownAnew_19 ?_
          refine zs_getr (j := 3) dX4_spanShownAnew_47 rfl rfl rfl (by decide) nX4_spanShownAnew_X1 fX4_spanShownAnew_187 ?_
          refine zs_iload_n dX4_spanShownAnew_50 rfl ?_
          refine zs_aload_n dX4_spanShownAnew_51 rfl ?_
          refine zs_getr (j := 1) dX4_spanShownAnew_52 rfl rfl rfl (by decide) nX4_spanShownAnew_X4 fX4_spanShownAnew_19 ?_
          refine zs_getr (j := 2) dX4_spanShownAnew_55 rfl rfl rfl (by decide) nX4_spanShownAnew_X1 fX4_spanShownAnew_212 ?_
          refine zs_iload_n dX4_spanShownAnew_58 rfl ?_
          refine zs_iaload dX4_spanShownAnew_59 rfl (by decide) (by omega) (by omega) ?_
          refine zs_aload_n dX4_spanShownAnew_60 rfl ?_
          refine zs_getr (j := 0) dX4_spanShownAnew_61 rfl rfl rfl (by decide) nX4_spanShownAnew_X4 fX4_spanShownAnew_12 ?_
          refine zs_getr (j := 2) dX4_spanShownAnew_64 rfl rfl rfl (by decide) nX4_spanShownAnew_X3 fX4_spanShownAnew_130 ?_
          refine zs_iload_n dX4_spanShownAnew_67 rfl ?_
          refine zs_iaload dX4_spanShownAnew_68 rfl (by decide) (by omega) (by omega) ?_
          refine zs_iadd dX4_spanShownAnew_69 ?_
          refine zs_iastore dX4_spanShownAnew_70 rfl (by decide) (by decide) (by omega) (by omega) ?_
          refine zs_iinc (lv' := [some (.inr 0), some (.inl (s)), some (.inl (j + 1)), some (.inl (u 9 (j)))]) dX4_spanShownAnew_71 rfl (by decide) rfl ?_
          refine zs_goto (tgt := 2) dX4_spanShownAnew_74 (by decide) ?_
          simp only [x_seg, x_sa]
          rw [if_pos ⟨h32, h40⟩]
          rw [← x_seg_9 (show (zs_put u 8 (u 9 j) (u 7 (u 9 j) + u 2 s)) 9 = u 9 from rfl) (j + 1) n']
          exact ih n' (by omega) (zs_put u 8 (u 9 j) (u 7 (u 9 j) + u 2 s)) (x_S_of rfl rfl rfl rfl rfl rfl hS) (x_sa_T hT (by omega)) hU (j + 1) _ (by omega) hn' hs
set_option maxHeartbeats 4000000 in
set_option maxRecDepth 100000 in
theorem t_X4_spanShownAnew {v : zs_V} (s : Int) (hS : x_S v) (hT : x_T v) (hU : x_U v) (hs : 0 ≤ s ∧ s < v 15 0) : zs_R mX4_spanShownAnew 0 0 shX (zs_X 0 (x_sa s (x_L v) v)) v 0 [some (.inr 0), some (.inl (s)), none, none] [] := by
  refine zs_iconst (x := 0) dX4_spanShownAnew_0 (by decide) ?_
  refine zs_istore_n (lv' := [some (.inr 0), some (.inl (s)), some (.inl (0)), none]) dX4_spanShownAnew_1 (by decide) rfl ?_
  exact l_X4_spanShownAnew (v 16 0).toNat v hS hT hU 0 _ (by omega) (by have := hT.1; omega) hs
