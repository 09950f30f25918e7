set_option maxHeartbeats 4000000 in
set_option maxRecDepth 100000 in
theorem l_X5_clear {s k r0 : Int} {v0 : zs_V} (hs : zn s ∧ ¬ s = -99999999) (hk : zn k) : ∀ (n : Nat) (u : zs_V) (p c : Int), x_S u → m_W u → 0 ≤ p → p + n = 200 → c + m_clR s k (z_fr p n) u = r0 → m_clS s k (z_fr p n) u = v0 → zs_R mX5_clear 0 0 shM (zs_X r0 v0) u 25 [some (.inr 0), some (.inl (s)), some (.inl (k)), some (.inl (c)), some (.inl (p))] [] := by
  intro n
  induction n using Nat.strongRecOn with
  | ind n ih =>
    intro u p c hS hW h0 hn hr hv
    refine zs_iload dX5_clear_25 rfl ?_
    refine zs_sipush (x := 200) dX5_clear_27 (by decide) ?_
    refine zs_icmp_ge (tgt := 87) dX5_clear_30 (by decide) (by omega) (by omega) (fun h30 => ?_) (fun h30 => ?_)
    · refine zs_iload_n dX5_clear_87 rfl ?_
      refine zs_iret dX5_clear_88 rfl ?_
      obtain rfl : n = 0 := by omega
      simp only [z_fr, m_clR] at hr
      exact ⟨by omega, hv⟩
    · obtain ⟨n', rfl⟩ : ∃ n', n = n' + 1 := ⟨n - 1, by omega⟩
      have hz := m_W_z hS hW (p := p) (by omega) (by omega)
      refine zs_aload_n dX5_clear_33 rfl ?_
      refine zs_getr (j := 6) dX5_clear_34 rfl rfl rfl (by decide) nX5_clear_X5 fX5_clear_25 ?_
      refine zs_iload dX5_clear_37 rfl ?_
      refine zs_iaload dX5_clear_39 rfl (by decide) (by omega) (by omega) ?_
      refine zs_iload_n dX5_clear_40 rfl ?_
      refine zs_icmp_ne (tgt := 81) dX5_clear_41 (by decide) (by omega) (by omega) (fun h41 => ?_) (fun h41 => ?_)
      · refine zs_iinc (lv' := [some (.inr 0), some (.inl (s)), some (.inl (k)), some (.inl (c)), some (.inl (p + 1))]) dX5_clear_81 rfl (by decide) rfl ?_
        refine zs_goto (tgt := 25) dX5_clear_84 (by decide) ?_
        simp only [z_fr, m_clR] at hr
        simp only [z_fr, m_clS] at hv
        rw [if_neg (fun q => h41 q.1.1), if_neg (fun q => h41 q.1)] at hr
        rw [if_neg (fun q => h41 q.1)] at hv
        exact ih n' (by omega) u (p + 1) c hS hW (by omega) (by omega) (by omega) hv
      · have hP := (hW p (by omega) (by omega)).resolve_left (by omega)
        have hk1 := hP.2.1
        refine zs_aload_n dX5_clear_44 rfl ?_
        refine zs_getr (j := 7) dX5_clear_45 rfl rfl rfl (by decide) nX5_clear_X5 fX5_clear_28 ?_
        refine zs_iload dX5_clear_48 rfl ?_
        refine zs_iaload dX5_clear_50 rfl (by decide) (by omega) (by omega) ?_
        refine zs_iload_n dX5_clear_51 rfl ?_
        refine zs_icmp_ne (tgt := 81) dX5_clear_52 (by decide) (by omega) (by omega) (fun h52 => ?_) (fun h52 => ?_)
        · refine zs_iinc (lv' := [some (.inr 0), some (.inl (s)), some (.inl (k)), some (.inl (c)), some (.inl (p + 1))]) dX5_clear_81 rfl (by decide) rfl ?_
          refine zs_goto (tgt := 25) dX5_clear_84 (by decide) ?_
          simp only [z_fr, m_clR] at hr
          simp only [z_fr, m_clS] at hv
          rw [if_neg (fun q => h52 q.1.2), if_neg (fun q => h52 q.2)] at hr
          rw [if_neg (fun q => h52 q.2)] at hv
          exact ih n' (by omega) u (p + 1) c hS hW (by omega) (by omega) (by omega) hv
        · refine zs_iload_n dX5_clear_55 rfl ?_
          refine zs_aload_n dX5_clear_56 rfl ?_
          refine zs_iload dX5_clear_57 rfl ?_
          refine zs_eV (As := [.inl (p)]) (rest := [.inl (c)]) (q := 0) dX5_clear_59 rfl (Nat.le_of_ble_eq_true rfl) rfl rfl YX5_isShown rfl rfl (Nat.le_of_ble_eq_true rfl) gX5_clear_X5_isShown (by decide) ⟨Nat.zero_le _, Nat.zero_le _⟩ rfl (t_X5_isShown (w := u) (p) (by omega) hS hW) ?_
          refine zs_ifz_eq (tgt := 69) dX5_clear_62 (by decide)  (fun h62 => ?_) (fun h62 => ?_)
          · refine zs_iconst (x := 0) dX5_clear_69 (by decide) ?_
            refine zs_iadd dX5_clear_70 ?_
            refine zs_istore_n (lv' := [some (.inr 0), some (.inl (s)), some (.inl (k)), some (.inl ((c) + (0))), some (.inl (p))]) dX5_clear_71 (by decide) rfl ?_
            refine zs_aload_n dX5_clear_72 rfl ?_
            refine zs_getr (j := 6) dX5_clear_73 rfl rfl rfl (by decide) nX5_clear_X5 fX5_clear_25 ?_
            refine zs_iload dX5_clear_76 rfl ?_
            refine zs_ldc (x := -99999999) dX5_clear_78 kX5_clear_55 (by decide) ?_
            refine zs_iastore dX5_clear_80 rfl (by decide) (by decide) (by omega) (by omega) ?_
            refine zs_iinc (lv' := [some (.inr 0), some (.inl (s)), some (.inl (k)), some (.inl ((c) + (0))), some (.inl (p + 1))]) dX5_clear_81 rfl (by decide) rfl ?_
            refine zs_goto (tgt := 25) dX5_clear_84 (by decide) ?_
            simp only [z_fr, m_clR] at hr
            simp only [z_fr, m_clS] at hv
            rw [if_neg (fun q => h62 q.2), if_pos ⟨h41, h52⟩] at hr
            rw [if_pos ⟨h41, h52⟩] at hv
            exact ih n' (by omega) _ (p + 1) (c + 0) (x_S_of rfl rfl rfl rfl rfl rfl hS) (m_W_none p hW) (by omega) (by omega) (by omega) hv
          · refine zs_iconst (x := 1) dX5_clear_65 (by decide) ?_
            refine zs_goto (tgt := 70) dX5_clear_66 (by decide) ?_
            refine zs_iadd dX5_clear_70 ?_
            refine zs_istore_n (lv' := [some (.inr 0), some (.inl (s)), some (.inl (k)), some (.inl ((c) + (1))), some (.inl (p))]) dX5_clear_71 (by decide) rfl ?_
            refine zs_aload_n dX5_clear_72 rfl ?_
            refine zs_getr (j := 6) dX5_clear_73 rfl rfl rfl (by decide) nX5_clear_X5 fX5_clear_25 ?_
            refine zs_iload dX5_clear_76 rfl ?_
            refine zs_ldc (x := -99999999) dX5_clear_78 kX5_clear_55 (by decide) ?_
            refine zs_iastore dX5_clear_80 rfl (by decide) (by decide) (by omega) (by omega) ?_
            refine zs_iinc (lv' := [some (.inr 0), some (.inl (s)), some (.inl (k)), some (.inl ((c) + (1))), some (.inl (p + 1))]) dX5_clear_81 rfl (by decide) rfl ?_
            refine zs_goto (tgt := 25) dX5_clear_84 (by decide) ?_
            simp only [z_fr, m_clR] at hr
            simp only [z_fr, m_clS] at hv
            rw [if_pos ⟨⟨h41, h52⟩, h62⟩, if_pos ⟨h41, h52⟩] at hr
            rw [if_pos ⟨h41, h52⟩] at hv
            exact ih n' (by omega) _ (p + 1) (c + 1) (x_S_of rfl rfl rfl rfl rfl rfl hS) (m_W_none p hW) (by omega) (by omega) (by omega) hv

noncomputable def m_cleR (w : zs_V) (s k : Int) : Int := if ((0 ≤ s ∧ s < w 15 0) ∧ 0 ≤ k ∧ k < 100) then m_clR s k z_Z w else -1
noncomputable def m_cleS (w : zs_V) (s k : Int) : zs_V := if ((0 ≤ s ∧ s < w 15 0) ∧ 0 ≤ k ∧ k < 100) then m_clS s k z_Z w else w
set_option maxHeartbeats 4000000 in
set_option maxRecDepth 100000 in
theorem t_X5_clear {w : zs_V} (hS : x_S w) (hW : m_W w) (s k : Int) (hs0 : zn s) (hk : zn k) : zs_R mX5_clear 0 0 shM (zs_X (m_cleR w s k) (m_cleS w s k)) w 0 [some (.inr 0), some (.inl (s)), some (.inl (k)), none, none] [] := by
  refine zs_aload_n dX5_clear_0 rfl ?_
  refine zs_iload_n dX5_clear_1 rfl ?_
  refine zs_eV (As := [.inl (s)]) (rest := []) (q := 0) dX5_clear_2 rfl (Nat.le_of_ble_eq_true rfl) rfl rfl YX5_isState rfl rfl (Nat.le_of_ble_eq_true rfl) gX5_clear_X5_isState (by decide) ⟨Nat.zero_le _, Nat.zero_le _⟩ rfl (t_X5_isState (w := w) (s) (by omega) ⟨hS.1, hS.2.1⟩) ?_
  refine zs_ifz_eq (tgt := 18) dX5_clear_5 (by decide)  (fun h5 => ?_) (fun h5 => ?_)
  · refine zs_iconst (x := -1) dX5_clear_18 (by decide) ?_
    refine zs_iret dX5_clear_19 rfl ?_
    have hn : ¬ ((0 ≤ s ∧ s < w 15 0) ∧ 0 ≤ k ∧ k < 100) := by omega
    exact ⟨by unfold m_cleR; rw [if_neg hn], by unfold m_cleS; rw [if_neg hn]⟩
  · refine zs_iload_n dX5_clear_8 rfl ?_
    refine zs_iconst (x := 0) dX5_clear_9 (by decide) ?_
    refine zs_bipush (x := 99) dX5_clear_10 (by decide) ?_
    refine zs_eS (As := [.inl (k), .inl (0), .inl (99)]) (rest := []) dX5_clear_12 rfl (Nat.le_of_ble_eq_true rfl) YX5_isIn rfl (Nat.le_of_ble_eq_true rfl) gX5_clear_X5_isIn (by decide) ⟨Nat.zero_le _, Nat.zero_le _⟩ rfl (t_X5_isIn (w := w) (k) (0) (99) (by omega) (by omega) (by omega)) ?_
    refine zs_ifz_ne (tgt := 20) dX5_clear_15 (by decide)  (fun h15 => ?_) (fun h15 => ?_)
    · refine zs_iconst (x := 0) dX5_clear_20 (by decide) ?_
      refine zs_istore_n (lv' := [some (.inr 0), some (.inl (s)), some (.inl (k)), some (.inl (0)), none]) dX5_clear_21 (by decide) rfl ?_
      refine zs_iconst (x := 0) dX5_clear_22 (by decide) ?_
      refine zs_istore (lv' := [some (.inr 0), some (.inl (s)), some (.inl (k)), some (.inl (0)), some (.inl (0))]) dX5_clear_23 (by decide) rfl ?_
      have hn : ((0 ≤ s ∧ s < w 15 0) ∧ 0 ≤ k ∧ k < 100) := by omega
      unfold m_cleR m_cleS
      rw [if_pos hn, if_pos hn]
      exact l_X5_clear (by omega) hk 200 w 0 0 hS hW (by omega) (by omega) (Int.zero_add _) rfl
    · refine zs_iconst (x := -1) dX5_clear_18 (by decide) ?_
      refine zs_iret dX5_clear_19 rfl ?_
      have hn : ¬ ((0 ≤ s ∧ s < w 15 0) ∧ 0 ≤ k ∧ k < 100) := by omega
      exact ⟨by unfold m_cleR; rw [if_neg hn], by unfold m_cleS; rw [if_neg hn]⟩

noncomputable def m_s1 (w : zs_V) : zs_V := zs_put (if m_ov w (w 17 0) then zs_put (m_tell w (w 17 0)) 5 (w 17 0) (-99999999) else w) 17 0 (if w 17 0 = 199 then 0 else w 17 0 + 1)
noncomputable def m_swS : Nat → zs_V → zs_V
  | 0, w => w
  | n + 1, w => m_swS n (m_s1 w)
noncomputable def m_swR : Nat → zs_V → Int
  | 0, _ => 0
  | n + 1, w => (if m_ov w (w 17 0) then 1 else 0) + m_swR n (m_s1 w)
def m_J (w : zs_V) : Prop := x_S w ∧ m_W w ∧ (0 ≤ w 18 0 ∧ w 18 0 ≤ 150) ∧ 0 ≤ w 17 0 ∧ w 17 0 < 200
theorem m_s1_J {w : zs_V} (h : m_J w) : m_J (m_s1 w) := by
  obtain ⟨h1, h2, h3, h4, h5⟩ := h
  unfold m_s1
  by_cases c : m_ov w (w 17 0)
  · rw [if_pos c]
    have hn := m_tell_n (w 17 0) h3
    refine ⟨x_S_of rfl rfl rfl rfl rfl rfl (m_tell_S (w 17 0) h1), m_W_of rfl rfl rfl rfl rfl rfl (m_W_none (w 17 0) (m_W_tell (w 17 0) h2)), ?_, ?_⟩
    · show 0 ≤ (m_tell w (w 17 0)) 18 0 ∧ (m_tell w (w 17 0)) 18 0 ≤ 150
      rw [hn]
      split <;> omega
    · rw [zs_put_s]
      split <;> omega
  · rw [if_neg c]
    refine ⟨x_S_of rfl rfl rfl rfl rfl rfl h1, m_W_of rfl rfl rfl rfl rfl rfl h2, h3, ?_⟩
    rw [zs_put_s]
    split <;> omega
noncomputable def m_sweR (w : zs_V) (n : Int) : Int := if 1 ≤ n ∧ n ≤ 200 then m_swR n.toNat w else -1
noncomputable def m_sweS (w : zs_V) (n : Int) : zs_V := if 1 ≤ n ∧ n ≤ 200 then m_swS n.toNat w else w
set_option maxHeartbeats 4000000 in
set_option maxRecDepth 100000 in
theorem l_X5_sweep {N r0 : Int} {v0 : zs_V} (hN : zn N) : ∀ (n : Nat) (u : zs_V) (c j : Int), m_J u → 0 ≤ j → j + n = N → c + m_swR n u = r0 → m_swS n u = v0 → zs_R mX5_sweep 0 0 shM (zs_X r0 v0) u 17 [some (.inr 0), some (.inl (N)), some (.inl (c)), some (.inl (j))] [] := by
  intro n
  induction n using Nat.strongRecOn with
  | ind n ih =>
    intro u c j hJ h0 hn hr hv
    refine zs_iload_n dX5_sweep_17 rfl ?_
    refine zs_iload_n dX5_sweep_18 rfl ?_
    refine zs_icmp_ge (tgt := 85) dX5_sweep_19 (by decide) (by omega) (by omega) (fun h19 => ?_) (fun h19 => ?_)
    · refine zs_iload_n dX5_sweep_85 rfl ?_
      refine zs_iret dX5_sweep_86 rfl ?_
      obtain rfl : n = 0 := by omega
      simp only [m_swR] at hr
      exact ⟨by omega, hv⟩
    · obtain ⟨n', rfl⟩ : ∃ n', n = n' + 1 := ⟨n - 1, by omega⟩
      obtain ⟨hS, hW, hRM, hf1, hf2⟩ := id hJ
      refine zs_aload_n dX5_sweep_22 rfl ?_
      refine zs_aload_n dX5_sweep_23 rfl ?_
      refine zs_geti (j := 14) dX5_sweep_24 rfl rfl rfl (by decide) nX5_sweep_X5 fX5_sweep_136 ?_
      refine zs_eV (As := [.inl (u 17 0)]) (rest := []) (q := 0) dX5_sweep_27 rfl (Nat.le_of_ble_eq_true rfl) rfl rfl YX5_isOver rfl rfl (Nat.le_of_ble_eq_true rfl) gX5_sweep_X5_isOver (by decide) ⟨Nat.zero_le _, Nat.zero_le _⟩ rfl (t_X5_isOver (w := u) (u 17 0) (by omega) hS hW) ?_
      refine zs_ifz_eq (tgt := 55) dX5_sweep_30 (by decide)  (fun h30 => ?_) (fun h30 => ?_)
      · refine zs_aload_n dX5_sweep_55 rfl ?_
        refine zs_aload_n dX5_sweep_56 rfl ?_
        refine zs_geti (j := 14) dX5_sweep_57 rfl rfl rfl (by decide) nX5_sweep_X5 fX5_sweep_136 ?_
        refine zs_sipush (x := 199) dX5_sweep_60 (by decide) ?_
        refine zs_icmp_ne (tgt := 70) dX5_sweep_63 (by decide) (by omega) (by omega) (fun h63 => ?_) (fun h63 => ?_)
        · refine zs_aload_n dX5_sweep_70 rfl ?_
          refine zs_geti (j := 14) dX5_sweep_71 rfl rfl rfl (by decide) nX5_sweep_X5 fX5_sweep_136 ?_
          refine zs_iconst (x := 1) dX5_sweep_74 (by decide) ?_
          refine zs_iadd dX5_sweep_75 ?_
          refine zs_puti (j := 14) dX5_sweep_76 rfl rfl (by decide) rfl (by decide) nX5_sweep_X5 tyX5 tyX5_ok nmX5 rfl (by decide +kernel) fX5_sweep_136 ?_
          refine zs_iinc (lv' := [some (.inr 0), some (.inl (N)), some (.inl (c)), some (.inl (j + 1))]) dX5_sweep_79 rfl (by decide) rfl ?_
          refine zs_goto (tgt := 17) dX5_sweep_82 (by decide) ?_
          have eS : (zs_put u 17 0 ((u 17 0) + (1))) = m_s1 u := by
            unfold m_s1
            rw [if_neg h30, if_neg h63]
          rw [eS]
          simp only [m_swR] at hr
          simp only [m_swS] at hv
          rw [if_neg h30] at hr
          exact ih n' (by omega) (m_s1 u) (c) (j + 1) (m_s1_J hJ) (by omega) (by omega) (by omega) hv
        · refine zs_iconst (x := 0) dX5_sweep_66 (by decide) ?_
          refine zs_goto (tgt := 76) dX5_sweep_67 (by decide) ?_
          refine zs_puti (j := 14) dX5_sweep_76 rfl rfl (by decide) rfl (by decide) nX5_sweep_X5 tyX5 tyX5_ok nmX5 rfl (by decide +kernel) fX5_sweep_136 ?_
          refine zs_iinc (lv' := [some (.inr 0), some (.inl (N)), some (.inl (c)), some (.inl (j + 1))]) dX5_sweep_79 rfl (by decide) rfl ?_
          refine zs_goto (tgt := 17) dX5_sweep_82 (by decide) ?_
          have eS : (zs_put u 17 0 (0)) = m_s1 u := by
            unfold m_s1
            rw [if_neg h30, if_pos h63]
          rw [eS]
          simp only [m_swR] at hr
          simp only [m_swS] at hv
          rw [if_neg h30] at hr
          exact ih n' (by omega) (m_s1 u) (c) (j + 1) (m_s1_J hJ) (by omega) (by omega) (by omega) hv
      · refine zs_aload_n dX5_sweep_33 rfl ?_
        refine zs_aload_n dX5_sweep_34 rfl ?_
        refine zs_geti (j := 14) dX5_sweep_35 rfl rfl rfl (by decide) nX5_sweep_X5 fX5_sweep_136 ?_
        refine zs_eVv (As := [.inl (u 17 0)]) (rest := []) (q := 0) dX5_sweep_38 rfl (Nat.le_of_ble_eq_true rfl) rfl rfl YX5_tells rfl rfl (Nat.le_of_ble_eq_true rfl) gX5_sweep_X5_tells (by decide) ⟨Nat.zero_le _, Nat.zero_le _⟩ rfl (t_X5_tells (w := u) (u 17 0) (by omega) hRM) ?_
        have e17 : (m_tell u (u 17 0)) 17 0 = u 17 0 := by rw [m_tell_r u _ (by decide) (by decide) (by decide)]
        refine zs_aload_n dX5_sweep_41 rfl ?_
        refine zs_getr (j := 6) dX5_sweep_42 rfl rfl rfl (by decide) nX5_sweep_X5 fX5_sweep_25 ?_
        refine zs_aload_n dX5_sweep_45 rfl ?_
        refine zs_geti (j := 14) dX5_sweep_46 rfl rfl rfl (by decide) nX5_sweep_X5 fX5_sweep_136 ?_
        refine zs_ldc (x := -99999999) dX5_sweep_49 kX5_sweep_55 (by decide) ?_
        refine zs_iastore dX5_sweep_51 rfl (by decide) (by decide) (by omega) (by omega) ?_
        refine zs_iinc (lv' := [some (.inr 0), some (.inl (N)), some (.inl (c + 1)), some (.inl (j))]) dX5_sweep_52 rfl (by decide) rfl ?_
        have e18 : (zs_put (m_tell u (u 17 0)) 5 ((m_tell u (u 17 0)) 17 0) (-99999999)) 17 0 = u 17 0 := e17
        refine zs_aload_n dX5_sweep_55 rfl ?_
        refine zs_aload_n dX5_sweep_56 rfl ?_
        refine zs_geti (j := 14) dX5_sweep_57 rfl rfl rfl (by decide) nX5_sweep_X5 fX5_sweep_136 ?_
        refine zs_sipush (x := 199) dX5_sweep_60 (by decide) ?_
        refine zs_icmp_ne (tgt := 70) dX5_sweep_63 (by decide) (by omega) (by omega) (fun h63 => ?_) (fun h63 => ?_)
        · refine zs_aload_n dX5_sweep_70 rfl ?_
          refine zs_geti (j := 14) dX5_sweep_71 rfl rfl rfl (by decide) nX5_sweep_X5 fX5_sweep_136 ?_
          refine zs_iconst (x := 1) dX5_sweep_74 (by decide) ?_
          refine zs_iadd dX5_sweep_75 ?_
          refine zs_puti (j := 14) dX5_sweep_76 rfl rfl (by decide) rfl (by decide) nX5_sweep_X5 tyX5 tyX5_ok nmX5 rfl (by decide +kernel) fX5_sweep_136 ?_
          refine zs_iinc (lv' := [some (.inr 0), some (.inl (N)), some (.inl (c + 1)), some (.inl (j + 1))]) dX5_sweep_79 rfl (by decide) rfl ?_
          refine zs_goto (tgt := 17) dX5_sweep_82 (by decide) ?_
          have h64 : ¬ u 17 0 = 199 := by rw [← e17]; exact h63
          have eS : (zs_put (zs_put (m_tell u (u 17 0)) 5 ((m_tell u (u 17 0)) 17 0) (-99999999)) 17 0 (((zs_put (m_tell u (u 17 0)) 5 ((m_tell u (u 17 0)) 17 0) (-99999999)) 17 0) + (1))) = m_s1 u := by
            unfold m_s1
            rw [if_pos h30, if_neg h64]
            show zs_put (zs_put (m_tell u (u 17 0)) 5 ((m_tell u (u 17 0)) 17 0) (-99999999)) 17 0 ((m_tell u (u 17 0)) 17 0 + 1) = _
            rw [e17]
          rw [eS]
          simp only [m_swR] at hr
          simp only [m_swS] at hv
          rw [if_pos h30] at hr
          exact ih n' (by omega) (m_s1 u) (c + 1) (j + 1) (m_s1_J hJ) (by omega) (by omega) (by omega) hv
        · refine zs_iconst (x := 0) dX5_sweep_66 (by decide) ?_
          refine zs_goto (tgt := 76) dX5_sweep_67 (by decide) ?_
          refine zs_puti (j := 14) dX5_sweep_76 rfl rfl (by decide) rfl (by decide) nX5_sweep_X5 tyX5 tyX5_ok nmX5 rfl (by decide +kernel) fX5_sweep_136 ?_
          refine zs_iinc (lv' := [some (.inr 0), some (.inl (N)), some (.inl (c + 1)), some (.inl (j + 1))]) dX5_sweep_79 rfl (by decide) rfl ?_
          refine zs_goto (tgt := 17) dX5_sweep_82 (by decide) ?_
          have h64 : u 17 0 = 199 := by rw [← e17]; exact h63
          have eS : (zs_put (zs_put (m_tell u (u 17 0)) 5 ((m_tell u (u 17 0)) 17 0) (-99999999)) 17 0 (0)) = m_s1 u := by
            unfold m_s1
            rw [if_pos h30, if_pos h64]
            show zs_put (zs_put (m_tell u (u 17 0)) 5 ((m_tell u (u 17 0)) 17 0) (-99999999)) 17 0 0 = _
            rw [e17]
          rw [eS]
          simp only [m_swR] at hr
          simp only [m_swS] at hv
          rw [if_pos h30] at hr
          exact ih n' (by omega) (m_s1 u) (c + 1) (j + 1) (m_s1_J hJ) (by omega) (by omega) (by omega) hv
set_option maxHeartbeats 4000000 in
set_option maxRecDepth 100000 in
theorem t_X5_sweep {w : zs_V} (hJ : m_J w) (n : Int) (hn : zn n) : zs_R mX5_sweep 0 0 shM (zs_X (m_sweR w n) (m_sweS w n)) w 0 [some (.inr 0), some (.inl (n)), none, none] [] := by
  refine zs_iload_n dX5_sweep_0 rfl ?_
  refine zs_iconst (x := 1) dX5_sweep_1 (by decide) ?_
  refine zs_sipush (x := 200) dX5_sweep_2 (by decide) ?_
  refine zs_eS (As := [.inl (n), .inl (1), .inl (200)]) (rest := []) dX5_sweep_5 rfl (Nat.le_of_ble_eq_true rfl) YX5_isIn rfl (Nat.le_of_ble_eq_true rfl) gX5_sweep_X5_isIn (by decide) ⟨Nat.zero_le _, Nat.zero_le _⟩ rfl (t_X5_isIn (w := w) (n) (1) (200) (by omega) (by omega) (by omega)) ?_
  refine zs_ifz_ne (tgt := 13) dX5_sweep_8 (by decide)  (fun h8 => ?_) (fun h8 => ?_)
  · refine zs_iconst (x := 0) dX5_sweep_13 (by decide) ?_
    refine zs_istore_n (lv' := [some (.inr 0), some (.inl (n)), some (.inl (0)), none]) dX5_sweep_14 (by decide) rfl ?_
    refine zs_iconst (x := 0) dX5_sweep_15 (by decide) ?_
    refine zs_istore_n (lv' := [some (.inr 0), some (.inl (n)), some (.inl (0)), some (.inl (0))]) dX5_sweep_16 (by decide) rfl ?_
    unfold m_sweR m_sweS
    rw [if_pos h8, if_pos h8]
    exact l_X5_sweep hn n.toNat w 0 0 hJ (by omega) (by omega) (Int.zero_add _) rfl
  · refine zs_iconst (x := -1) dX5_sweep_11 (by decide) ?_
    refine zs_iret dX5_sweep_12 rfl ?_
    exact ⟨by unfold m_sweR; rw [if_neg h8], by unfold m_sweS; rw [if_neg h8]⟩

def m_U (w : zs_V) : Prop := ∀ p : Int, 0 ≤ p → p < 200 → ¬ w 5 p = -99999999 → 0 ≤ w 9 p ∧ w 9 p ≤ 1000000000
theorem m_W_end {w : zs_V} {p x : Int} (h : m_W w) (hx : 0 ≤ x ∧ x ≤ 1000100000) : m_W (zs_put w 10 p x) := fun q a b => by
  refine (h q a b).imp id (fun z => ?_)
  obtain ⟨z1, z2, z3, z4, z5⟩ := z
  refine ⟨z1, z2, z3, ?_, z5⟩
  rw [zs_put_e]
  split
  · exact hx
  · exact z4
noncomputable def m_setS (w : zs_V) (s l a : Int) : zs_V := if (0 ≤ s ∧ s < w 15 0) ∧ 1 ≤ l ∧ l ≤ 100000 then (if a = 0 then zs_put w 2 s l else m_sa s l z_Z (zs_put w 2 s l)) else w
set_option maxHeartbeats 4000000 in
set_option maxRecDepth 100000 in
theorem l_X5_setting {s l a was : Int} {v0 : zs_V} (hs : zn s ∧ ¬ s = -99999999) (hl : 1 ≤ l ∧ l ≤ 100000) (ha : ¬ a = 0 ∧ zn a) : ∀ (n : Nat) (u : zs_V) (p : Int), x_S u → m_W u → m_U u → 0 ≤ p → p + n = 200 → m_sa s l (z_fr p n) u = v0 → zs_R mX5_setting 0 0 shM (zs_X was v0) u 38 [some (.inr 0), some (.inl (s)), some (.inl (l)), some (.inl (a)), some (.inl (was)), some (.inl (p))] [] := by
  intro n
  induction n using Nat.strongRecOn with
  | ind n ih =>
    intro u p hS hW hU h0 hn hv
    refine zs_iload dX5_setting_38 rfl ?_
    refine zs_sipush (x := 200) dX5_setting_40 (by decide) ?_
    refine zs_icmp_ge (tgt := 92) dX5_setting_43 (by decide) (by omega) (by omega) (fun h43 => ?_) (fun h43 => ?_)
    · refine zs_iload dX5_setting_92 rfl ?_
      refine zs_iret dX5_setting_94 rfl ?_
      obtain rfl : n = 0 := by omega
      exact ⟨rfl, hv⟩
    · refine zs_iload_n dX5_setting_46 rfl ?_
      refine zs_if_eq (tgt := 92) dX5_setting_47 (by decide) (by omega) (fun h47 => ?_) (fun h47 => ?_)
      · exact absurd h47 ha.1
      · obtain ⟨n', rfl⟩ : ∃ n', n = n' + 1 := ⟨n - 1, by omega⟩
        have hz := m_W_z hS hW (p := p) (by omega) (by omega)
        refine zs_aload_n dX5_setting_50 rfl ?_
        refine zs_getr (j := 6) dX5_setting_51 rfl rfl rfl (by decide) nX5_setting_X5 fX5_setting_25 ?_
        refine zs_iload dX5_setting_54 rfl ?_
        refine zs_iaload dX5_setting_56 rfl (by decide) (by omega) (by omega) ?_
        refine zs_iload_n dX5_setting_57 rfl ?_
        refine zs_icmp_ne (tgt := 86) dX5_setting_58 (by decide) (by omega) (by omega) (fun h58 => ?_) (fun h58 => ?_)
        · refine zs_iinc (lv' := [some (.inr 0), some (.inl (s)), some (.inl (l)), some (.inl (a)), some (.inl (was)), some (.inl (p + 1))]) dX5_setting_86 rfl (by decide) rfl ?_
          refine zs_goto (tgt := 38) dX5_setting_89 (by decide) ?_
          simp only [z_fr, m_sa] at hv
          rw [if_neg (fun q => h58 q.1)] at hv
          exact ih n' (by omega) u (p + 1) hS hW hU (by omega) (by omega) hv
        · refine zs_aload_n dX5_setting_61 rfl ?_
          refine zs_iload dX5_setting_62 rfl ?_
          refine zs_eV (As := [.inl (p)]) (rest := []) (q := 0) dX5_setting_64 rfl (Nat.le_of_ble_eq_true rfl) rfl rfl YX5_isShown rfl rfl (Nat.le_of_ble_eq_true rfl) gX5_setting_X5_isShown (by decide) ⟨Nat.zero_le _, Nat.zero_le _⟩ rfl (t_X5_isShown (w := u) (p) (by omega) hS hW) ?_
          refine zs_ifz_eq (tgt := 86) dX5_setting_67 (by decide)  (fun h67 => ?_) (fun h67 => ?_)
          · refine zs_iinc (lv' := [some (.inr 0), some (.inl (s)), some (.inl (l)), some (.inl (a)), some (.inl (was)), some (.inl (p + 1))]) dX5_setting_86 rfl (by decide) rfl ?_
            refine zs_goto (tgt := 38) dX5_setting_89 (by decide) ?_
            simp only [z_fr, m_sa] at hv
            rw [if_neg (fun q => h67 q.2)] at hv
            exact ih n' (by omega) u (p + 1) hS hW hU (by omega) (by omega) hv
          · have hU1 := hU p (by omega) (by omega) h67.1
            refine zs_aload_n dX5_setting_70 rfl ?_
            refine zs_getr (j := 11) dX5_setting_71 rfl rfl rfl (by decide) nX5_setting_X5 fX5_setting_40 ?_
            refine zs_iload dX5_setting_74 rfl ?_
            refine zs_aload_n dX5_setting_76 rfl ?_
            refine zs_getr (j := 10) dX5_setting_77 rfl rfl rfl (by decide) nX5_setting_X5 fX5_setting_37 ?_
            refine zs_iload dX5_setting_80 rfl ?_
            refine zs_iaload dX5_setting_82 rfl (by decide) (by omega) (by omega) ?_
            refine zs_iload_n dX5_setting_83 rfl ?_
            refine zs_iadd dX5_setting_84 ?_
            refine zs_iastore dX5_setting_85 rfl (by decide) (by decide) (by omega) (by omega) ?_
            refine zs_iinc (lv' := [some (.inr 0), some (.inl (s)), some (.inl (l)), some (.inl (a)), some (.inl (was)), some (.inl (p + 1))]) dX5_setting_86 rfl (by decide) rfl ?_
            refine zs_goto (tgt := 38) dX5_setting_89 (by decide) ?_
            simp only [z_fr, m_sa] at hv
            rw [if_pos ⟨h58, h67⟩] at hv
            exact ih n' (by omega) _ (p + 1) (x_S_of rfl rfl rfl rfl rfl rfl hS) (m_W_end hW (by omega)) hU (by omega) (by omega) hv
set_option maxHeartbeats 4000000 in
set_option maxRecDepth 100000 in
theorem t_X5_setting0 {w : zs_V} (hS : x_S w) (hW : m_W w) (hU : m_U w) (s l a : Int) (hs0 : zn s) (hl : zn l) (hza : zn a) (ha0 : a = 0) : zs_R mX5_setting 0 0 shM (zs_X (x_setR w s l) (m_setS w s l a)) w 0 [some (.inr 0), some (.inl (s)), some (.inl (l)), some (.inl (a)), none, none] [] := by
  have hm := hS.2.1
  refine zs_aload_n dX5_setting_0 rfl ?_
  refine zs_iload_n dX5_setting_1 rfl ?_
  refine zs_eV (As := [.inl (s)]) (rest := []) (q := 0) dX5_setting_2 rfl (Nat.le_of_ble_eq_true rfl) rfl rfl YX5_isState rfl rfl (Nat.le_of_ble_eq_true rfl) gX5_setting_X5_isState (by decide) ⟨Nat.zero_le _, Nat.zero_le _⟩ rfl (t_X5_isState (w := w) (s) (by omega) ⟨hS.1, hS.2.1⟩) ?_
  refine zs_ifz_eq (tgt := 18) dX5_setting_5 (by decide)  (fun h5 => ?_) (fun h5 => ?_)
  · refine zs_iconst (x := -1) dX5_setting_18 (by decide) ?_
    refine zs_iret dX5_setting_19 rfl ?_
    have hc : ¬ ((0 ≤ s ∧ s < w 15 0) ∧ 1 ≤ l ∧ l ≤ 100000) := by omega
    exact ⟨by unfold x_setR; rw [if_neg hc], by unfold m_setS; rw [if_neg hc]⟩
  · refine zs_iload_n dX5_setting_8 rfl ?_
    refine zs_iconst (x := 1) dX5_setting_9 (by decide) ?_
    refine zs_ldc (x := 100000) dX5_setting_10 kX5_setting_68 (by decide) ?_
    refine zs_eS (As := [.inl (l), .inl (1), .inl (100000)]) (rest := []) dX5_setting_12 rfl (Nat.le_of_ble_eq_true rfl) YX5_isIn rfl (Nat.le_of_ble_eq_true rfl) gX5_setting_X5_isIn (by decide) ⟨Nat.zero_le _, Nat.zero_le _⟩ rfl (t_X5_isIn (w := w) (l) (1) (100000) (by omega) (by omega) (by omega)) ?_
    refine zs_ifz_ne (tgt := 20) dX5_setting_15 (by decide)  (fun h15 => ?_) (fun h15 => ?_)
    · refine zs_aload_n dX5_setting_20 rfl ?_
      refine zs_getr (j := 3) dX5_setting_21 rfl rfl rfl (by decide) nX5_setting_X5 fX5_setting_16 ?_
      refine zs_iload_n dX5_setting_24 rfl ?_
      refine zs_iaload dX5_setting_25 rfl (by decide) (by omega) (by omega) ?_
      refine zs_istore (lv' := [some (.inr 0), some (.inl (s)), some (.inl (l)), some (.inl (a)), some (.inl (w 2 (s))), none]) dX5_setting_26 (by decide) rfl ?_
      refine zs_aload_n dX5_setting_28 rfl ?_
      refine zs_getr (j := 3) dX5_setting_29 rfl rfl rfl (by decide) nX5_setting_X5 fX5_setting_16 ?_
      refine zs_iload_n dX5_setting_32 rfl ?_
      refine zs_iload_n dX5_setting_33 rfl ?_
      refine zs_iastore dX5_setting_34 rfl (by decide) (by decide) (by omega) (by omega) ?_
      refine zs_iconst (x := 0) dX5_setting_35 (by decide) ?_
      refine zs_istore (lv' := [some (.inr 0), some (.inl (s)), some (.inl (l)), some (.inl (a)), some (.inl (w 2 (s))), some (.inl (0))]) dX5_setting_36 (by decide) rfl ?_
      refine zs_iload dX5_setting_38 rfl ?_
      refine zs_sipush (x := 200) dX5_setting_40 (by decide) ?_
      refine zs_icmp_ge (tgt := 92) dX5_setting_43 (by decide) (by omega) (by omega) (fun h43 => absurd h43 (by decide)) (fun h43 => ?_)
      refine zs_iload_n dX5_setting_46 rfl ?_
      refine zs_if_eq (tgt := 92) dX5_setting_47 (by decide) (by omega) (fun h47 => ?_) (fun h47 => ?_)
      · refine zs_iload dX5_setting_92 rfl ?_
        refine zs_iret dX5_setting_94 rfl ?_
        have hc : (0 ≤ s ∧ s < w 15 0) ∧ 1 ≤ l ∧ l ≤ 100000 := by omega
        exact ⟨by unfold x_setR; rw [if_pos hc], by unfold m_setS; rw [if_pos hc, if_pos h47]⟩
      · exact absurd ha0 h47
    · refine zs_iconst (x := -1) dX5_setting_18 (by decide) ?_
      refine zs_iret dX5_setting_19 rfl ?_
      have hc : ¬ ((0 ≤ s ∧ s < w 15 0) ∧ 1 ≤ l ∧ l ≤ 100000) := by omega
      exact ⟨by unfold x_setR; rw [if_neg hc], by unfold m_setS; rw [if_neg hc]⟩
set_option maxHeartbeats 4000000 in
set_option maxRecDepth 100000 in
theorem t_X5_setting1 {w : zs_V} (hS : x_S w) (hW : m_W w) (hU : m_U w) (s l a : Int) (hs0 : zn s) (hl : zn l) (hza : zn a) (h47 : ¬ a = 0) : zs_R mX5_setting 0 0 shM (zs_X (x_setR w s l) (m_setS w s l a)) w 0 [some (.inr 0), some (.inl (s)), some (.inl (l)), some (.inl (a)), none, none] [] := by
  have hm := hS.2.1
  refine zs_aload_n dX5_setting_0 rfl ?_
  refine zs_iload_n dX5_setting_1 rfl ?_
  refine zs_eV (As := [.inl (s)]) (rest := []) (q := 0) dX5_setting_2 rfl (Nat.le_of_ble_eq_true rfl) rfl rfl YX5_isState rfl rfl (Nat.le_of_ble_eq_true rfl) gX5_setting_X5_isState (by decide) ⟨Nat.zero_le _, Nat.zero_le _⟩ rfl (t_X5_isState (w := w) (s) (by omega) ⟨hS.1, hS.2.1⟩) ?_
  refine zs_ifz_eq (tgt := 18) dX5_setting_5 (by decide)  (fun h5 => ?_) (fun h5 => ?_)
  · refine zs_iconst (x := -1) dX5_setting_18 (by decide) ?_
    refine zs_iret dX5_setting_19 rfl ?_
    have hc : ¬ ((0 ≤ s ∧ s < w 15 0) ∧ 1 ≤ l ∧ l ≤ 100000) := by omega
    exact ⟨by unfold x_setR; rw [if_neg hc], by unfold m_setS; rw [if_neg hc]⟩
  · refine zs_iload_n dX5_setting_8 rfl ?_
    refine zs_iconst (x := 1) dX5_setting_9 (by decide) ?_
    refine zs_ldc (x := 100000) dX5_setting_10 kX5_setting_68 (by decide) ?_
    refine zs_eS (As := [.inl (l), .inl (1), .inl (100000)]) (rest := []) dX5_setting_12 rfl (Nat.le_of_ble_eq_true rfl) YX5_isIn rfl (Nat.le_of_ble_eq_true rfl) gX5_setting_X5_isIn (by decide) ⟨Nat.zero_le _, Nat.zero_le _⟩ rfl (t_X5_isIn (w := w) (l) (1) (100000) (by omega) (by omega) (by omega)) ?_
    refine zs_ifz_ne (tgt := 20) dX5_setting_15 (by decide)  (fun h15 => ?_) (fun h15 => ?_)
    · refine zs_aload_n dX5_setting_20 rfl ?_
      refine zs_getr (j := 3) dX5_setting_21 rfl rfl rfl (by decide) nX5_setting_X5 fX5_setting_16 ?_
      refine zs_iload_n dX5_setting_24 rfl ?_
      refine zs_iaload dX5_setting_25 rfl (by decide) (by omega) (by omega) ?_
      refine zs_istore (lv' := [some (.inr 0), some (.inl (s)), some (.inl (l)), some (.inl (a)), some (.inl (w 2 (s))), none]) dX5_setting_26 (by decide) rfl ?_
      refine zs_aload_n dX5_setting_28 rfl ?_
      refine zs_getr (j := 3) dX5_setting_29 rfl rfl rfl (by decide) nX5_setting_X5 fX5_setting_16 ?_
      refine zs_iload_n dX5_setting_32 rfl ?_
      refine zs_iload_n dX5_setting_33 rfl ?_
      refine zs_iastore dX5_setting_34 rfl (by decide) (by decide) (by omega) (by omega) ?_
      refine zs_iconst (x := 0) dX5_setting_35 (by decide) ?_
      refine zs_istore (lv' := [some (.inr 0), some (.inl (s)), some (.inl (l)), some (.inl (a)), some (.inl (w 2 (s))), some (.inl (0))]) dX5_setting_36 (by decide) rfl ?_
      have hc : (0 ≤ s ∧ s < w 15 0) ∧ 1 ≤ l ∧ l ≤ 100000 := by omega
      unfold x_setR m_setS
      rw [if_pos hc, if_pos hc, if_neg h47]
      exact l_X5_setting (by omega) hc.2 ⟨h47, hza⟩ 200 (zs_put w 2 s l) 0 (x_set_S hS hc.2) hW hU (by omega) (by omega) rfl
    · refine zs_iconst (x := -1) dX5_setting_18 (by decide) ?_
      refine zs_iret dX5_setting_19 rfl ?_
      have hc : ¬ ((0 ≤ s ∧ s < w 15 0) ∧ 1 ≤ l ∧ l ≤ 100000) := by omega
      exact ⟨by unfold x_setR; rw [if_neg hc], by unfold m_setS; rw [if_neg hc]⟩
set_option maxHeartbeats 4000000 in
set_option maxRecDepth 100000 in
theorem t_X5_isAhead {w : zs_V} (p q : Int) (hp : 0 ≤ p ∧ p < 200) (hq : 0 ≤ q ∧ q < 200) (hm : w 15 0 ≤ 6) (hP : m_P w p) (hQ : m_P w q) : zs_R mX5_isAhead 0 0 shM (zs_X (zb (m_ah w p q)) w) w 0 [some (.inr 0), some (.inl (p)), some (.inl (q))] [] := by
  obtain ⟨a1, a2, a3, -, a5⟩ := hP
  obtain ⟨b1, b2, b3, -, b5⟩ := hQ
  refine zs_aload_n dX5_isAhead_0 rfl ?_
  refine zs_getr (j := 6) dX5_isAhead_1 rfl rfl rfl (by decide) nX5_isAhead_X5 fX5_isAhead_25 ?_
  refine zs_iload_n dX5_isAhead_4 rfl ?_
  refine zs_iaload dX5_isAhead_5 rfl (by decide) (by omega) (by omega) ?_
  refine zs_aload_n dX5_isAhead_6 rfl ?_
  refine zs_getr (j := 6) dX5_isAhead_7 rfl rfl rfl (by decide) nX5_isAhead_X5 fX5_isAhead_25 ?_
  refine zs_iload_n dX5_isAhead_10 rfl ?_
  refine zs_iaload dX5_isAhead_11 rfl (by decide) (by omega) (by omega) ?_
  refine zs_icmp_eq (tgt := 36) dX5_isAhead_12 (by decide) (by omega) (by omega) (fun h12 => ?_) (fun h12 => ?_)
  · refine zs_aload_n dX5_isAhead_36 rfl ?_
    refine zs_getr (j := 7) dX5_isAhead_37 rfl rfl rfl (by decide) nX5_isAhead_X5 fX5_isAhead_28 ?_
    refine zs_iload_n dX5_isAhead_40 rfl ?_
    refine zs_iaload dX5_isAhead_41 rfl (by decide) (by omega) (by omega) ?_
    refine zs_aload_n dX5_isAhead_42 rfl ?_
    refine zs_getr (j := 7) dX5_isAhead_43 rfl rfl rfl (by decide) nX5_isAhead_X5 fX5_isAhead_28 ?_
    refine zs_iload_n dX5_isAhead_46 rfl ?_
    refine zs_iaload dX5_isAhead_47 rfl (by decide) (by omega) (by omega) ?_
    refine zs_icmp_eq (tgt := 72) dX5_isAhead_48 (by decide) (by omega) (by omega) (fun h48 => ?_) (fun h48 => ?_)
    · refine zs_aload_n dX5_isAhead_72 rfl ?_
      refine zs_getr (j := 8) dX5_isAhead_73 rfl rfl rfl (by decide) nX5_isAhead_X5 fX5_isAhead_31 ?_
      refine zs_iload_n dX5_isAhead_76 rfl ?_
      refine zs_iaload dX5_isAhead_77 rfl (by decide) (by omega) (by omega) ?_
      refine zs_aload_n dX5_isAhead_78 rfl ?_
      refine zs_getr (j := 8) dX5_isAhead_79 rfl rfl rfl (by decide) nX5_isAhead_X5 fX5_isAhead_31 ?_
      refine zs_iload_n dX5_isAhead_82 rfl ?_
      refine zs_iaload dX5_isAhead_83 rfl (by decide) (by omega) (by omega) ?_
      refine zs_icmp_eq (tgt := 108) dX5_isAhead_84 (by decide) (by omega) (by omega) (fun h84 => ?_) (fun h84 => ?_)
      · refine zs_aload_n dX5_isAhead_108 rfl ?_
        refine zs_getr (j := 12) dX5_isAhead_109 rfl rfl rfl (by decide) nX5_isAhead_X5 fX5_isAhead_43 ?_
        refine zs_iload_n dX5_isAhead_112 rfl ?_
        refine zs_iaload dX5_isAhead_113 rfl (by decide) (by omega) (by omega) ?_
        refine zs_aload_n dX5_isAhead_114 rfl ?_
        refine zs_getr (j := 12) dX5_isAhead_115 rfl rfl rfl (by decide) nX5_isAhead_X5 fX5_isAhead_43 ?_
        refine zs_iload_n dX5_isAhead_118 rfl ?_
        refine zs_iaload dX5_isAhead_119 rfl (by decide) (by omega) (by omega) ?_
        refine zs_icmp_ge (tgt := 127) dX5_isAhead_120 (by decide) (by omega) (by omega) (fun h120 => ?_) (fun h120 => ?_)
        · refine zs_iconst (x := 0) dX5_isAhead_127 (by decide) ?_
          refine zs_zret dX5_isAhead_128 rfl (by first | omega | (split <;> omega)) ?_
          exact ⟨(zb_n (by omega)).symm, rfl⟩
        · refine zs_iconst (x := 1) dX5_isAhead_123 (by decide) ?_
          refine zs_goto (tgt := 128) dX5_isAhead_124 (by decide) ?_
          refine zs_zret dX5_isAhead_128 rfl (by first | omega | (split <;> omega)) ?_
          exact ⟨(zb_p (by omega)).symm, rfl⟩
      · refine zs_aload_n dX5_isAhead_87 rfl ?_
        refine zs_getr (j := 8) dX5_isAhead_88 rfl rfl rfl (by decide) nX5_isAhead_X5 fX5_isAhead_31 ?_
        refine zs_iload_n dX5_isAhead_91 rfl ?_
        refine zs_iaload dX5_isAhead_92 rfl (by decide) (by omega) (by omega) ?_
        refine zs_aload_n dX5_isAhead_93 rfl ?_
        refine zs_getr (j := 8) dX5_isAhead_94 rfl rfl rfl (by decide) nX5_isAhead_X5 fX5_isAhead_31 ?_
        refine zs_iload_n dX5_isAhead_97 rfl ?_
        refine zs_iaload dX5_isAhead_98 rfl (by decide) (by omega) (by omega) ?_
        refine zs_icmp_ge (tgt := 106) dX5_isAhead_99 (by decide) (by omega) (by omega) (fun h99 => ?_) (fun h99 => ?_)
        · refine zs_iconst (x := 0) dX5_isAhead_106 (by decide) ?_
          refine zs_zret dX5_isAhead_107 rfl (by first | omega | (split <;> omega)) ?_
          exact ⟨(zb_n (by omega)).symm, rfl⟩
        · refine zs_iconst (x := 1) dX5_isAhead_102 (by decide) ?_
          refine zs_goto (tgt := 107) dX5_isAhead_103 (by decide) ?_
          refine zs_zret dX5_isAhead_107 rfl (by first | omega | (split <;> omega)) ?_
          exact ⟨(zb_p (by omega)).symm, rfl⟩
    · refine zs_aload_n dX5_isAhead_51 rfl ?_
      refine zs_getr (j := 7) dX5_isAhead_52 rfl rfl rfl (by decide) nX5_isAhead_X5 fX5_isAhead_28 ?_
      refine zs_iload_n dX5_isAhead_55 rfl ?_
      refine zs_iaload dX5_isAhead_56 rfl (by decide) (by omega) (by omega) ?_
      refine zs_aload_n dX5_isAhead_57 rfl ?_
      refine zs_getr (j := 7) dX5_isAhead_58 rfl rfl rfl (by decide) nX5_isAhead_X5 fX5_isAhead_28 ?_
      refine zs_iload_n dX5_isAhead_61 rfl ?_
      refine zs_iaload dX5_isAhead_62 rfl (by decide) (by omega) (by omega) ?_
      refine zs_icmp_ge (tgt := 70) dX5_isAhead_63 (by decide) (by omega) (by omega) (fun h63 => ?_) (fun h63 => ?_)
      · refine zs_iconst (x := 0) dX5_isAhead_70 (by decide) ?_
        refine zs_zret dX5_isAhead_71 rfl (by first | omega | (split <;> omega)) ?_
        exact ⟨(zb_n (by omega)).symm, rfl⟩
      · refine zs_iconst (x := 1) dX5_isAhead_66 (by decide) ?_
        refine zs_goto (tgt := 71) dX5_isAhead_67 (by decide) ?_
        refine zs_zret dX5_isAhead_71 rfl (by first | omega | (split <;> omega)) ?_
        exact ⟨(zb_p (by omega)).symm, rfl⟩
  · refine zs_aload_n dX5_isAhead_15 rfl ?_
    refine zs_getr (j := 6) dX5_isAhead_16 rfl rfl rfl (by decide) nX5_isAhead_X5 fX5_isAhead_25 ?_
    refine zs_iload_n dX5_isAhead_19 rfl ?_
    refine zs_iaload dX5_isAhead_20 rfl (by decide) (by omega) (by omega) ?_
    refine zs_aload_n dX5_isAhead_21 rfl ?_
    refine zs_getr (j := 6) dX5_isAhead_22 rfl rfl rfl (by decide) nX5_isAhead_X5 fX5_isAhead_25 ?_
    refine zs_iload_n dX5_isAhead_25 rfl ?_
    refine zs_iaload dX5_isAhead_26 rfl (by decide) (by omega) (by omega) ?_
    refine zs_icmp_ge (tgt := 34) dX5_isAhead_27 (by decide) (by omega) (by omega) (fun h27 => ?_) (fun h27 => ?_)
    · refine zs_iconst (x := 0) dX5_isAhead_34 (by decide) ?_
      refine zs_zret dX5_isAhead_35 rfl (by first | omega | (split <;> omega)) ?_
      exact ⟨(zb_n (by omega)).symm, rfl⟩
    · refine zs_iconst (x := 1) dX5_isAhead_30 (by decide) ?_
      refine zs_goto (tgt := 35) dX5_isAhead_31 (by decide) ?_
      refine zs_zret dX5_isAhead_35 rfl (by first | omega | (split <;> omega)) ?_
      exact ⟨(zb_p (by omega)).symm, rfl⟩
set_option maxHeartbeats 4000000 in
set_option maxRecDepth 100000 in
theorem l_X5_nextKept {w : zs_V} {b r0 : Int} (hS : x_S w) (hW : m_W w) (hb : m_V w b) : ∀ (n : Nat) (p a : Int), 0 ≤ p → p + n = 200 → m_V w a → m_nk w b (z_fr p n) a = r0 → zs_R mX5_nextKept 0 0 shM (zs_X r0 w) w 5 [some (.inr 0), some (.inl (b)), some (.inl (a)), some (.inl (p))] [] := by
  have hbz := m_V_b hb
  intro n
  induction n using Nat.strongRecOn with
  | ind n ih =>
    intro p a h0 hn ha hr
    refine zs_iload_n dX5_nextKept_5 rfl ?_
    refine zs_sipush (x := 200) dX5_nextKept_6 (by decide) ?_
    refine zs_icmp_ge (tgt := 58) dX5_nextKept_9 (by decide) (by omega) (by omega) (fun h9 => ?_) (fun h9 => ?_)
    · refine zs_iload_n dX5_nextKept_58 rfl ?_
      refine zs_iret dX5_nextKept_59 rfl ?_
      obtain rfl : n = 0 := by omega
      exact ⟨hr, rfl⟩
    · obtain ⟨n', rfl⟩ : ∃ n', n = n' + 1 := ⟨n - 1, by omega⟩
      have hz := m_W_z hS hW (p := p) (by omega) (by omega)
      have haz := m_V_b ha
      refine zs_aload_n dX5_nextKept_12 rfl ?_
      refine zs_iload_n dX5_nextKept_13 rfl ?_
      refine zs_eV (As := [.inl (p)]) (rest := []) (q := 0) dX5_nextKept_14 rfl (Nat.le_of_ble_eq_true rfl) rfl rfl YX5_isShown rfl rfl (Nat.le_of_ble_eq_true rfl) gX5_nextKept_X5_isShown (by decide) ⟨Nat.zero_le _, Nat.zero_le _⟩ rfl (t_X5_isShown (w := w) (p) (by omega) hS hW) ?_
      refine zs_ifz_eq (tgt := 52) dX5_nextKept_17 (by decide)  (fun h17 => ?_) (fun h17 => ?_)
      · refine zs_iinc (lv' := [some (.inr 0), some (.inl (b)), some (.inl (a)), some (.inl (p + 1))]) dX5_nextKept_52 rfl (by decide) rfl ?_
        refine zs_goto (tgt := 5) dX5_nextKept_55 (by decide) ?_
        simp only [z_fr, m_nk] at hr
        rw [if_neg (fun q => h17 q.1)] at hr
        exact ih n' (by omega) (p + 1) (a) (by omega) (by omega) (ha) hr
      · have hP := (hW p (by omega) (by omega)).resolve_left h17.1
        refine zs_iload_n dX5_nextKept_20 rfl ?_
        refine zs_ldc (x := -99999999) dX5_nextKept_21 kX5_nextKept_55 (by decide) ?_
        refine zs_icmp_eq (tgt := 35) dX5_nextKept_23 (by decide) (by omega) (by omega) (fun h23 => ?_) (fun h23 => ?_)
        · refine zs_iload_n dX5_nextKept_35 rfl ?_
          refine zs_ldc (x := -99999999) dX5_nextKept_36 kX5_nextKept_55 (by decide) ?_
          refine zs_icmp_eq (tgt := 50) dX5_nextKept_38 (by decide) (by omega) (by omega) (fun h38 => ?_) (fun h38 => ?_)
          · refine zs_iload_n dX5_nextKept_50 rfl ?_
            refine zs_istore_n (lv' := [some (.inr 0), some (.inl (b)), some (.inl (p)), some (.inl (p))]) dX5_nextKept_51 (by decide) rfl ?_
            refine zs_iinc (lv' := [some (.inr 0), some (.inl (b)), some (.inl (p)), some (.inl (p + 1))]) dX5_nextKept_52 rfl (by decide) rfl ?_
            refine zs_goto (tgt := 5) dX5_nextKept_55 (by decide) ?_
            simp only [z_fr, m_nk] at hr
            rw [if_pos ⟨h17, Or.inl h23, Or.inl h38⟩] at hr
            exact ih n' (by omega) (p + 1) (p) (by omega) (by omega) (Or.inr ⟨h0, by omega, hP⟩) hr
          · refine zs_aload_n dX5_nextKept_41 rfl ?_
            refine zs_iload_n dX5_nextKept_42 rfl ?_
            refine zs_iload_n dX5_nextKept_43 rfl ?_
            refine zs_eV (As := [.inl (p), .inl (a)]) (rest := []) (q := 0) dX5_nextKept_44 rfl (Nat.le_of_ble_eq_true rfl) rfl rfl YX5_isAhead rfl rfl (Nat.le_of_ble_eq_true rfl) gX5_nextKept_X5_isAhead (by decide) ⟨Nat.zero_le _, Nat.zero_le _⟩ rfl (t_X5_isAhead (w := w) (p) (a) (by omega) ⟨(ha.resolve_left h38).1, (ha.resolve_left h38).2.1⟩ hS.2.1 hP (ha.resolve_left h38).2.2) ?_
            refine zs_ifz_eq (tgt := 52) dX5_nextKept_47 (by decide)  (fun h47 => ?_) (fun h47 => ?_)
            · refine zs_iinc (lv' := [some (.inr 0), some (.inl (b)), some (.inl (a)), some (.inl (p + 1))]) dX5_nextKept_52 rfl (by decide) rfl ?_
              refine zs_goto (tgt := 5) dX5_nextKept_55 (by decide) ?_
              simp only [z_fr, m_nk] at hr
              rw [if_neg (fun q => q.2.2.elim h38 h47)] at hr
              exact ih n' (by omega) (p + 1) (a) (by omega) (by omega) (ha) hr
            · refine zs_iload_n dX5_nextKept_50 rfl ?_
              refine zs_istore_n (lv' := [some (.inr 0), some (.inl (b)), some (.inl (p)), some (.inl (p))]) dX5_nextKept_51 (by decide) rfl ?_
              refine zs_iinc (lv' := [some (.inr 0), some (.inl (b)), some (.inl (p)), some (.inl (p + 1))]) dX5_nextKept_52 rfl (by decide) rfl ?_
              refine zs_goto (tgt := 5) dX5_nextKept_55 (by decide) ?_
              simp only [z_fr, m_nk] at hr
              rw [if_pos ⟨h17, Or.inl h23, Or.inr h47⟩] at hr
              exact ih n' (by omega) (p + 1) (p) (by omega) (by omega) (Or.inr ⟨h0, by omega, hP⟩) hr
        · refine zs_aload_n dX5_nextKept_26 rfl ?_
          refine zs_iload_n dX5_nextKept_27 rfl ?_
          refine zs_iload_n dX5_nextKept_28 rfl ?_
          refine zs_eV (As := [.inl (b), .inl (p)]) (rest := []) (q := 0) dX5_nextKept_29 rfl (Nat.le_of_ble_eq_true rfl) rfl rfl YX5_isAhead rfl rfl (Nat.le_of_ble_eq_true rfl) gX5_nextKept_X5_isAhead (by decide) ⟨Nat.zero_le _, Nat.zero_le _⟩ rfl (t_X5_isAhead (w := w) (b) (p) ⟨(hb.resolve_left h23).1, (hb.resolve_left h23).2.1⟩ (by omega) hS.2.1 (hb.resolve_left h23).2.2 hP) ?_
          refine zs_ifz_eq (tgt := 52) dX5_nextKept_32 (by decide)  (fun h32 => ?_) (fun h32 => ?_)
          · refine zs_iinc (lv' := [some (.inr 0), some (.inl (b)), some (.inl (a)), some (.inl (p + 1))]) dX5_nextKept_52 rfl (by decide) rfl ?_
            refine zs_goto (tgt := 5) dX5_nextKept_55 (by decide) ?_
            simp only [z_fr, m_nk] at hr
            rw [if_neg (fun q => q.2.1.elim h23 h32)] at hr
            exact ih n' (by omega) (p + 1) (a) (by omega) (by omega) (ha) hr
          · refine zs_iload_n dX5_nextKept_35 rfl ?_
            refine zs_ldc (x := -99999999) dX5_nextKept_36 kX5_nextKept_55 (by decide) ?_
            refine zs_icmp_eq (tgt := 50) dX5_nextKept_38 (by decide) (by omega) (by omega) (fun h38 => ?_) (fun h38 => ?_)
            · refine zs_iload_n dX5_nextKept_50 rfl ?_
              refine zs_istore_n (lv' := [some (.inr 0), some (.inl (b)), some (.inl (p)), some (.inl (p))]) dX5_nextKept_51 (by decide) rfl ?_
              refine zs_iinc (lv' := [some (.inr 0), some (.inl (b)), some (.inl (p)), some (.inl (p + 1))]) dX5_nextKept_52 rfl (by decide) rfl ?_
              refine zs_goto (tgt := 5) dX5_nextKept_55 (by decide) ?_
              simp only [z_fr, m_nk] at hr
              rw [if_pos ⟨h17, Or.inr h32, Or.inl h38⟩] at hr
              exact ih n' (by omega) (p + 1) (p) (by omega) (by omega) (Or.inr ⟨h0, by omega, hP⟩) hr
            · refine zs_aload_n dX5_nextKept_41 rfl ?_
              refine zs_iload_n dX5_nextKept_42 rfl ?_
              refine zs_iload_n dX5_nextKept_43 rfl ?_
              refine zs_eV (As := [.inl (p), .inl (a)]) (rest := []) (q := 0) dX5_nextKept_44 rfl (Nat.le_of_ble_eq_true rfl) rfl rfl YX5_isAhead rfl rfl (Nat.le_of_ble_eq_true rfl) gX5_nextKept_X5_isAhead (by decide) ⟨Nat.zero_le _, Nat.zero_le _⟩ rfl (t_X5_isAhead (w := w) (p) (a) (by omega) ⟨(ha.resolve_left h38).1, (ha.resolve_left h38).2.1⟩ hS.2.1 hP (ha.resolve_left h38).2.2) ?_
              refine zs_ifz_eq (tgt := 52) dX5_nextKept_47 (by decide)  (fun h47 => ?_) (fun h47 => ?_)
              · refine zs_iinc (lv' := [some (.inr 0), some (.inl (b)), some (.inl (a)), some (.inl (p + 1))]) dX5_nextKept_52 rfl (by decide) rfl ?_
                refine zs_goto (tgt := 5) dX5_nextKept_55 (by decide) ?_
                simp only [z_fr, m_nk] at hr
                rw [if_neg (fun q => q.2.2.elim h38 h47)] at hr
                exact ih n' (by omega) (p + 1) (a) (by omega) (by omega) (ha) hr
              · refine zs_iload_n dX5_nextKept_50 rfl ?_
                refine zs_istore_n (lv' := [some (.inr 0), some (.inl (b)), some (.inl (p)), some (.inl (p))]) dX5_nextKept_51 (by decide) rfl ?_
                refine zs_iinc (lv' := [some (.inr 0), some (.inl (b)), some (.inl (p)), some (.inl (p + 1))]) dX5_nextKept_52 rfl (by decide) rfl ?_
                refine zs_goto (tgt := 5) dX5_nextKept_55 (by decide) ?_
                simp only [z_fr, m_nk] at hr
                rw [if_pos ⟨h17, Or.inr h32, Or.inr h47⟩] at hr
                exact ih n' (by omega) (p + 1) (p) (by omega) (by omega) (Or.inr ⟨h0, by omega, hP⟩) hr
set_option maxHeartbeats 4000000 in
set_option maxRecDepth 100000 in
theorem t_X5_nextKept {w : zs_V} (b : Int) (hS : x_S w) (hW : m_W w) (hb : m_V w b) : zs_R mX5_nextKept 0 0 shM (zs_X (m_nk w b z_Z (-99999999)) w) w 0 [some (.inr 0), some (.inl (b)), none, none] [] := by
  refine zs_ldc (x := -99999999) dX5_nextKept_0 kX5_nextKept_55 (by decide) ?_
  refine zs_istore_n (lv' := [some (.inr 0), some (.inl (b)), some (.inl (-99999999)), none]) dX5_nextKept_2 (by decide) rfl ?_
  refine zs_iconst (x := 0) dX5_nextKept_3 (by decide) ?_
  refine zs_istore_n (lv' := [some (.inr 0), some (.inl (b)), some (.inl (-99999999)), some (.inl (0))]) dX5_nextKept_4 (by decide) rfl ?_
  exact l_X5_nextKept hS hW hb 200 0 (-99999999) (by omega) (by omega) (Or.inl rfl) rfl

def m_me (w : zs_V) (m i p : Int) : zs_V := zs_put (zs_put (zs_put (zs_put (zs_put w 14 (1000 * m + 5 * i) (w 5 p)) 14 (1000 * m + 5 * i + 1) (w 6 p)) 14 (1000 * m + 5 * i + 2) (w 7 p)) 14 (1000 * m + 5 * i + 3) (w 8 p)) 14 (1000 * m + 5 * i + 4) (w 10 p - m_clk w p)
def m_mk (m : Int) : List Int → Int → zs_V → zs_V
  | [], _, w => w
  | p :: K, i, w => m_mk m K (i + 1) (m_me w m i p)
/-- what nextKept answers, one behind the other -/
def m_Ch (w : zs_V) : Int → List Int → Prop
  | b, [] => m_nk w b z_Z (-99999999) = -99999999
  | b, p :: K => m_nk w b z_Z (-99999999) = p ∧ (0 ≤ p ∧ p < 200) ∧ m_P w p ∧ m_Ch w p K
theorem m_nk_of {u w : zs_V} (h : ∀ r, r ≠ 14 → u r = w r) (b : Int) (L : List Int) : ∀ a, m_nk u b L a = m_nk w b L a := by
  induction L with
  | nil => intro a; rfl
  | cons p ps ih =>
    intro a
    simp only [m_nk]
    rw [ih]
    have e1 : m_sh u p = m_sh w p := by
      unfold m_sh m_clk
      rw [h 5 (by decide), h 10 (by decide), h 4 (by decide), h 1 (by decide)]
    have e2 : ∀ x y, m_ah u x y = m_ah w x y := fun x y => by
      unfold m_ah
      rw [h 5 (by decide), h 6 (by decide), h 7 (by decide), h 11 (by decide)]
    simp only [e1, e2]
theorem m_S14 {u w : zs_V} (h : ∀ r, r ≠ 14 → u r = w r) (hS : x_S w) : x_S u := x_S_of (h 0 (by decide)) (h 1 (by decide)) (h 2 (by decide)) (h 3 (by decide)) (h 4 (by decide)) (h 15 (by decide)) hS
theorem m_W14 {u w : zs_V} (h : ∀ r, r ≠ 14 → u r = w r) (hW : m_W w) : m_W u := m_W_of (h 5 (by decide)) (h 6 (by decide)) (h 7 (by decide)) (h 10 (by decide)) (h 11 (by decide)) (h 15 (by decide)) hW
theorem m_P14 {u w : zs_V} {p : Int} (h : ∀ r, r ≠ 14 → u r = w r) (hP : m_P w p) : m_P u p := m_P_of (by rw [h 5 (by decide)]) (by rw [h 6 (by decide)]) (by rw [h 7 (by decide)]) (by rw [h 10 (by decide)]) (by rw [h 11 (by decide)]) (by rw [h 15 (by decide)]) hP
theorem m_me_14 {u w : zs_V} (m i p : Int) (h : ∀ r, r ≠ 14 → u r = w r) : ∀ r, r ≠ 14 → m_me u m i p r = w r := fun r hr => by
  unfold m_me
  rw [zs_put_r _ _ _ _ hr, zs_put_r _ _ _ _ hr, zs_put_r _ _ _ _ hr, zs_put_r _ _ _ _ hr, zs_put_r _ _ _ _ hr]
  exact h r hr
noncomputable def m_markR (m : Int) (K : List Int) : Int := if 0 ≤ m ∧ m < 3 then (K.length : Int) else -1
noncomputable def m_markS (w : zs_V) (m : Int) (K : List Int) : zs_V := if 0 ≤ m ∧ m < 3 then zs_put (m_mk m K 0 w) 13 m (K.length : Int) else w
set_option maxHeartbeats 4000000 in
set_option maxRecDepth 100000 in
theorem l_X5_mark {w : zs_V} {m : Int} (hm : 0 ≤ m ∧ m < 3) (hS0 : x_S w) (hW0 : m_W w) : ∀ (K : List Int) (u : zs_V) (b i : Int) (x4 : Option zs_A), (∀ r, r ≠ 14 → u r = w r) → m_Ch w b K → 0 ≤ i → i + K.length ≤ 200 → zs_R mX5_mark 0 0 shM (zs_X (i + K.length) (zs_put (m_mk m K i u) 13 m (i + K.length))) u 20 [some (.inr 0), some (.inl m), some (.inl i), some (.inl (m_nk w b z_Z (-99999999))), x4] [] := by
  intro K
  induction K with
  | nil =>
    intro u b i x4 h14 hc h0 hi
    have hc : m_nk w b z_Z (-99999999) = -99999999 := hc
    rw [hc]
    have ei : i + (([] : List Int).length : Int) = i := by simp
    rw [ei]
    refine zs_iload_n dX5_mark_20 rfl ?_
    refine zs_ldc (x := -99999999) dX5_mark_21 kX5_mark_55 (by decide) ?_
    refine zs_icmp_eq (tgt := 128) dX5_mark_23 (by decide) (by omega) (by omega) (fun h23 => ?_) (fun h23 => absurd h23 (by decide))
    refine zs_aload_n dX5_mark_128 rfl ?_
    refine zs_getr (j := 18) dX5_mark_129 rfl rfl rfl (by decide) nX5_mark_X5 fX5_mark_49 ?_
    refine zs_iload_n dX5_mark_132 rfl ?_
    refine zs_iload_n dX5_mark_133 rfl ?_
    refine zs_iastore dX5_mark_134 rfl (by decide) (by decide) (by omega) (by omega) ?_
    refine zs_iload_n dX5_mark_135 rfl ?_
    refine zs_iret dX5_mark_136 rfl ?_
    exact ⟨rfl, rfl⟩
  | cons p K ih =>
    intro u b i x4 h14 hc h0 hi
    obtain ⟨hc1, hc2, hc3, hc4⟩ := hc
    rw [hc1]
    have hl : ((p :: K).length : Int) = K.length + 1 := by simp
    have hS := m_S14 h14 hS0
    have hW := m_W14 h14 hW0
    have hP0 := m_P14 h14 hc3
    refine zs_iload_n dX5_mark_20 rfl ?_
    refine zs_ldc (x := -99999999) dX5_mark_21 kX5_mark_55 (by decide) ?_
    refine zs_icmp_eq (tgt := 128) dX5_mark_23 (by decide) (by omega) (by omega) (fun h23 => ?_) (fun h23 => ?_)
    · exact absurd h23 (by omega)
    · refine zs_sipush (x := 1000) dX5_mark_26 (by decide) ?_
      refine zs_iload_n dX5_mark_29 rfl ?_
      refine zs_imul dX5_mark_30 ?_
      refine zs_iconst (x := 5) dX5_mark_31 (by decide) ?_
      refine zs_iload_n dX5_mark_32 rfl ?_
      refine zs_imul dX5_mark_33 ?_
      refine zs_iadd dX5_mark_34 ?_
      refine zs_istore (lv' := [some (.inr 0), some (.inl (m)), some (.inl (i)), some (.inl (p)), some (.inl (((1000) * (m)) + ((5) * (i))))]) dX5_mark_35 (by decide) rfl ?_
      refine zs_aload_n dX5_mark_37 rfl ?_
      refine zs_getr (j := 19) dX5_mark_38 rfl rfl rfl (by decide) nX5_mark_X5 fX5_mark_52 ?_
      refine zs_iload dX5_mark_41 rfl ?_
      refine zs_aload_n dX5_mark_43 rfl ?_
      refine zs_getr (j := 6) dX5_mark_44 rfl rfl rfl (by decide) nX5_mark_X5 fX5_mark_25 ?_
      refine zs_iload_n dX5_mark_47 rfl ?_
      refine zs_iaload dX5_mark_48 rfl (by decide) (by omega) (by omega) ?_
      refine zs_iastore dX5_mark_49 rfl (by decide) (by decide) (by omega) (by omega) ?_
      refine zs_aload_n dX5_mark_50 rfl ?_
      refine zs_getr (j := 19) dX5_mark_51 rfl rfl rfl (by decide) nX5_mark_X5 fX5_mark_52 ?_
      refine zs_iload dX5_mark_54 rfl ?_
      refine zs_iconst (x := 1) dX5_mark_56 (by decide) ?_
      refine zs_iadd dX5_mark_57 ?_
      refine zs_aload_n dX5_mark_58 rfl ?_
      refine zs_getr (j := 7) dX5_mark_59 rfl rfl rfl (by decide) nX5_mark_X5 fX5_mark_28 ?_
      refine zs_iload_n dX5_mark_62 rfl ?_
      refine zs_iaload dX5_mark_63 rfl (by decide) (by omega) (by omega) ?_
      refine zs_iastore dX5_mark_64 rfl (by decide) (by decide) (by omega) (by omega) ?_
      refine zs_aload_n dX5_mark_65 rfl ?_
      refine zs_getr (j := 19) dX5_mark_66 rfl rfl rfl (by decide) nX5_mark_X5 fX5_mark_52 ?_
      refine zs_iload dX5_mark_69 rfl ?_
      refine zs_iconst (x := 2) dX5_mark_71 (by decide) ?_
      refine zs_iadd dX5_mark_72 ?_
      refine zs_aload_n dX5_mark_73 rfl ?_
      refine zs_getr (j := 8) dX5_mark_74 rfl rfl rfl (by decide) nX5_mark_X5 fX5_mark_31 ?_
      refine zs_iload_n dX5_mark_77 rfl ?_
      refine zs_iaload dX5_mark_78 rfl (by decide) (by omega) (by omega) ?_
      refine zs_iastore dX5_mark_79 rfl (by decide) (by decide) (by omega) (by omega) ?_
      refine zs_aload_n dX5_mark_80 rfl ?_
      refine zs_getr (j := 19) dX5_mark_81 rfl rfl rfl (by decide) nX5_mark_X5 fX5_mark_52 ?_
      refine zs_iload dX5_mark_84 rfl ?_
      refine zs_iconst (x := 3) dX5_mark_86 (by decide) ?_
      refine zs_iadd dX5_mark_87 ?_
      refine zs_aload_n dX5_mark_88 rfl ?_
      refine zs_getr (j := 9) dX5_mark_89 rfl rfl rfl (by decide) nX5_mark_X5 fX5_mark_34 ?_
      refine zs_iload_n dX5_mark_92 rfl ?_
      refine zs_iaload dX5_mark_93 rfl (by decide) (by omega) (by omega) ?_
      refine zs_iastore dX5_mark_94 rfl (by decide) (by decide) (by omega) (by omega) ?_
      refine zs_aload_n dX5_mark_95 rfl ?_
      refine zs_getr (j := 19) dX5_mark_96 rfl rfl rfl (by decide) nX5_mark_X5 fX5_mark_52 ?_
      refine zs_iload dX5_mark_99 rfl ?_
      refine zs_iconst (x := 4) dX5_mark_101 (by decide) ?_
      refine zs_iadd dX5_mark_102 ?_
      refine zs_aload_n dX5_mark_103 rfl ?_
      refine zs_getr (j := 11) dX5_mark_104 rfl rfl rfl (by decide) nX5_mark_X5 fX5_mark_40 ?_
      refine zs_iload_n dX5_mark_107 rfl ?_
      refine zs_iaload dX5_mark_108 rfl (by decide) (by omega) (by omega) ?_
      refine zs_aload_n dX5_mark_109 rfl ?_
      refine zs_iload_n dX5_mark_110 rfl ?_
      have hSv : x_S (zs_put (zs_put (zs_put (zs_put u 14 (((1000) * (m)) + ((5) * (i))) (u 5 (p))) 14 ((((1000) * (m)) + ((5) * (i))) + (1)) ((zs_put u 14 (((1000) * (m)) + ((5) * (i))) (u 5 (p))) 6 (p))) 14 ((((1000) * (m)) + ((5) * (i))) + (2)) ((zs_put (zs_put u 14 (((1000) * (m)) + ((5) * (i))) (u 5 (p))) 14 ((((1000) * (m)) + ((5) * (i))) + (1)) ((zs_put u 14 (((1000) * (m)) + ((5) * (i))) (u 5 (p))) 6 (p))) 7 (p))) 14 ((((1000) * (m)) + ((5) * (i))) + (3)) ((zs_put (zs_put (zs_put u 14 (((1000) * (m)) + ((5) * (i))) (u 5 (p))) 14 ((((1000) * (m)) + ((5) * (i))) + (1)) ((zs_put u 14 (((1000) * (m)) + ((5) * (i))) (u 5 (p))) 6 (p))) 14 ((((1000) * (m)) + ((5) * (i))) + (2)) ((zs_put (zs_put u 14 (((1000) * (m)) + ((5) * (i))) (u 5 (p))) 14 ((((1000) * (m)) + ((5) * (i))) + (1)) ((zs_put u 14 (((1000) * (m)) + ((5) * (i))) (u 5 (p))) 6 (p))) 7 (p))) 8 (p))) := x_S_of rfl rfl rfl rfl rfl rfl hS
      have hPv : m_P (zs_put (zs_put (zs_put (zs_put u 14 (((1000) * (m)) + ((5) * (i))) (u 5 (p))) 14 ((((1000) * (m)) + ((5) * (i))) + (1)) ((zs_put u 14 (((1000) * (m)) + ((5) * (i))) (u 5 (p))) 6 (p))) 14 ((((1000) * (m)) + ((5) * (i))) + (2)) ((zs_put (zs_put u 14 (((1000) * (m)) + ((5) * (i))) (u 5 (p))) 14 ((((1000) * (m)) + ((5) * (i))) + (1)) ((zs_put u 14 (((1000) * (m)) + ((5) * (i))) (u 5 (p))) 6 (p))) 7 (p))) 14 ((((1000) * (m)) + ((5) * (i))) + (3)) ((zs_put (zs_put (zs_put u 14 (((1000) * (m)) + ((5) * (i))) (u 5 (p))) 14 ((((1000) * (m)) + ((5) * (i))) + (1)) ((zs_put u 14 (((1000) * (m)) + ((5) * (i))) (u 5 (p))) 6 (p))) 14 ((((1000) * (m)) + ((5) * (i))) + (2)) ((zs_put (zs_put u 14 (((1000) * (m)) + ((5) * (i))) (u 5 (p))) 14 ((((1000) * (m)) + ((5) * (i))) + (1)) ((zs_put u 14 (((1000) * (m)) + ((5) * (i))) (u 5 (p))) 6 (p))) 7 (p))) 8 (p))) p := m_P_of rfl rfl rfl rfl rfl rfl hP0
      refine zs_eV (As := [.inl (p)]) (rest := [.inl ((zs_put (zs_put (zs_put (zs_put u 14 (((1000) * (m)) + ((5) * (i))) (u 5 (p))) 14 ((((1000) * (m)) + ((5) * (i))) + (1)) ((zs_put u 14 (((1000) * (m)) + ((5) * (i))) (u 5 (p))) 6 (p))) 14 ((((1000) * (m)) + ((5) * (i))) + (2)) ((zs_put (zs_put u 14 (((1000) * (m)) + ((5) * (i))) (u 5 (p))) 14 ((((1000) * (m)) + ((5) * (i))) + (1)) ((zs_put u 14 (((1000) * (m)) + ((5) * (i))) (u 5 (p))) 6 (p))) 7 (p))) 14 ((((1000) * (m)) + ((5) * (i))) + (3)) ((zs_put (zs_put (zs_put u 14 (((1000) * (m)) + ((5) * (i))) (u 5 (p))) 14 ((((1000) * (m)) + ((5) * (i))) + (1)) ((zs_put u 14 (((1000) * (m)) + ((5) * (i))) (u 5 (p))) 6 (p))) 14 ((((1000) * (m)) + ((5) * (i))) + (2)) ((zs_put (zs_put u 14 (((1000) * (m)) + ((5) * (i))) (u 5 (p))) 14 ((((1000) * (m)) + ((5) * (i))) + (1)) ((zs_put u 14 (((1000) * (m)) + ((5) * (i))) (u 5 (p))) 6 (p))) 7 (p))) 8 (p))) 10 (p)), .inl ((((1000) * (m)) + ((5) * (i))) + (4)), .inr 15]) (q := 0) dX5_mark_111 rfl (Nat.le_of_ble_eq_true rfl) rfl rfl YX5_clockOf rfl rfl (Nat.le_of_ble_eq_true rfl) gX5_mark_X5_clockOf (by decide) ⟨Nat.zero_le _, Nat.zero_le _⟩ rfl (t_X5_clockOf (w := (zs_put (zs_put (zs_put (zs_put u 14 (((1000) * (m)) + ((5) * (i))) (u 5 (p))) 14 ((((1000) * (m)) + ((5) * (i))) + (1)) ((zs_put u 14 (((1000) * (m)) + ((5) * (i))) (u 5 (p))) 6 (p))) 14 ((((1000) * (m)) + ((5) * (i))) + (2)) ((zs_put (zs_put u 14 (((1000) * (m)) + ((5) * (i))) (u 5 (p))) 14 ((((1000) * (m)) + ((5) * (i))) + (1)) ((zs_put u 14 (((1000) * (m)) + ((5) * (i))) (u 5 (p))) 6 (p))) 7 (p))) 14 ((((1000) * (m)) + ((5) * (i))) + (3)) ((zs_put (zs_put (zs_put u 14 (((1000) * (m)) + ((5) * (i))) (u 5 (p))) 14 ((((1000) * (m)) + ((5) * (i))) + (1)) ((zs_put u 14 (((1000) * (m)) + ((5) * (i))) (u 5 (p))) 6 (p))) 14 ((((1000) * (m)) + ((5) * (i))) + (2)) ((zs_put (zs_put u 14 (((1000) * (m)) + ((5) * (i))) (u 5 (p))) 14 ((((1000) * (m)) + ((5) * (i))) + (1)) ((zs_put u 14 (((1000) * (m)) + ((5) * (i))) (u 5 (p))) 6 (p))) 7 (p))) 8 (p)))) (p) (by omega) hSv hPv) ?_
      refine zs_isub dX5_mark_114 ?_
      refine zs_iastore dX5_mark_115 rfl (by decide) (by decide) (by omega) (by omega) ?_
      refine zs_iinc (lv' := [some (.inr 0), some (.inl (m)), some (.inl (i + 1)), some (.inl (p)), some (.inl (((1000) * (m)) + ((5) * (i))))]) dX5_mark_116 rfl (by decide) rfl ?_
      refine zs_aload_n dX5_mark_119 rfl ?_
      refine zs_iload_n dX5_mark_120 rfl ?_
      have hSw : x_S (zs_put (zs_put (zs_put (zs_put (zs_put u 14 (((1000) * (m)) + ((5) * (i))) (u 5 (p))) 14 ((((1000) * (m)) + ((5) * (i))) + (1)) ((zs_put u 14 (((1000) * (m)) + ((5) * (i))) (u 5 (p))) 6 (p))) 14 ((((1000) * (m)) + ((5) * (i))) + (2)) ((zs_put (zs_put u 14 (((1000) * (m)) + ((5) * (i))) (u 5 (p))) 14 ((((1000) * (m)) + ((5) * (i))) + (1)) ((zs_put u 14 (((1000) * (m)) + ((5) * (i))) (u 5 (p))) 6 (p))) 7 (p))) 14 ((((1000) * (m)) + ((5) * (i))) + (3)) ((zs_put (zs_put (zs_put u 14 (((1000) * (m)) + ((5) * (i))) (u 5 (p))) 14 ((((1000) * (m)) + ((5) * (i))) + (1)) ((zs_put u 14 (((1000) * (m)) + ((5) * (i))) (u 5 (p))) 6 (p))) 14 ((((1000) * (m)) + ((5) * (i))) + (2)) ((zs_put (zs_put u 14 (((1000) * (m)) + ((5) * (i))) (u 5 (p))) 14 ((((1000) * (m)) + ((5) * (i))) + (1)) ((zs_put u 14 (((1000) * (m)) + ((5) * (i))) (u 5 (p))) 6 (p))) 7 (p))) 8 (p))) 14 ((((1000) * (m)) + ((5) * (i))) + (4)) (((zs_put (zs_put (zs_put (zs_put u 14 (((1000) * (m)) + ((5) * (i))) (u 5 (p))) 14 ((((1000) * (m)) + ((5) * (i))) + (1)) ((zs_put u 14 (((1000) * (m)) + ((5) * (i))) (u 5 (p))) 6 (p))) 14 ((((1000) * (m)) + ((5) * (i))) + (2)) ((zs_put (zs_put u 14 (((1000) * (m)) + ((5) * (i))) (u 5 (p))) 14 ((((1000) * (m)) + ((5) * (i))) + (1)) ((zs_put u 14 (((1000) * (m)) + ((5) * (i))) (u 5 (p))) 6 (p))) 7 (p))) 14 ((((1000) * (m)) + ((5) * (i))) + (3)) ((zs_put (zs_put (zs_put u 14 (((1000) * (m)) + ((5) * (i))) (u 5 (p))) 14 ((((1000) * (m)) + ((5) * (i))) + (1)) ((zs_put u 14 (((1000) * (m)) + ((5) * (i))) (u 5 (p))) 6 (p))) 14 ((((1000) * (m)) + ((5) * (i))) + (2)) ((zs_put (zs_put u 14 (((1000) * (m)) + ((5) * (i))) (u 5 (p))) 14 ((((1000) * (m)) + ((5) * (i))) + (1)) ((zs_put u 14 (((1000) * (m)) + ((5) * (i))) (u 5 (p))) 6 (p))) 7 (p))) 8 (p))) 10 (p)) - (m_clk (zs_put (zs_put (zs_put (zs_put u 14 (((1000) * (m)) + ((5) * (i))) (u 5 (p))) 14 ((((1000) * (m)) + ((5) * (i))) + (1)) ((zs_put u 14 (((1000) * (m)) + ((5) * (i))) (u 5 (p))) 6 (p))) 14 ((((1000) * (m)) + ((5) * (i))) + (2)) ((zs_put (zs_put u 14 (((1000) * (m)) + ((5) * (i))) (u 5 (p))) 14 ((((1000) * (m)) + ((5) * (i))) + (1)) ((zs_put u 14 (((1000) * (m)) + ((5) * (i))) (u 5 (p))) 6 (p))) 7 (p))) 14 ((((1000) * (m)) + ((5) * (i))) + (3)) ((zs_put (zs_put (zs_put u 14 (((1000) * (m)) + ((5) * (i))) (u 5 (p))) 14 ((((1000) * (m)) + ((5) * (i))) + (1)) ((zs_put u 14 (((1000) * (m)) + ((5) * (i))) (u 5 (p))) 6 (p))) 14 ((((1000) * (m)) + ((5) * (i))) + (2)) ((zs_put (zs_put u 14 (((1000) * (m)) + ((5) * (i))) (u 5 (p))) 14 ((((1000) * (m)) + ((5) * (i))) + (1)) ((zs_put u 14 (((1000) * (m)) + ((5) * (i))) (u 5 (p))) 6 (p))) 7 (p))) 8 (p))) (p)))) := x_S_of rfl rfl rfl rfl rfl rfl hS
      have hWw : m_W (zs_put (zs_put (zs_put (zs_put (zs_put u 14 (((1000) * (m)) + ((5) * (i))) (u 5 (p))) 14 ((((1000) * (m)) + ((5) * (i))) + (1)) ((zs_put u 14 (((1000) * (m)) + ((5) * (i))) (u 5 (p))) 6 (p))) 14 ((((1000) * (m)) + ((5) * (i))) + (2)) ((zs_put (zs_put u 14 (((1000) * (m)) + ((5) * (i))) (u 5 (p))) 14 ((((1000) * (m)) + ((5) * (i))) + (1)) ((zs_put u 14 (((1000) * (m)) + ((5) * (i))) (u 5 (p))) 6 (p))) 7 (p))) 14 ((((1000) * (m)) + ((5) * (i))) + (3)) ((zs_put (zs_put (zs_put u 14 (((1000) * (m)) + ((5) * (i))) (u 5 (p))) 14 ((((1000) * (m)) + ((5) * (i))) + (1)) ((zs_put u 14 (((1000) * (m)) + ((5) * (i))) (u 5 (p))) 6 (p))) 14 ((((1000) * (m)) + ((5) * (i))) + (2)) ((zs_put (zs_put u 14 (((1000) * (m)) + ((5) * (i))) (u 5 (p))) 14 ((((1000) * (m)) + ((5) * (i))) + (1)) ((zs_put u 14 (((1000) * (m)) + ((5) * (i))) (u 5 (p))) 6 (p))) 7 (p))) 8 (p))) 14 ((((1000) * (m)) + ((5) * (i))) + (4)) (((zs_put (zs_put (zs_put (zs_put u 14 (((1000) * (m)) + ((5) * (i))) (u 5 (p))) 14 ((((1000) * (m)) + ((5) * (i))) + (1)) ((zs_put u 14 (((1000) * (m)) + ((5) * (i))) (u 5 (p))) 6 (p))) 14 ((((1000) * (m)) + ((5) * (i))) + (2)) ((zs_put (zs_put u 14 (((1000) * (m)) + ((5) * (i))) (u 5 (p))) 14 ((((1000) * (m)) + ((5) * (i))) + (1)) ((zs_put u 14 (((1000) * (m)) + ((5) * (i))) (u 5 (p))) 6 (p))) 7 (p))) 14 ((((1000) * (m)) + ((5) * (i))) + (3)) ((zs_put (zs_put (zs_put u 14 (((1000) * (m)) + ((5) * (i))) (u 5 (p))) 14 ((((1000) * (m)) + ((5) * (i))) + (1)) ((zs_put u 14 (((1000) * (m)) + ((5) * (i))) (u 5 (p))) 6 (p))) 14 ((((1000) * (m)) + ((5) * (i))) + (2)) ((zs_put (zs_put u 14 (((1000) * (m)) + ((5) * (i))) (u 5 (p))) 14 ((((1000) * (m)) + ((5) * (i))) + (1)) ((zs_put u 14 (((1000) * (m)) + ((5) * (i))) (u 5 (p))) 6 (p))) 7 (p))) 8 (p))) 10 (p)) - (m_clk (zs_put (zs_put (zs_put (zs_put u 14 (((1000) * (m)) + ((5) * (i))) (u 5 (p))) 14 ((((1000) * (m)) + ((5) * (i))) + (1)) ((zs_put u 14 (((1000) * (m)) + ((5) * (i))) (u 5 (p))) 6 (p))) 14 ((((1000) * (m)) + ((5) * (i))) + (2)) ((zs_put (zs_put u 14 (((1000) * (m)) + ((5) * (i))) (u 5 (p))) 14 ((((1000) * (m)) + ((5) * (i))) + (1)) ((zs_put u 14 (((1000) * (m)) + ((5) * (i))) (u 5 (p))) 6 (p))) 7 (p))) 14 ((((1000) * (m)) + ((5) * (i))) + (3)) ((zs_put (zs_put (zs_put u 14 (((1000) * (m)) + ((5) * (i))) (u 5 (p))) 14 ((((1000) * (m)) + ((5) * (i))) + (1)) ((zs_put u 14 (((1000) * (m)) + ((5) * (i))) (u 5 (p))) 6 (p))) 14 ((((1000) * (m)) + ((5) * (i))) + (2)) ((zs_put (zs_put u 14 (((1000) * (m)) + ((5) * (i))) (u 5 (p))) 14 ((((1000) * (m)) + ((5) * (i))) + (1)) ((zs_put u 14 (((1000) * (m)) + ((5) * (i))) (u 5 (p))) 6 (p))) 7 (p))) 8 (p))) (p)))) := m_W_of rfl rfl rfl rfl rfl rfl hW
      have hPw : m_P (zs_put (zs_put (zs_put (zs_put (zs_put u 14 (((1000) * (m)) + ((5) * (i))) (u 5 (p))) 14 ((((1000) * (m)) + ((5) * (i))) + (1)) ((zs_put u 14 (((1000) * (m)) + ((5) * (i))) (u 5 (p))) 6 (p))) 14 ((((1000) * (m)) + ((5) * (i))) + (2)) ((zs_put (zs_put u 14 (((1000) * (m)) + ((5) * (i))) (u 5 (p))) 14 ((((1000) * (m)) + ((5) * (i))) + (1)) ((zs_put u 14 (((1000) * (m)) + ((5) * (i))) (u 5 (p))) 6 (p))) 7 (p))) 14 ((((1000) * (m)) + ((5) * (i))) + (3)) ((zs_put (zs_put (zs_put u 14 (((1000) * (m)) + ((5) * (i))) (u 5 (p))) 14 ((((1000) * (m)) + ((5) * (i))) + (1)) ((zs_put u 14 (((1000) * (m)) + ((5) * (i))) (u 5 (p))) 6 (p))) 14 ((((1000) * (m)) + ((5) * (i))) + (2)) ((zs_put (zs_put u 14 (((1000) * (m)) + ((5) * (i))) (u 5 (p))) 14 ((((1000) * (m)) + ((5) * (i))) + (1)) ((zs_put u 14 (((1000) * (m)) + ((5) * (i))) (u 5 (p))) 6 (p))) 7 (p))) 8 (p))) 14 ((((1000) * (m)) + ((5) * (i))) + (4)) (((zs_put (zs_put (zs_put (zs_put u 14 (((1000) * (m)) + ((5) * (i))) (u 5 (p))) 14 ((((1000) * (m)) + ((5) * (i))) + (1)) ((zs_put u 14 (((1000) * (m)) + ((5) * (i))) (u 5 (p))) 6 (p))) 14 ((((1000) * (m)) + ((5) * (i))) + (2)) ((zs_put (zs_put u 14 (((1000) * (m)) + ((5) * (i))) (u 5 (p))) 14 ((((1000) * (m)) + ((5) * (i))) + (1)) ((zs_put u 14 (((1000) * (m)) + ((5) * (i))) (u 5 (p))) 6 (p))) 7 (p))) 14 ((((1000) * (m)) + ((5) * (i))) + (3)) ((zs_put (zs_put (zs_put u 14 (((1000) * (m)) + ((5) * (i))) (u 5 (p))) 14 ((((1000) * (m)) + ((5) * (i))) + (1)) ((zs_put u 14 (((1000) * (m)) + ((5) * (i))) (u 5 (p))) 6 (p))) 14 ((((1000) * (m)) + ((5) * (i))) + (2)) ((zs_put (zs_put u 14 (((1000) * (m)) + ((5) * (i))) (u 5 (p))) 14 ((((1000) * (m)) + ((5) * (i))) + (1)) ((zs_put u 14 (((1000) * (m)) + ((5) * (i))) (u 5 (p))) 6 (p))) 7 (p))) 8 (p))) 10 (p)) - (m_clk (zs_put (zs_put (zs_put (zs_put u 14 (((1000) * (m)) + ((5) * (i))) (u 5 (p))) 14 ((((1000) * (m)) + ((5) * (i))) + (1)) ((zs_put u 14 (((1000) * (m)) + ((5) * (i))) (u 5 (p))) 6 (p))) 14 ((((1000) * (m)) + ((5) * (i))) + (2)) ((zs_put (zs_put u 14 (((1000) * (m)) + ((5) * (i))) (u 5 (p))) 14 ((((1000) * (m)) + ((5) * (i))) + (1)) ((zs_put u 14 (((1000) * (m)) + ((5) * (i))) (u 5 (p))) 6 (p))) 7 (p))) 14 ((((1000) * (m)) + ((5) * (i))) + (3)) ((zs_put (zs_put (zs_put u 14 (((1000) * (m)) + ((5) * (i))) (u 5 (p))) 14 ((((1000) * (m)) + ((5) * (i))) + (1)) ((zs_put u 14 (((1000) * (m)) + ((5) * (i))) (u 5 (p))) 6 (p))) 14 ((((1000) * (m)) + ((5) * (i))) + (2)) ((zs_put (zs_put u 14 (((1000) * (m)) + ((5) * (i))) (u 5 (p))) 14 ((((1000) * (m)) + ((5) * (i))) + (1)) ((zs_put u 14 (((1000) * (m)) + ((5) * (i))) (u 5 (p))) 6 (p))) 7 (p))) 8 (p))) (p)))) p := m_P_of rfl rfl rfl rfl rfl rfl hP0
      refine zs_eV (As := [.inl (p)]) (rest := []) (q := 0) dX5_mark_121 rfl (Nat.le_of_ble_eq_true rfl) rfl rfl YX5_nextKept rfl rfl (Nat.le_of_ble_eq_true rfl) gX5_mark_X5_nextKept (by decide) ⟨Nat.zero_le _, Nat.zero_le _⟩ rfl (t_X5_nextKept (w := (zs_put (zs_put (zs_put (zs_put (zs_put u 14 (((1000) * (m)) + ((5) * (i))) (u 5 (p))) 14 ((((1000) * (m)) + ((5) * (i))) + (1)) ((zs_put u 14 (((1000) * (m)) + ((5) * (i))) (u 5 (p))) 6 (p))) 14 ((((1000) * (m)) + ((5) * (i))) + (2)) ((zs_put (zs_put u 14 (((1000) * (m)) + ((5) * (i))) (u 5 (p))) 14 ((((1000) * (m)) + ((5) * (i))) + (1)) ((zs_put u 14 (((1000) * (m)) + ((5) * (i))) (u 5 (p))) 6 (p))) 7 (p))) 14 ((((1000) * (m)) + ((5) * (i))) + (3)) ((zs_put (zs_put (zs_put u 14 (((1000) * (m)) + ((5) * (i))) (u 5 (p))) 14 ((((1000) * (m)) + ((5) * (i))) + (1)) ((zs_put u 14 (((1000) * (m)) + ((5) * (i))) (u 5 (p))) 6 (p))) 14 ((((1000) * (m)) + ((5) * (i))) + (2)) ((zs_put (zs_put u 14 (((1000) * (m)) + ((5) * (i))) (u 5 (p))) 14 ((((1000) * (m)) + ((5) * (i))) + (1)) ((zs_put u 14 (((1000) * (m)) + ((5) * (i))) (u 5 (p))) 6 (p))) 7 (p))) 8 (p))) 14 ((((1000) * (m)) + ((5) * (i))) + (4)) (((zs_put (zs_put (zs_put (zs_put u 14 (((1000) * (m)) + ((5) * (i))) (u 5 (p))) 14 ((((1000) * (m)) + ((5) * (i))) + (1)) ((zs_put u 14 (((1000) * (m)) + ((5) * (i))) (u 5 (p))) 6 (p))) 14 ((((1000) * (m)) + ((5) * (i))) + (2)) ((zs_put (zs_put u 14 (((1000) * (m)) + ((5) * (i))) (u 5 (p))) 14 ((((1000) * (m)) + ((5) * (i))) + (1)) ((zs_put u 14 (((1000) * (m)) + ((5) * (i))) (u 5 (p))) 6 (p))) 7 (p))) 14 ((((1000) * (m)) + ((5) * (i))) + (3)) ((zs_put (zs_put (zs_put u 14 (((1000) * (m)) + ((5) * (i))) (u 5 (p))) 14 ((((1000) * (m)) + ((5) * (i))) + (1)) ((zs_put u 14 (((1000) * (m)) + ((5) * (i))) (u 5 (p))) 6 (p))) 14 ((((1000) * (m)) + ((5) * (i))) + (2)) ((zs_put (zs_put u 14 (((1000) * (m)) + ((5) * (i))) (u 5 (p))) 14 ((((1000) * (m)) + ((5) * (i))) + (1)) ((zs_put u 14 (((1000) * (m)) + ((5) * (i))) (u 5 (p))) 6 (p))) 7 (p))) 8 (p))) 10 (p)) - (m_clk (zs_put (zs_put (zs_put (zs_put u 14 (((1000) * (m)) + ((5) * (i))) (u 5 (p))) 14 ((((1000) * (m)) + ((5) * (i))) + (1)) ((zs_put u 14 (((1000) * (m)) + ((5) * (i))) (u 5 (p))) 6 (p))) 14 ((((1000) * (m)) + ((5) * (i))) + (2)) ((zs_put (zs_put u 14 (((1000) * (m)) + ((5) * (i))) (u 5 (p))) 14 ((((1000) * (m)) + ((5) * (i))) + (1)) ((zs_put u 14 (((1000) * (m)) + ((5) * (i))) (u 5 (p))) 6 (p))) 7 (p))) 14 ((((1000) * (m)) + ((5) * (i))) + (3)) ((zs_put (zs_put (zs_put u 14 (((1000) * (m)) + ((5) * (i))) (u 5 (p))) 14 ((((1000) * (m)) + ((5) * (i))) + (1)) ((zs_put u 14 (((1000) * (m)) + ((5) * (i))) (u 5 (p))) 6 (p))) 14 ((((1000) * (m)) + ((5) * (i))) + (2)) ((zs_put (zs_put u 14 (((1000) * (m)) + ((5) * (i))) (u 5 (p))) 14 ((((1000) * (m)) + ((5) * (i))) + (1)) ((zs_put u 14 (((1000) * (m)) + ((5) * (i))) (u 5 (p))) 6 (p))) 7 (p))) 8 (p))) (p))))) (p) hSw hWw (Or.inr ⟨hc2.1, hc2.2, hPw⟩)) ?_
      refine zs_istore_n (lv' := [some (.inr 0), some (.inl (m)), some (.inl (i + 1)), some (.inl (m_nk (zs_put (zs_put (zs_put (zs_put (zs_put u 14 (((1000) * (m)) + ((5) * (i))) (u 5 (p))) 14 ((((1000) * (m)) + ((5) * (i))) + (1)) ((zs_put u 14 (((1000) * (m)) + ((5) * (i))) (u 5 (p))) 6 (p))) 14 ((((1000) * (m)) + ((5) * (i))) + (2)) ((zs_put (zs_put u 14 (((1000) * (m)) + ((5) * (i))) (u 5 (p))) 14 ((((1000) * (m)) + ((5) * (i))) + (1)) ((zs_put u 14 (((1000) * (m)) + ((5) * (i))) (u 5 (p))) 6 (p))) 7 (p))) 14 ((((1000) * (m)) + ((5) * (i))) + (3)) ((zs_put (zs_put (zs_put u 14 (((1000) * (m)) + ((5) * (i))) (u 5 (p))) 14 ((((1000) * (m)) + ((5) * (i))) + (1)) ((zs_put u 14 (((1000) * (m)) + ((5) * (i))) (u 5 (p))) 6 (p))) 14 ((((1000) * (m)) + ((5) * (i))) + (2)) ((zs_put (zs_put u 14 (((1000) * (m)) + ((5) * (i))) (u 5 (p))) 14 ((((1000) * (m)) + ((5) * (i))) + (1)) ((zs_put u 14 (((1000) * (m)) + ((5) * (i))) (u 5 (p))) 6 (p))) 7 (p))) 8 (p))) 14 ((((1000) * (m)) + ((5) * (i))) + (4)) (((zs_put (zs_put (zs_put (zs_put u 14 (((1000) * (m)) + ((5) * (i))) (u 5 (p))) 14 ((((1000) * (m)) + ((5) * (i))) + (1)) ((zs_put u 14 (((1000) * (m)) + ((5) * (i))) (u 5 (p))) 6 (p))) 14 ((((1000) * (m)) + ((5) * (i))) + (2)) ((zs_put (zs_put u 14 (((1000) * (m)) + ((5) * (i))) (u 5 (p))) 14 ((((1000) * (m)) + ((5) * (i))) + (1)) ((zs_put u 14 (((1000) * (m)) + ((5) * (i))) (u 5 (p))) 6 (p))) 7 (p))) 14 ((((1000) * (m)) + ((5) * (i))) + (3)) ((zs_put (zs_put (zs_put u 14 (((1000) * (m)) + ((5) * (i))) (u 5 (p))) 14 ((((1000) * (m)) + ((5) * (i))) + (1)) ((zs_put u 14 (((1000) * (m)) + ((5) * (i))) (u 5 (p))) 6 (p))) 14 ((((1000) * (m)) + ((5) * (i))) + (2)) ((zs_put (zs_put u 14 (((1000) * (m)) + ((5) * (i))) (u 5 (p))) 14 ((((1000) * (m)) + ((5) * (i))) + (1)) ((zs_put u 14 (((1000) * (m)) + ((5) * (i))) (u 5 (p))) 6 (p))) 7 (p))) 8 (p))) 10 (p)) - (m_clk (zs_put (zs_put (zs_put (zs_put u 14 (((1000) * (m)) + ((5) * (i))) (u 5 (p))) 14 ((((1000) * (m)) + ((5) * (i))) + (1)) ((zs_put u 14 (((1000) * (m)) + ((5) * (i))) (u 5 (p))) 6 (p))) 14 ((((1000) * (m)) + ((5) * (i))) + (2)) ((zs_put (zs_put u 14 (((1000) * (m)) + ((5) * (i))) (u 5 (p))) 14 ((((1000) * (m)) + ((5) * (i))) + (1)) ((zs_put u 14 (((1000) * (m)) + ((5) * (i))) (u 5 (p))) 6 (p))) 7 (p))) 14 ((((1000) * (m)) + ((5) * (i))) + (3)) ((zs_put (zs_put (zs_put u 14 (((1000) * (m)) + ((5) * (i))) (u 5 (p))) 14 ((((1000) * (m)) + ((5) * (i))) + (1)) ((zs_put u 14 (((1000) * (m)) + ((5) * (i))) (u 5 (p))) 6 (p))) 14 ((((1000) * (m)) + ((5) * (i))) + (2)) ((zs_put (zs_put u 14 (((1000) * (m)) + ((5) * (i))) (u 5 (p))) 14 ((((1000) * (m)) + ((5) * (i))) + (1)) ((zs_put u 14 (((1000) * (m)) + ((5) * (i))) (u 5 (p))) 6 (p))) 7 (p))) 8 (p))) (p)))) (p) z_Z (-99999999))), some (.inl (((1000) * (m)) + ((5) * (i))))]) dX5_mark_124 (by decide) rfl ?_
      refine zs_goto (tgt := 20) dX5_mark_125 (by decide) ?_
      have h15 := m_me_14 m i p h14
      have e : m_nk (zs_put (zs_put (zs_put (zs_put (zs_put u 14 (((1000) * (m)) + ((5) * (i))) (u 5 (p))) 14 ((((1000) * (m)) + ((5) * (i))) + (1)) ((zs_put u 14 (((1000) * (m)) + ((5) * (i))) (u 5 (p))) 6 (p))) 14 ((((1000) * (m)) + ((5) * (i))) + (2)) ((zs_put (zs_put u 14 (((1000) * (m)) + ((5) * (i))) (u 5 (p))) 14 ((((1000) * (m)) + ((5) * (i))) + (1)) ((zs_put u 14 (((1000) * (m)) + ((5) * (i))) (u 5 (p))) 6 (p))) 7 (p))) 14 ((((1000) * (m)) + ((5) * (i))) + (3)) ((zs_put (zs_put (zs_put u 14 (((1000) * (m)) + ((5) * (i))) (u 5 (p))) 14 ((((1000) * (m)) + ((5) * (i))) + (1)) ((zs_put u 14 (((1000) * (m)) + ((5) * (i))) (u 5 (p))) 6 (p))) 14 ((((1000) * (m)) + ((5) * (i))) + (2)) ((zs_put (zs_put u 14 (((1000) * (m)) + ((5) * (i))) (u 5 (p))) 14 ((((1000) * (m)) + ((5) * (i))) + (1)) ((zs_put u 14 (((1000) * (m)) + ((5) * (i))) (u 5 (p))) 6 (p))) 7 (p))) 8 (p))) 14 ((((1000) * (m)) + ((5) * (i))) + (4)) (((zs_put (zs_put (zs_put (zs_put u 14 (((1000) * (m)) + ((5) * (i))) (u 5 (p))) 14 ((((1000) * (m)) + ((5) * (i))) + (1)) ((zs_put u 14 (((1000) * (m)) + ((5) * (i))) (u 5 (p))) 6 (p))) 14 ((((1000) * (m)) + ((5) * (i))) + (2)) ((zs_put (zs_put u 14 (((1000) * (m)) + ((5) * (i))) (u 5 (p))) 14 ((((1000) * (m)) + ((5) * (i))) + (1)) ((zs_put u 14 (((1000) * (m)) + ((5) * (i))) (u 5 (p))) 6 (p))) 7 (p))) 14 ((((1000) * (m)) + ((5) * (i))) + (3)) ((zs_put (zs_put (zs_put u 14 (((1000) * (m)) + ((5) * (i))) (u 5 (p))) 14 ((((1000) * (m)) + ((5) * (i))) + (1)) ((zs_put u 14 (((1000) * (m)) + ((5) * (i))) (u 5 (p))) 6 (p))) 14 ((((1000) * (m)) + ((5) * (i))) + (2)) ((zs_put (zs_put u 14 (((1000) * (m)) + ((5) * (i))) (u 5 (p))) 14 ((((1000) * (m)) + ((5) * (i))) + (1)) ((zs_put u 14 (((1000) * (m)) + ((5) * (i))) (u 5 (p))) 6 (p))) 7 (p))) 8 (p))) 10 (p)) - (m_clk (zs_put (zs_put (zs_put (zs_put u 14 (((1000) * (m)) + ((5) * (i))) (u 5 (p))) 14 ((((1000) * (m)) + ((5) * (i))) + (1)) ((zs_put u 14 (((1000) * (m)) + ((5) * (i))) (u 5 (p))) 6 (p))) 14 ((((1000) * (m)) + ((5) * (i))) + (2)) ((zs_put (zs_put u 14 (((1000) * (m)) + ((5) * (i))) (u 5 (p))) 14 ((((1000) * (m)) + ((5) * (i))) + (1)) ((zs_put u 14 (((1000) * (m)) + ((5) * (i))) (u 5 (p))) 6 (p))) 7 (p))) 14 ((((1000) * (m)) + ((5) * (i))) + (3)) ((zs_put (zs_put (zs_put u 14 (((1000) * (m)) + ((5) * (i))) (u 5 (p))) 14 ((((1000) * (m)) + ((5) * (i))) + (1)) ((zs_put u 14 (((1000) * (m)) + ((5) * (i))) (u 5 (p))) 6 (p))) 14 ((((1000) * (m)) + ((5) * (i))) + (2)) ((zs_put (zs_put u 14 (((1000) * (m)) + ((5) * (i))) (u 5 (p))) 14 ((((1000) * (m)) + ((5) * (i))) + (1)) ((zs_put u 14 (((1000) * (m)) + ((5) * (i))) (u 5 (p))) 6 (p))) 7 (p))) 8 (p))) (p)))) (p) z_Z (-99999999) = m_nk w p z_Z (-99999999) := m_nk_of h15 p z_Z (-99999999)
      rw [e]
      have hh := ih (m_me u m i p) p (i + 1) (some (.inl (((1000) * (m)) + ((5) * (i))))) h15 hc4 (by omega) (by omega)
      rw [show i + 1 + (K.length : Int) = i + ((p :: K).length : Int) by omega] at hh
      exact hh
set_option maxHeartbeats 4000000 in
set_option maxRecDepth 100000 in
theorem t_X5_mark {w : zs_V} (hS : x_S w) (hW : m_W w) (m : Int) (hm : zn m) (K : List Int) (hK : m_Ch w (-99999999) K) (hl : K.length ≤ 200) : zs_R mX5_mark 0 0 shM (zs_X (m_markR m K) (m_markS w m K)) w 0 [some (.inr 0), some (.inl (m)), none, none, none] [] := by
  refine zs_iload_n dX5_mark_0 rfl ?_
  refine zs_iconst (x := 0) dX5_mark_1 (by decide) ?_
  refine zs_iconst (x := 2) dX5_mark_2 (by decide) ?_
  refine zs_eS (As := [.inl (m), .inl (0), .inl (2)]) (rest := []) dX5_mark_3 rfl (Nat.le_of_ble_eq_true rfl) YX5_isIn rfl (Nat.le_of_ble_eq_true rfl) gX5_mark_X5_isIn (by decide) ⟨Nat.zero_le _, Nat.zero_le _⟩ rfl (t_X5_isIn (w := w) (m) (0) (2) (by omega) (by omega) (by omega)) ?_
  refine zs_ifz_ne (tgt := 11) dX5_mark_6 (by decide)  (fun h6 => ?_) (fun h6 => ?_)
  · refine zs_iconst (x := 0) dX5_mark_11 (by decide) ?_
    refine zs_istore_n (lv' := [some (.inr 0), some (.inl (m)), some (.inl (0)), none, none]) dX5_mark_12 (by decide) rfl ?_
    refine zs_aload_n dX5_mark_13 rfl ?_
    refine zs_ldc (x := -99999999) dX5_mark_14 kX5_mark_55 (by decide) ?_
    refine zs_eV (As := [.inl (-99999999)]) (rest := []) (q := 0) dX5_mark_16 rfl (Nat.le_of_ble_eq_true rfl) rfl rfl YX5_nextKept rfl rfl (Nat.le_of_ble_eq_true rfl) gX5_mark_X5_nextKept (by decide) ⟨Nat.zero_le _, Nat.zero_le _⟩ rfl (t_X5_nextKept (w := w) (-99999999) hS hW (Or.inl rfl)) ?_
    refine zs_istore_n (lv' := [some (.inr 0), some (.inl (m)), some (.inl (0)), some (.inl (m_nk w (-99999999) z_Z (-99999999))), none]) dX5_mark_19 (by decide) rfl ?_
    have h6 : 0 ≤ m ∧ m < 3 := by omega
    unfold m_markR m_markS
    rw [if_pos h6, if_pos h6]
    have hh := l_X5_mark h6 hS hW K w (-99999999) 0 none (fun r _ => rfl) hK (by omega) (by omega)
    rw [show 0 + (K.length : Int) = (K.length : Int) by omega] at hh
    exact hh
  · refine zs_iconst (x := -1) dX5_mark_9 (by decide) ?_
    refine zs_iret dX5_mark_10 rfl ?_
    exact ⟨by unfold m_markR; rw [if_neg (by omega)], by unfold m_markS; rw [if_neg (by omega)]⟩

theorem zs_fill_up (v : zs_V) (r : Nat) (b x : Int) (h : 0 ≤ b) : zs_put (zs_fill v r 0 b x) r b x = zs_fill v r 0 (b + 1) x := by
  funext r' k
  unfold zs_fill zs_put
  dsimp only
  by_cases h1 : r' = r
  · subst h1
    by_cases h2 : k = b
    · subst h2
      rw [if_pos rfl, if_pos rfl, if_pos ⟨rfl, h, by omega⟩]
    · rw [if_pos rfl, if_neg h2]
      by_cases h3 : 0 ≤ k ∧ k < b
      · rw [if_pos ⟨rfl, h3⟩, if_pos ⟨rfl, h3.1, by omega⟩]
      · rw [if_neg (fun z => h3 z.2), if_neg (fun z => h3 ⟨z.2.1, by have := z.2.2; omega⟩)]
  · rw [if_neg h1, if_neg (fun z => h1 z.1), if_neg (fun z => h1 z.1)]
def m_re (u : zs_V) (m p : Int) : zs_V := zs_put (m_wr u p (u 14 (1000 * m + 5 * p)) (u 14 (1000 * m + 5 * p + 1)) (u 14 (1000 * m + 5 * p + 2)) (u 14 (1000 * m + 5 * p + 3))) 10 p ((m_wr u p (u 14 (1000 * m + 5 * p)) (u 14 (1000 * m + 5 * p + 1)) (u 14 (1000 * m + 5 * p + 2)) (u 14 (1000 * m + 5 * p + 3))) 9 p + u 14 (1000 * m + 5 * p + 4))
def m_rs (m : Int) : Nat → Int → zs_V → zs_V
  | 0, _, u => u
  | n + 1, p, u => m_rs m n (p + 1) (m_re u m p)
def m_rsP (w : zs_V) (m : Int) : Prop := (w 13 m = -99999999 ∨ (0 ≤ w 13 m ∧ w 13 m ≤ 200)) ∧ ∀ i : Int, 0 ≤ i → i < w 13 m → 0 ≤ w 14 (1000 * m + 5 * i) ∧ w 14 (1000 * m + 5 * i) < w 15 0
noncomputable def m_resR (w : zs_V) (m : Int) : Int := if 0 ≤ m ∧ m < 3 then (if w 13 m = -99999999 then -2 else w 13 m) else -1
noncomputable def m_resS (w : zs_V) (m : Int) : zs_V := if 0 ≤ m ∧ m < 3 then (if w 13 m = -99999999 then w else zs_put (m_rs m (w 13 m).toNat 0 (zs_fill w 5 0 200 (-99999999))) 17 0 0) else w
set_option maxHeartbeats 4000000 in
set_option maxRecDepth 100000 in
theorem l_X5_restore2 {w : zs_V} {m : Int} (hm : 0 ≤ m ∧ m < 3) (hP : m_rsP w m) (hM : 0 ≤ w 13 m ∧ w 13 m ≤ 200) : ∀ (n : Nat) (u : zs_V) (p : Int) (x3 : Option zs_A), x_S u → u 13 = w 13 → u 14 = w 14 → u 15 0 = w 15 0 → 0 ≤ p → p + n = w 13 m → zs_R mX5_restore 0 0 shM (zs_X (w 13 m) (zs_put (m_rs m n p u) 17 0 0)) u 50 [some (.inr 0), some (.inl (m)), some (.inl (p)), x3] [] := by
  intro n
  induction n using Nat.strongRecOn with
  | ind n ih =>
    intro u p x3 hS e13 e14 e15 h0 hn
    have e13m : u 13 m = w 13 m := by rw [e13]
    refine zs_iload_n dX5_restore_50 rfl ?_
    refine zs_aload_n dX5_restore_51 rfl ?_
    refine zs_getr (j := 18) dX5_restore_52 rfl rfl rfl (by decide) nX5_restore_X5 fX5_restore_49 ?_
    refine zs_iload_n dX5_restore_55 rfl ?_
    refine zs_iaload dX5_restore_56 rfl (by decide) (by omega) (by omega) ?_
    refine zs_icmp_ge (tgt := 132) dX5_restore_57 (by decide) (by omega) (by omega) (fun h57 => ?_) (fun h57 => ?_)
    · refine zs_aload_n dX5_restore_132 rfl ?_
      refine zs_iconst (x := 0) dX5_restore_133 (by decide) ?_
      refine zs_puti (j := 14) dX5_restore_134 rfl rfl (by decide) rfl (by decide) nX5_restore_X5 tyX5 tyX5_ok nmX5 rfl (by decide +kernel) fX5_restore_136 ?_
      refine zs_aload_n dX5_restore_137 rfl ?_
      refine zs_getr (j := 18) dX5_restore_138 rfl rfl rfl (by decide) nX5_restore_X5 fX5_restore_49 ?_
      refine zs_iload_n dX5_restore_141 rfl ?_
      refine zs_iaload dX5_restore_142 rfl (by decide) (by omega) (by omega) ?_
      refine zs_iret dX5_restore_143 rfl ?_
      obtain rfl : n = 0 := by omega
      exact ⟨e13m, rfl⟩
    · obtain ⟨n', rfl⟩ : ∃ n', n = n' + 1 := ⟨n - 1, by omega⟩
      have hs := hP.2 p h0 (by omega)
      rw [← e14] at hs
      refine zs_sipush (x := 1000) dX5_restore_60 (by decide) ?_
      refine zs_iload_n dX5_restore_63 rfl ?_
      refine zs_imul dX5_restore_64 ?_
      refine zs_iconst (x := 5) dX5_restore_65 (by decide) ?_
      refine zs_iload_n dX5_restore_66 rfl ?_
      refine zs_imul dX5_restore_67 ?_
      refine zs_iadd dX5_restore_68 ?_
      refine zs_istore_n (lv' := [some (.inr 0), some (.inl (m)), some (.inl (p)), some (.inl (((1000) * (m)) + ((5) * (p))))]) dX5_restore_69 (by decide) rfl ?_
      refine zs_aload_n dX5_restore_70 rfl ?_
      refine zs_iload_n dX5_restore_71 rfl ?_
      refine zs_aload_n dX5_restore_72 rfl ?_
      refine zs_getr (j := 19) dX5_restore_73 rfl rfl rfl (by decide) nX5_restore_X5 fX5_restore_52 ?_
      refine zs_iload_n dX5_restore_76 rfl ?_
      refine zs_iaload dX5_restore_77 rfl (by decide) (by omega) (by omega) ?_
      refine zs_aload_n dX5_restore_78 rfl ?_
      refine zs_getr (j := 19) dX5_restore_79 rfl rfl rfl (by decide) nX5_restore_X5 fX5_restore_52 ?_
      refine zs_iload_n dX5_restore_82 rfl ?_
      refine zs_iconst (x := 1) dX5_restore_83 (by decide) ?_
      refine zs_iadd dX5_restore_84 ?_
      refine zs_iaload dX5_restore_85 rfl (by decide) (by omega) (by omega) ?_
      refine zs_aload_n dX5_restore_86 rfl ?_
      refine zs_getr (j := 19) dX5_restore_87 rfl rfl rfl (by decide) nX5_restore_X5 fX5_restore_52 ?_
      refine zs_iload_n dX5_restore_90 rfl ?_
      refine zs_iconst (x := 2) dX5_restore_91 (by decide) ?_
      refine zs_iadd dX5_restore_92 ?_
      refine zs_iaload dX5_restore_93 rfl (by decide) (by omega) (by omega) ?_
      refine zs_aload_n dX5_restore_94 rfl ?_
      refine zs_getr (j := 19) dX5_restore_95 rfl rfl rfl (by decide) nX5_restore_X5 fX5_restore_52 ?_
      refine zs_iload_n dX5_restore_98 rfl ?_
      refine zs_iconst (x := 3) dX5_restore_99 (by decide) ?_
      refine zs_iadd dX5_restore_100 ?_
      refine zs_iaload dX5_restore_101 rfl (by decide) (by omega) (by omega) ?_
      refine zs_eVv (As := [.inl (p), .inl (u 14 (((1000) * (m)) + ((5) * (p)))), .inl (u 14 ((((1000) * (m)) + ((5) * (p))) + (1))), .inl (u 14 ((((1000) * (m)) + ((5) * (p))) + (2))), .inl (u 14 ((((1000) * (m)) + ((5) * (p))) + (3)))]) (rest := []) (q := 0) dX5_restore_102 rfl (Nat.le_of_ble_eq_true rfl) rfl rfl YX5_writes rfl rfl (Nat.le_of_ble_eq_true rfl) gX5_restore_X5_writes (by decide) ⟨Nat.zero_le _, Nat.zero_le _⟩ rfl (t_X5_writes (w := u) (p) (u 14 (((1000) * (m)) + ((5) * (p)))) (u 14 ((((1000) * (m)) + ((5) * (p))) + (1))) (u 14 ((((1000) * (m)) + ((5) * (p))) + (2))) (u 14 ((((1000) * (m)) + ((5) * (p))) + (3))) (by omega) hS (by omega)) ?_
      refine zs_aload_n dX5_restore_105 rfl ?_
      refine zs_getr (j := 11) dX5_restore_106 rfl rfl rfl (by decide) nX5_restore_X5 fX5_restore_40 ?_
      refine zs_iload_n dX5_restore_109 rfl ?_
      refine zs_aload_n dX5_restore_110 rfl ?_
      refine zs_getr (j := 10) dX5_restore_111 rfl rfl rfl (by decide) nX5_restore_X5 fX5_restore_37 ?_
      refine zs_iload_n dX5_restore_114 rfl ?_
      refine zs_iaload dX5_restore_115 rfl (by decide) (by omega) (by omega) ?_
      refine zs_aload_n dX5_restore_116 rfl ?_
      refine zs_getr (j := 19) dX5_restore_117 rfl rfl rfl (by decide) nX5_restore_X5 fX5_restore_52 ?_
      refine zs_iload_n dX5_restore_120 rfl ?_
      refine zs_iconst (x := 4) dX5_restore_121 (by decide) ?_
      refine zs_iadd dX5_restore_122 ?_
      refine zs_iaload dX5_restore_123 rfl (by decide) (by omega) (by omega) ?_
      refine zs_iadd dX5_restore_124 ?_
      refine zs_iastore dX5_restore_125 rfl (by decide) (by decide) (by omega) (by omega) ?_
      refine zs_iinc (lv' := [some (.inr 0), some (.inl (m)), some (.inl (p + 1)), some (.inl (((1000) * (m)) + ((5) * (p))))]) dX5_restore_126 rfl (by decide) rfl ?_
      refine zs_goto (tgt := 50) dX5_restore_129 (by decide) ?_
      simp only [m_rs]
      exact ih n' (by omega) (m_re u m p) (p + 1) _ (x_S_of rfl rfl rfl rfl rfl rfl hS) e13 e14 e15 (by omega) (by omega)
set_option maxHeartbeats 4000000 in
set_option maxRecDepth 100000 in
theorem l_X5_restore1 {w : zs_V} {m : Int} (hm : 0 ≤ m ∧ m < 3) (hS : x_S w) (hP : m_rsP w m) (hM : 0 ≤ w 13 m ∧ w 13 m ≤ 200) : ∀ (n : Nat) (p : Int) (x3 : Option zs_A), 0 ≤ p → p + n = 200 → zs_R mX5_restore 0 0 shM (zs_X (w 13 m) (zs_put (m_rs m (w 13 m).toNat 0 (zs_fill w 5 0 200 (-99999999))) 17 0 0)) (zs_fill w 5 0 p (-99999999)) 27 [some (.inr 0), some (.inl (m)), some (.inl (p)), x3] [] := by
  intro n
  induction n using Nat.strongRecOn with
  | ind n ih =>
    intro p x3 h0 hn
    refine zs_iload_n dX5_restore_27 rfl ?_
    refine zs_sipush (x := 200) dX5_restore_28 (by decide) ?_
    refine zs_icmp_ge (tgt := 48) dX5_restore_31 (by decide) (by omega) (by omega) (fun h31 => ?_) (fun h31 => ?_)
    · refine zs_iconst (x := 0) dX5_restore_48 (by decide) ?_
      refine zs_istore_n (lv' := [some (.inr 0), some (.inl (m)), some (.inl (0)), x3]) dX5_restore_49 (by decide) rfl ?_
      obtain rfl : p = 200 := by omega
      exact l_X5_restore2 hm hP hM (w 13 m).toNat _ 0 _ (x_S_of rfl rfl rfl rfl rfl rfl hS) rfl rfl rfl (by omega) (by omega)
    · refine zs_aload_n dX5_restore_34 rfl ?_
      refine zs_getr (j := 6) dX5_restore_35 rfl rfl rfl (by decide) nX5_restore_X5 fX5_restore_25 ?_
      refine zs_iload_n dX5_restore_38 rfl ?_
      refine zs_ldc (x := -99999999) dX5_restore_39 kX5_restore_55 (by decide) ?_
      refine zs_iastore dX5_restore_41 rfl (by decide) (by decide) (by omega) (by omega) ?_
      refine zs_iinc (lv' := [some (.inr 0), some (.inl (m)), some (.inl (p + 1)), x3]) dX5_restore_42 rfl (by decide) rfl ?_
      refine zs_goto (tgt := 27) dX5_restore_45 (by decide) ?_
      rw [zs_fill_up w 5 p (-99999999) h0]
      exact ih (n - 1) (by omega) (p + 1) _ (by omega) (by omega)
set_option maxHeartbeats 4000000 in
set_option maxRecDepth 100000 in
theorem t_X5_restore {w : zs_V} (hS : x_S w) (m : Int) (hm : zn m) (hP : 0 ≤ m → m < 3 → m_rsP w m) : zs_R mX5_restore 0 0 shM (zs_X (m_resR w m) (m_resS w m)) w 0 [some (.inr 0), some (.inl (m)), none, none] [] := by
  refine zs_iload_n dX5_restore_0 rfl ?_
  refine zs_iconst (x := 0) dX5_restore_1 (by decide) ?_
  refine zs_iconst (x := 2) dX5_restore_2 (by decide) ?_
  refine zs_eS (As := [.inl (m), .inl (0), .inl (2)]) (rest := []) dX5_restore_3 rfl (Nat.le_of_ble_eq_true rfl) YX5_isIn rfl (Nat.le_of_ble_eq_true rfl) gX5_restore_X5_isIn (by decide) ⟨Nat.zero_le _, Nat.zero_le _⟩ rfl (t_X5_isIn (w := w) (m) (0) (2) (by omega) (by omega) (by omega)) ?_
  refine zs_ifz_ne (tgt := 11) dX5_restore_6 (by decide)  (fun h6 => ?_) (fun h6 => ?_)
  · have hP := hP (by omega) (by omega)
    have hP1 := hP.1
    have h6 : 0 ≤ m ∧ m < 3 := by omega
    refine zs_aload_n dX5_restore_11 rfl ?_
    refine zs_getr (j := 18) dX5_restore_12 rfl rfl rfl (by decide) nX5_restore_X5 fX5_restore_49 ?_
    refine zs_iload_n dX5_restore_15 rfl ?_
    refine zs_iaload dX5_restore_16 rfl (by decide) (by omega) (by omega) ?_
    refine zs_ldc (x := -99999999) dX5_restore_17 kX5_restore_55 (by decide) ?_
    refine zs_icmp_ne (tgt := 25) dX5_restore_19 (by decide) (by omega) (by omega) (fun h19 => ?_) (fun h19 => ?_)
    · refine zs_iconst (x := 0) dX5_restore_25 (by decide) ?_
      refine zs_istore_n (lv' := [some (.inr 0), some (.inl (m)), some (.inl (0)), none]) dX5_restore_26 (by decide) rfl ?_
      have hM : 0 ≤ w 13 m ∧ w 13 m ≤ 200 := hP1.resolve_left h19
      unfold m_resR m_resS
      rw [if_pos h6, if_pos h6, if_neg h19, if_neg h19]
      have hh := l_X5_restore1 h6 hS hP hM 200 0 none (by omega) (by omega)
      rw [zs_fill_0 w 5 0 0 (-99999999) (by omega)] at hh
      exact hh
    · refine zs_bipush (x := -2) dX5_restore_22 (by decide) ?_
      refine zs_iret dX5_restore_24 rfl ?_
      exact ⟨by unfold m_resR; rw [if_pos h6, if_pos h19], by unfold m_resS; rw [if_pos h6, if_pos h19]⟩
  · refine zs_iconst (x := -1) dX5_restore_9 (by decide) ?_
    refine zs_iret dX5_restore_10 rfl ?_
    exact ⟨by unfold m_resR; rw [if_neg (by omega)], by unfold m_resS; rw [if_neg (by omega)]⟩
