
def x_clI (v : zs_V) (s k : Int) (u : zs_V) (p : Int) : Prop := (∀ r, r ≠ 5 → r ≠ 9 → r ≠ 16 → u r = v r) ∧ (∀ q : Int, 0 ≤ q → q < 200 → u 5 q = if q < p ∧ ¬ v 5 q = -1 ∧ v 5 q / 1000 = s ∧ v 5 q / 10 % 100 = k then -1 else v 5 q) ∧ 0 ≤ u 16 0 ∧ u 16 0 ≤ v 16 0 ∧ x_L u = (x_L v).filter (fun q => !decide (q < p ∧ v 5 q / 1000 = s ∧ v 5 q / 10 % 100 = k))
def x_Clr (v : zs_V) (s k : Int) (v' : zs_V) : Prop := (∀ r, r ≠ 5 → r ≠ 9 → r ≠ 16 → v' r = v r) ∧ (∀ q : Int, 0 ≤ q → q < 200 → v' 5 q = if ¬ v 5 q = -1 ∧ v 5 q / 1000 = s ∧ v 5 q / 10 % 100 = k then -1 else v 5 q) ∧ 0 ≤ v' 16 0 ∧ v' 16 0 ≤ v 16 0 ∧ x_L v' = (x_L v).filter (fun q => !decide (v 5 q / 1000 = s ∧ v 5 q / 10 % 100 = k))
theorem x_cl_0 {v : zs_V} (s k : Int) (hT : x_T v) (h : 0 ≤ v 16 0) : x_clI v s k v 0 := by
  refine ⟨fun r _ _ _ => rfl, fun q h0 h1 => by rw [if_neg (by omega)], h, Int.le_refl _, ?_⟩
  symm
  apply List.filter_eq_self.mpr
  intro q hq
  have := (x_L_E hT hq).1.1
  simp only [show ¬ q < 0 by omega, false_and, decide_false, Bool.not_false]
theorem x_cl_skip {v u : zs_V} {s k p : Int} (hT : x_T v) (hI : x_clI v s k u p) (h : v 5 p = -1 ∨ ¬ (v 5 p / 1000 = s ∧ v 5 p / 10 % 100 = k)) : x_clI v s k u (p + 1) := by
  obtain ⟨h1, h2, h3, h4, h5⟩ := hI
  refine ⟨h1, fun q h0 hq => ?_, h3, h4, ?_⟩
  · rw [h2 q h0 hq]
    by_cases e : q = p
    · subst e
      rw [if_neg (by omega), if_neg (fun z => h.elim (fun a => z.2.1 a) (fun a => a z.2.2))]
    · by_cases c : q < p
      · simp only [c, show q < p + 1 by omega]
      · simp only [c, show ¬ q < p + 1 by omega]
  · rw [h5]
    apply List.filter_congr
    intro q hq
    by_cases e : q = p
    · subst e
      have hE := (x_L_E hT hq).1.2.2.1
      have hn : ¬ (v 5 q / 1000 = s ∧ v 5 q / 10 % 100 = k) := h.resolve_left (by omega)
      simp [hn]
    · by_cases c : q < p
      · simp only [c, show q < p + 1 by omega]
      · simp only [c, show ¬ q < p + 1 by omega]
theorem x_cl_vac {v u u' : zs_V} {s k p : Int} (hI : x_clI v s k u p) (hV : x_Vac u p u') (hn : ¬ v 5 p = -1) (hk : v 5 p / 1000 = s ∧ v 5 p / 10 % 100 = k) : x_clI v s k u' (p + 1) := by
  obtain ⟨h1, h2, h3, h4, h5⟩ := hI
  obtain ⟨g1, g2, g3, g4, g5⟩ := hV
  refine ⟨fun r a b c => (g1 r a b c).trans (h1 r a b c), fun q h0 hq => ?_, g3, by omega, ?_⟩
  · rw [g2 q, h2 q h0 hq]
    by_cases e : q = p
    · subst e
      rw [if_pos rfl, if_pos ⟨by omega, hn, hk⟩]
    · rw [if_neg e]
      by_cases c : q < p
      · simp only [c, show q < p + 1 by omega]
      · simp only [c, show ¬ q < p + 1 by omega]
  · rw [g5, h5, List.filter_filter]
    apply List.filter_congr
    intro q hq
    by_cases e : q = p
    · subst e
      simp [hk]
      omega
    · by_cases c : q < p
      · simp [e, c, show q < p + 1 by omega]
      · simp [e, c, show ¬ q < p + 1 by omega]
theorem x_cl_end {v u : zs_V} {s k : Int} (hT : x_T v) (hI : x_clI v s k u 200) : x_Clr v s k u := by
  obtain ⟨h1, h2, h3, h4, h5⟩ := hI
  refine ⟨h1, fun q h0 hq => ?_, h3, h4, ?_⟩
  · rw [h2 q h0 hq]
    simp only [hq, true_and]
  · rw [h5]
    apply List.filter_congr
    intro q hq
    have := (x_L_E hT hq).1.2.1
    simp only [this, true_and]
def x_Cle (v : zs_V) (s k r : Int) (v' : zs_V) : Prop := (¬ ((0 ≤ s ∧ s < v 15 0) ∧ 0 ≤ k ∧ k < 100) ∧ r = -1 ∧ v' = v) ∨ (((0 ≤ s ∧ s < v 15 0) ∧ 0 ≤ k ∧ k < 100) ∧ r = x_hm v s k 1 (x_L v) ∧ x_Clr v s k v')
set_option maxHeartbeats 4000000 in
set_option maxRecDepth 100000 in
theorem l_X4_clear {v : zs_V} {s k c : Int} (hJ : x_J v) (hs : zn s) (hk : zn k) : ∀ (n : Nat) (u : zs_V) (p : Int), 0 ≤ p → p + n = 200 → x_clI v s k u p → zs_R mX4_clear 0 0 shX (fun r v' => r = c ∧ x_Clr v s k v') u 22 [some (.inr 0), some (.inl (s)), some (.inl (k)), some (.inl (c)), some (.inl (p))] [] := by
  intro n
  induction n using Nat.strongRecOn with
  | ind n ih =>
    intro u p h0 hn hI
    refine zs_iload dX4_clear_22 rfl ?_
    refine zs_sipush (x := 200) dX4_clear_24 (by decide) ?_
    refine zs_icmp_ge (tgt := 68) dX4_clear_27 (by decide) (by omega) (by omega) (fun h27 => ?_) (fun h27 => ?_)
    · refine zs_iload_n dX4_clear_68 rfl ?_
      refine zs_iret dX4_clear_69 rfl ?_
      obtain rfl : p = 200 := by omega
      exact ⟨rfl, x_cl_end hJ.2.1 hI⟩
    · have e1 : u 5 p = v 5 p := by rw [hI.2.1 p (by omega) (by omega), if_neg (by omega)]
      have hzp := x_J_z hJ p (by omega) (by omega)
      refine zs_aload_n dX4_clear_30 rfl ?_
      refine zs_getr (j := 1) dX4_clear_31 rfl rfl rfl (by decide) nX4_clear_X4 fX4_clear_19 ?_
      refine zs_iload dX4_clear_34 rfl ?_
      refine zs_eV (As := [.inl (p)]) (rest := []) (q := 7) dX4_clear_36 rfl (Nat.le_of_ble_eq_true rfl) rfl rfl YX1_isTaken rfl rfl (Nat.le_of_ble_eq_true rfl) gX4_clear_X1_isTaken (by decide) ⟨Nat.zero_le _, Nat.zero_le _⟩ rfl (t_X1_isTaken (v := u) (p) (by omega) (by omega)) ?_
      refine zs_ifz_eq (tgt := 62) dX4_clear_39 (by decide)  (fun h39 => ?_) (fun h39 => ?_)
      · refine zs_iinc (lv' := [some (.inr 0), some (.inl (s)), some (.inl (k)), some (.inl (c)), some (.inl (p + 1))]) dX4_clear_62 rfl (by decide) rfl ?_
        refine zs_goto (tgt := 22) dX4_clear_65 (by decide) ?_
        exact ih (n - 1) (by omega) u (p + 1) (by omega) (by omega) (x_cl_skip hJ.2.1 hI (Or.inl (by omega)))
      · have hm2 := hJ.1.2.1
        have hEp : 0 ≤ v 5 p ∧ v 5 p < 1000 * v 15 0 := (hJ.2.2.1 p (by omega) (by omega)).elim (fun a => absurd (e1.trans a) h39) (fun a => a.1.2.2)
        refine zs_aload_n dX4_clear_42 rfl ?_
        refine zs_iload dX4_clear_43 rfl ?_
        refine zs_iload_n dX4_clear_45 rfl ?_
        refine zs_iload_n dX4_clear_46 rfl ?_
        refine zs_eV (As := [.inl (p), .inl (s), .inl (k)]) (rest := []) (q := 0) dX4_clear_47 rfl (Nat.le_of_ble_eq_true rfl) rfl rfl YX4_isOfKey rfl rfl (Nat.le_of_ble_eq_true rfl) gX4_clear_X4_isOfKey (by decide) ⟨Nat.zero_le _, Nat.zero_le _⟩ rfl (t_X4_isOfKey (v := u) (p) (s) (k) (by omega) (by omega) (by omega) (by omega)) ?_
        refine zs_ifz_eq (tgt := 62) dX4_clear_50 (by decide)  (fun h50 => ?_) (fun h50 => ?_)
        · refine zs_iinc (lv' := [some (.inr 0), some (.inl (s)), some (.inl (k)), some (.inl (c)), some (.inl (p + 1))]) dX4_clear_62 rfl (by decide) rfl ?_
          refine zs_goto (tgt := 22) dX4_clear_65 (by decide) ?_
          exact ih (n - 1) (by omega) u (p + 1) (by omega) (by omega) (x_cl_skip hJ.2.1 hI (Or.inr (by rw [← e1]; exact h50)))
        · refine zs_aload_n dX4_clear_53 rfl ?_
          refine zs_getr (j := 1) dX4_clear_54 rfl rfl rfl (by decide) nX4_clear_X4 fX4_clear_19 ?_
          refine zs_iload dX4_clear_57 rfl ?_
          refine zs_callVv (As := [.inl (p)]) (rest := []) (q := 7) dX4_clear_59 rfl (Nat.le_of_ble_eq_true rfl) rfl rfl YX1_vacate rfl rfl (Nat.le_of_ble_eq_true rfl) gX4_clear_X1_vacate (by decide) ⟨Nat.zero_le _, Nat.zero_le _⟩ rfl (t_X1_vacate (v := u) (p := p) (by omega) (by have := hI.2.2.1; have := hI.2.2.2.1; have := hJ.2.1.2.1; omega) (fun j h1 h2 => by have hm := x_L_line (v := u) h1 h2; rw [hI.2.2.2.2] at hm; have hE := x_L_E hJ.2.1 (List.mem_filter.mp hm).1; have q1 := hE.1.1; have q2 := hE.1.2.1; omega)) ?_
          intro u' hu
          refine zs_iinc (lv' := [some (.inr 0), some (.inl (s)), some (.inl (k)), some (.inl (c)), some (.inl (p + 1))]) dX4_clear_62 rfl (by decide) rfl ?_
          refine zs_goto (tgt := 22) dX4_clear_65 (by decide) ?_
          exact ih (n - 1) (by omega) u' (p + 1) (by omega) (by omega) (x_cl_vac hI hu (by omega) (by rw [← e1]; exact h50))
set_option maxHeartbeats 4000000 in
set_option maxRecDepth 100000 in
theorem t_X4_clear {v : zs_V} (hJ : x_J v) (s k : Int) (hs : zn s) (hk : zn k) : zs_R mX4_clear 0 0 shX (fun r v' => x_Cle v s k r v') v 0 [some (.inr 0), some (.inl (s)), some (.inl (k)), none, none] [] := by
  have hS := hJ.1
  have hT := hJ.2.1
  have hm2 := hS.2.1
  have hm1 := hS.1
  refine zs_aload_n dX4_clear_0 rfl ?_
  refine zs_iload_n dX4_clear_1 rfl ?_
  refine zs_iload_n dX4_clear_2 rfl ?_
  refine zs_eV (As := [.inl (s), .inl (k)]) (rest := []) (q := 0) dX4_clear_3 rfl (Nat.le_of_ble_eq_true rfl) rfl rfl YX4_isStateAndKey rfl rfl (Nat.le_of_ble_eq_true rfl) gX4_clear_X4_isStateAndKey (by decide) ⟨Nat.zero_le _, Nat.zero_le _⟩ rfl (t_X4_isStateAndKey (v := v) (s) (k) (by omega) (by omega) (by omega)) ?_
  refine zs_ifz_ne (tgt := 11) dX4_clear_6 (by decide)  (fun h6 => ?_) (fun h6 => ?_)
  · refine zs_aload_n dX4_clear_11 rfl ?_
    refine zs_iload_n dX4_clear_12 rfl ?_
    refine zs_iload_n dX4_clear_13 rfl ?_
    refine zs_iconst (x := 1) dX4_clear_14 (by decide) ?_
    refine zs_eV (As := [.inl (s), .inl (k), .inl (1)]) (rest := []) (q := 0) dX4_clear_15 rfl (Nat.le_of_ble_eq_true rfl) rfl rfl YX4_howMany rfl rfl (Nat.le_of_ble_eq_true rfl) gX4_clear_X4_howMany (by decide) ⟨Nat.zero_le _, Nat.zero_le _⟩ rfl (t_X4_howMany (v := v) (s) (k) (1) hS hT (by omega) (by omega) (by omega)) ?_
    refine zs_istore_n (lv' := [some (.inr 0), some (.inl (s)), some (.inl (k)), some (.inl (x_hm v (s) (k) (1) (x_L v))), none]) dX4_clear_18 (by decide) rfl ?_
    refine zs_iconst (x := 0) dX4_clear_19 (by decide) ?_
    refine zs_istore (lv' := [some (.inr 0), some (.inl (s)), some (.inl (k)), some (.inl (x_hm v (s) (k) (1) (x_L v))), some (.inl (0))]) dX4_clear_20 (by decide) rfl ?_
    exact zs_mono (fun r v' h => Or.inr ⟨h6, h.1, h.2⟩) (l_X4_clear hJ hs hk 200 v 0 (by omega) (by omega) (x_cl_0 s k hT hT.1))
  · refine zs_iconst (x := -1) dX4_clear_9 (by decide) ?_
    refine zs_iret dX4_clear_10 rfl ?_
    exact Or.inl ⟨h6, rfl, rfl⟩

def x_Sw : Nat → zs_V → Int → zs_V → Prop
  | 0, v, c, v' => c = 0 ∧ v' = v
  | n + 1, v, c, v' => ((¬ v 5 (v 20 0) = -1 ∧ ¬ 0 < x_left v (v 20 0)) ∧ ∃ u, x_Vac (x_tell v (v 20 0)) (v 20 0) u ∧ x_Sw n (zs_put u 20 0 ((v 20 0 + 1) % 200)) (c - 1) v') ∨ (¬ (¬ v 5 (v 20 0) = -1 ∧ ¬ 0 < x_left v (v 20 0)) ∧ x_Sw n (zs_put v 20 0 ((v 20 0 + 1) % 200)) c v')
theorem x_J_20 {v : zs_V} {x : Int} (h : x_J v) (hx : 0 ≤ x ∧ x < 200) : x_J (zs_put v 20 0 x) := by
  obtain ⟨h1, h2, h3, h4, h5, h6, h7⟩ := h
  refine ⟨x_S_of rfl rfl rfl rfl rfl rfl h1, x_T_of rfl rfl rfl rfl rfl h2, fun p a b => (h3 p a b).imp id (x_E_of rfl rfl rfl), h4, h5, ?_⟩
  rw [zs_put_s]
  exact hx
theorem x_J_tv {v u : zs_V} (h : x_J v) (hV : x_Vac (x_tell v (v 20 0)) (v 20 0) u) : x_J u := by
  obtain ⟨h1, h2, h3, h4, h5, h6, h7⟩ := h
  have hk := x_tell_K (p := v 20 0) h4 h5
  have e5 := x_tell_r v (v 20 0) (r := 5) (by decide) (by decide) (by decide) (by decide)
  have e8 := x_tell_r v (v 20 0) (r := 8) (by decide) (by decide) (by decide) (by decide)
  have e15 := x_tell_r v (v 20 0) (r := 15) (by decide) (by decide) (by decide) (by decide)
  have e20 := x_tell_r v (v 20 0) (r := 20) (by decide) (by decide) (by decide) (by decide)
  refine ⟨x_Vac_S hV (x_tell_S h1), x_Vac_T hV (x_tell_T h2), fun p a b => ?_, ?_, ?_, ?_⟩
  · rw [hV.2.1 p]
    by_cases e : p = v 20 0
    · left; rw [if_pos e]
    · rw [if_neg e, e5]
      refine (h3 p a b).imp id (fun q => ?_)
      obtain ⟨⟨q1, q2, q3, q4⟩, q5⟩ := q
      refine ⟨⟨q1, q2, ?_⟩, ?_⟩
      · rw [hV.2.1 p, if_neg e, e5, hV.1 15 (by decide) (by decide) (by decide), e15]
        exact ⟨q3, q4⟩
      · rw [hV.1 8 (by decide) (by decide) (by decide), e8]
        exact q5
  · rw [hV.1 17 (by decide) (by decide) (by decide)]
    exact hk.1
  · rw [hV.1 18 (by decide) (by decide) (by decide)]
    exact hk.2
  · rw [hV.1 20 (by decide) (by decide) (by decide), e20]
    exact ⟨h6, h7⟩
def x_Swe (v : zs_V) (n r : Int) (v' : zs_V) : Prop := (¬ (1 ≤ n ∧ n ≤ 200) ∧ r = -1 ∧ v' = v) ∨ ((1 ≤ n ∧ n ≤ 200) ∧ x_Sw n.toNat v r v')
set_option maxHeartbeats 4000000 in
set_option maxRecDepth 100000 in
theorem l_X4_sweep {N : Int} (hN : zn N) : ∀ (n : Nat) (u : zs_V) (c j : Int), x_J u → 0 ≤ j → j + n = N → zs_R mX4_sweep 0 0 shX (fun r v' => x_Sw n u (r - c) v') u 18 [some (.inr 0), some (.inl (N)), some (.inl (c)), some (.inl (j))] [] := by
  intro n
  induction n using Nat.strongRecOn with
  | ind n ih =>
    intro u c j hJ h0 hn
    refine zs_iload_n dX4_sweep_18 rfl ?_
    refine zs_iload_n dX4_sweep_19 rfl ?_
    refine zs_icmp_ge (tgt := 90) dX4_sweep_20 (by decide) (by omega) (by omega) (fun h20 => ?_) (fun h20 => ?_)
    · refine zs_iload_n dX4_sweep_90 rfl ?_
      refine zs_iret dX4_sweep_91 rfl ?_
      obtain rfl : n = 0 := by omega
      exact ⟨by omega, rfl⟩
    · obtain ⟨n', rfl⟩ : ∃ n', n = n' + 1 := ⟨n - 1, by omega⟩
      have hS := hJ.1
      have hf1 := hJ.2.2.2.2.2.1
      have hf2 := hJ.2.2.2.2.2.2
      have hzp := x_J_z hJ (u 20 0) (by omega) (by omega)
      refine zs_aload_n dX4_sweep_23 rfl ?_
      refine zs_getr (j := 1) dX4_sweep_24 rfl rfl rfl (by decide) nX4_sweep_X4 fX4_sweep_19 ?_
      refine zs_aload_n dX4_sweep_27 rfl ?_
      refine zs_geti (j := 4) dX4_sweep_28 rfl rfl rfl (by decide) nX4_sweep_X4 fX4_sweep_37 ?_
      refine zs_eV (As := [.inl (u 20 0)]) (rest := []) (q := 7) dX4_sweep_31 rfl (Nat.le_of_ble_eq_true rfl) rfl rfl YX1_isTaken rfl rfl (Nat.le_of_ble_eq_true rfl) gX4_sweep_X1_isTaken (by decide) ⟨Nat.zero_le _, Nat.zero_le _⟩ rfl (t_X1_isTaken (v := u) (u 20 0) (by omega) (by omega)) ?_
      refine zs_ifz_eq (tgt := 70) dX4_sweep_34 (by decide)  (fun h34 => ?_) (fun h34 => ?_)
      · refine zs_aload_n dX4_sweep_70 rfl ?_
        refine zs_aload_n dX4_sweep_71 rfl ?_
        refine zs_geti (j := 4) dX4_sweep_72 rfl rfl rfl (by decide) nX4_sweep_X4 fX4_sweep_37 ?_
        refine zs_iconst (x := 1) dX4_sweep_75 (by decide) ?_
        refine zs_iadd dX4_sweep_76 ?_
        refine zs_sipush (x := 200) dX4_sweep_77 (by decide) ?_
        refine zs_irem dX4_sweep_80 (by omega) (by omega) ?_
        refine zs_puti (j := 4) dX4_sweep_81 rfl rfl (by decide) rfl (by decide) nX4_sweep_X4 tyX4 tyX4_ok nmX4 rfl (by decide +kernel) fX4_sweep_37 ?_
        refine zs_iinc (lv' := [some (.inr 0), some (.inl (N)), some (.inl (c)), some (.inl (j + 1))]) dX4_sweep_84 rfl (by decide) rfl ?_
        refine zs_goto (tgt := 18) dX4_sweep_87 (by decide) ?_
        refine zs_mono (fun r v' h => Or.inr ⟨(fun z => h34 z.1), h⟩) (ih n' (by omega) (zs_put u 20 0 ((u 20 0 + 1) % 200)) c (j + 1) (x_J_20 hJ (by omega)) (by omega) (by omega))
      · have hE := (hJ.2.2.1 (u 20 0) (by omega) (by omega)).resolve_left h34
        refine zs_aload_n dX4_sweep_37 rfl ?_
        refine zs_aload_n dX4_sweep_38 rfl ?_
        refine zs_geti (j := 4) dX4_sweep_39 rfl rfl rfl (by decide) nX4_sweep_X4 fX4_sweep_37 ?_
        refine zs_eV (As := [.inl (u 20 0)]) (rest := []) (q := 0) dX4_sweep_42 rfl (Nat.le_of_ble_eq_true rfl) rfl rfl YX4_isShown rfl rfl (Nat.le_of_ble_eq_true rfl) gX4_sweep_X4_isShown (by decide) ⟨Nat.zero_le _, Nat.zero_le _⟩ rfl (t_X4_isShown (v := u) (u 20 0) hS hE) ?_
        refine zs_ifz_ne (tgt := 70) dX4_sweep_45 (by decide)  (fun h45 => ?_) (fun h45 => ?_)
        · refine zs_aload_n dX4_sweep_70 rfl ?_
          refine zs_aload_n dX4_sweep_71 rfl ?_
          refine zs_geti (j := 4) dX4_sweep_72 rfl rfl rfl (by decide) nX4_sweep_X4 fX4_sweep_37 ?_
          refine zs_iconst (x := 1) dX4_sweep_75 (by decide) ?_
          refine zs_iadd dX4_sweep_76 ?_
          refine zs_sipush (x := 200) dX4_sweep_77 (by decide) ?_
          refine zs_irem dX4_sweep_80 (by omega) (by omega) ?_
          refine zs_puti (j := 4) dX4_sweep_81 rfl rfl (by decide) rfl (by decide) nX4_sweep_X4 tyX4 tyX4_ok nmX4 rfl (by decide +kernel) fX4_sweep_37 ?_
          refine zs_iinc (lv' := [some (.inr 0), some (.inl (N)), some (.inl (c)), some (.inl (j + 1))]) dX4_sweep_84 rfl (by decide) rfl ?_
          refine zs_goto (tgt := 18) dX4_sweep_87 (by decide) ?_
          refine zs_mono (fun r v' h => Or.inr ⟨(fun z => z.2 h45), h⟩) (ih n' (by omega) (zs_put u 20 0 ((u 20 0 + 1) % 200)) c (j + 1) (x_J_20 hJ (by omega)) (by omega) (by omega))
        · have hP := hE.1
          have hF := hJ.2.2.2.1
          have hK := hJ.2.2.2.2.1
          refine zs_aload_n dX4_sweep_48 rfl ?_
          refine zs_aload_n dX4_sweep_49 rfl ?_
          refine zs_geti (j := 4) dX4_sweep_50 rfl rfl rfl (by decide) nX4_sweep_X4 fX4_sweep_37 ?_
          refine zs_eVv (As := [.inl (u 20 0)]) (rest := []) (q := 0) dX4_sweep_53 rfl (Nat.le_of_ble_eq_true rfl) rfl rfl YX4_tell rfl rfl (Nat.le_of_ble_eq_true rfl) gX4_sweep_X4_tell (by decide) ⟨Nat.zero_le _, Nat.zero_le _⟩ rfl (t_X4_tell (v := u) (u 20 0) hS hP hF hK) ?_
          have e20 : (x_tell u (u 20 0)) 20 0 = u 20 0 := by rw [x_tell_r u (u 20 0) (by decide) (by decide) (by decide) (by decide)]
          have hTt := x_tell_T (p := u 20 0) hJ.2.1
          refine zs_aload_n dX4_sweep_56 rfl ?_
          refine zs_getr (j := 1) dX4_sweep_57 rfl rfl rfl (by decide) nX4_sweep_X4 fX4_sweep_19 ?_
          refine zs_aload_n dX4_sweep_60 rfl ?_
          refine zs_geti (j := 4) dX4_sweep_61 rfl rfl rfl (by decide) nX4_sweep_X4 fX4_sweep_37 ?_
          refine zs_callVv (As := [.inl ((x_tell u (u 20 0)) 20 0)]) (rest := []) (q := 7) dX4_sweep_64 rfl (Nat.le_of_ble_eq_true rfl) rfl rfl YX1_vacate rfl rfl (Nat.le_of_ble_eq_true rfl) gX4_sweep_X1_vacate (by decide) ⟨Nat.zero_le _, Nat.zero_le _⟩ rfl (t_X1_vacate (v := (x_tell u (u 20 0))) (p := (x_tell u (u 20 0)) 20 0) (by omega) ⟨hTt.1, hTt.2.1⟩ (x_T_z hTt)) ?_
          intro u1 hu
          rw [e20] at hu
          have e21 : u1 20 0 = u 20 0 := by rw [hu.1 20 (by decide) (by decide) (by decide), e20]
          refine zs_iinc (lv' := [some (.inr 0), some (.inl (N)), some (.inl (c + 1)), some (.inl (j))]) dX4_sweep_67 rfl (by decide) rfl ?_
          refine zs_aload_n dX4_sweep_70 rfl ?_
          refine zs_aload_n dX4_sweep_71 rfl ?_
          refine zs_geti (j := 4) dX4_sweep_72 rfl rfl rfl (by decide) nX4_sweep_X4 fX4_sweep_37 ?_
          refine zs_iconst (x := 1) dX4_sweep_75 (by decide) ?_
          refine zs_iadd dX4_sweep_76 ?_
          refine zs_sipush (x := 200) dX4_sweep_77 (by decide) ?_
          refine zs_irem dX4_sweep_80 (by omega) (by omega) ?_
          refine zs_puti (j := 4) dX4_sweep_81 rfl rfl (by decide) rfl (by decide) nX4_sweep_X4 tyX4 tyX4_ok nmX4 rfl (by decide +kernel) fX4_sweep_37 ?_
          refine zs_iinc (lv' := [some (.inr 0), some (.inl (N)), some (.inl (c + 1)), some (.inl (j + 1))]) dX4_sweep_84 rfl (by decide) rfl ?_
          refine zs_goto (tgt := 18) dX4_sweep_87 (by decide) ?_
          rw [e21]
          refine zs_mono (fun r v' h => Or.inl ⟨⟨h34, h45⟩, u1, hu, ?_⟩) (ih n' (by omega) (zs_put u1 20 0 ((u 20 0 + 1) % 200)) (c + 1) (j + 1) (x_J_20 (x_J_tv hJ hu) (by omega)) (by omega) (by omega))
          rw [show r - c - 1 = r - (c + 1) by omega]
          exact h
set_option maxHeartbeats 4000000 in
set_option maxRecDepth 100000 in
theorem t_X4_sweep {v : zs_V} (hJ : x_J v) (n : Int) (hn : zn n) : zs_R mX4_sweep 0 0 shX (fun r v' => x_Swe v n r v') v 0 [some (.inr 0), some (.inl (n)), none, none] [] := by
  refine zs_iload_n dX4_sweep_0 rfl ?_
  refine zs_iconst (x := 1) dX4_sweep_1 (by decide) ?_
  refine zs_icmp_lt (tgt := 12) dX4_sweep_2 (by decide) (by omega) (by omega) (fun h2 => ?_) (fun h2 => ?_)
  · refine zs_iconst (x := -1) dX4_sweep_12 (by decide) ?_
    refine zs_iret dX4_sweep_13 rfl ?_
    exact Or.inl ⟨by omega, rfl, rfl⟩
  · refine zs_iload_n dX4_sweep_5 rfl ?_
    refine zs_sipush (x := 200) dX4_sweep_6 (by decide) ?_
    refine zs_icmp_le (tgt := 14) dX4_sweep_9 (by decide) (by omega) (by omega) (fun h9 => ?_) (fun h9 => ?_)
    · refine zs_iconst (x := 0) dX4_sweep_14 (by decide) ?_
      refine zs_istore_n (lv' := [some (.inr 0), some (.inl (n)), some (.inl (0)), none]) dX4_sweep_15 (by decide) rfl ?_
      refine zs_iconst (x := 0) dX4_sweep_16 (by decide) ?_
      refine zs_istore_n (lv' := [some (.inr 0), some (.inl (n)), some (.inl (0)), some (.inl (0))]) dX4_sweep_17 (by decide) rfl ?_
      exact zs_mono (fun r v' h => Or.inr ⟨by omega, by rw [show r - 0 = r by omega] at h; exact h⟩) (l_X4_sweep hn n.toNat v 0 0 hJ (by omega) (by omega))
    · refine zs_iconst (x := -1) dX4_sweep_12 (by decide) ?_
      refine zs_iret dX4_sweep_13 rfl ?_
      exact Or.inl ⟨by omega, rfl, rfl⟩

noncomputable def x_markR (v : zs_V) (m : Int) : Int := if 0 ≤ m ∧ m < 3 then (x_mk m (x_L v) (zs_put v 14 m 0)) 14 m else -1
noncomputable def x_markS (v : zs_V) (m : Int) : zs_V := if 0 ≤ m ∧ m < 3 then x_mk m (x_L v) (zs_put v 14 m 0) else v
theorem x_keep_n (u : zs_V) (m s x l : Int) : (x_keep u m s x l) 14 m = u 14 m + 1 := by unfold x_keep; rw [zs_put_s]
set_option maxHeartbeats 4000000 in
set_option maxRecDepth 100000 in
theorem l_X4_mark {m : Int} (hm : 0 ≤ m ∧ m < 3) : ∀ (n : Nat) (u : zs_V) (j : Int) (x3 : Option zs_A), x_S u → x_T u → 0 ≤ j → j + n = u 16 0 → 0 ≤ u 14 m → u 14 m ≤ j → zs_R mX4_mark 0 0 shX (zs_X ((x_mk m (x_seg u j n) u) 14 m) (x_mk m (x_seg u j n) u)) u 19 [some (.inr 0), some (.inl (m)), some (.inl (j)), x3] [] := by
  intro n
  induction n using Nat.strongRecOn with
  | ind n ih =>
    intro u j x3 hS hT h0 hn hz0 hzj
    have hT1 := hT.2.1
    refine zs_iload_n dX4_mark_19 rfl ?_
    refine zs_aload_n dX4_mark_20 rfl ?_
    refine zs_getr (j := 1) dX4_mark_21 rfl rfl rfl (by decide) nX4_mark_X4 fX4_mark_19 ?_
    refine zs_geti (j := 5) dX4_mark_24 rfl rfl rfl (by decide) nX4_mark_X1 fX4_mark_142 ?_
    refine zs_icmp_ge (tgt := 85) dX4_mark_27 (by decide) (by omega) (by omega) (fun h27 => ?_) (fun h27 => ?_)
    · refine zs_aload_n dX4_mark_85 rfl ?_
      refine zs_getr (j := 3) dX4_mark_86 rfl rfl rfl (by decide) nX4_mark_X4 fX4_mark_33 ?_
      refine zs_getr (j := 3) dX4_mark_89 rfl rfl rfl (by decide) nX4_mark_X0 fX4_mark_158 ?_
      refine zs_iload_n dX4_mark_92 rfl ?_
      refine zs_iaload dX4_mark_93 rfl (by decide) (by omega) (by omega) ?_
      refine zs_iret dX4_mark_94 rfl ?_
      obtain rfl : n = 0 := by omega
      exact ⟨rfl, rfl⟩
    · obtain ⟨n', rfl⟩ : ∃ n', n = n' + 1 := ⟨n - 1, by omega⟩
      have hE := hT.2.2 j (by omega) (by omega)
      have hf := x_P_f hS hE.1
      refine zs_aload_n dX4_mark_30 rfl ?_
      refine zs_getr (j := 1) dX4_mark_31 rfl rfl rfl (by decide) nX4_mark_X4 fX4_mark_19 ?_
      refine zs_getr (j := 4) dX4_mark_34 rfl rfl rfl (by decide) nX4_mark_X1 fX4_mark_145 ?_
      refine zs_iload_n dX4_mark_37 rfl ?_
      refine zs_iaload dX4_mark_38 rfl (by decide) (by omega) (by omega) ?_
      refine zs_istore_n (lv' := [some (.inr 0), some (.inl (m)), some (.inl (j)), some (.inl (u 9 (j)))]) dX4_mark_39 (by decide) rfl ?_
      refine zs_aload_n dX4_mark_40 rfl ?_
      refine zs_iload_n dX4_mark_41 rfl ?_
      refine zs_eV (As := [.inl (u 9 (j))]) (rest := []) (q := 0) dX4_mark_42 rfl (Nat.le_of_ble_eq_true rfl) rfl rfl YX4_isShown rfl rfl (Nat.le_of_ble_eq_true rfl) gX4_mark_X4_isShown (by decide) ⟨Nat.zero_le _, Nat.zero_le _⟩ rfl (t_X4_isShown (v := u) (u 9 (j)) hS hE) ?_
      refine zs_ifz_eq (tgt := 79) dX4_mark_45 (by decide)  (fun h45 => ?_) (fun h45 => ?_)
      · refine zs_iinc (lv' := [some (.inr 0), some (.inl (m)), some (.inl (j + 1)), some (.inl (u 9 (j)))]) dX4_mark_79 rfl (by decide) rfl ?_
        refine zs_goto (tgt := 19) dX4_mark_82 (by decide) ?_
        simp only [x_seg, x_mk]
        rw [if_neg h45]
        exact ih n' (by omega) u (j + 1) _ hS hT (by omega) (by omega) hz0 (by omega)
      · refine zs_aload_n dX4_mark_48 rfl ?_
        refine zs_getr (j := 3) dX4_mark_49 rfl rfl rfl (by decide) nX4_mark_X4 fX4_mark_33 ?_
        refine zs_iload_n dX4_mark_52 rfl ?_
        refine zs_aload_n dX4_mark_53 rfl ?_
        refine zs_getr (j := 1) dX4_mark_54 rfl rfl rfl (by decide) nX4_mark_X4 fX4_mark_19 ?_
        refine zs_getr (j := 0) dX4_mark_57 rfl rfl rfl (by decide) nX4_mark_X1 fX4_mark_148 ?_
        refine zs_iload_n dX4_mark_60 rfl ?_
        refine zs_iaload dX4_mark_61 rfl (by decide) (by omega) (by omega) ?_
        refine zs_aload_n dX4_mark_62 rfl ?_
        refine zs_getr (j := 1) dX4_mark_63 rfl rfl rfl (by decide) nX4_mark_X4 fX4_mark_19 ?_
        refine zs_getr (j := 1) dX4_mark_66 rfl rfl rfl (by decide) nX4_mark_X1 fX4_mark_151 ?_
        refine zs_iload_n dX4_mark_69 rfl ?_
        refine zs_iaload dX4_mark_70 rfl (by decide) (by omega) (by omega) ?_
        refine zs_aload_n dX4_mark_71 rfl ?_
        refine zs_iload_n dX4_mark_72 rfl ?_
        refine zs_eV (As := [.inl (u 9 (j))]) (rest := [.inl (u 6 (u 9 (j))), .inl (u 5 (u 9 (j))), .inl (m), .inr 15]) (q := 0) dX4_mark_73 rfl (Nat.le_of_ble_eq_true rfl) rfl rfl YX4_leftOf rfl rfl (Nat.le_of_ble_eq_true rfl) gX4_mark_X4_leftOf (by decide) ⟨Nat.zero_le _, Nat.zero_le _⟩ rfl (t_X4_leftOf (v := u) (u 9 (j)) hS hE) ?_
        refine zs_eVv (As := [.inl (m), .inl (u 5 (u 9 (j))), .inl (u 6 (u 9 (j))), .inl (x_left u (u 9 (j)))]) (rest := []) (q := 15) dX4_mark_76 rfl (Nat.le_of_ble_eq_true rfl) rfl rfl YX0_keep rfl rfl (Nat.le_of_ble_eq_true rfl) gX4_mark_X0_keep (by decide) ⟨Nat.zero_le _, Nat.zero_le _⟩ rfl (t_X0_keep (v := u) (m) (u 5 (u 9 (j))) (u 6 (u 9 (j))) (x_left u (u 9 (j))) (by omega) (by omega)) ?_
        refine zs_iinc (lv' := [some (.inr 0), some (.inl (m)), some (.inl (j + 1)), some (.inl (u 9 (j)))]) dX4_mark_79 rfl (by decide) rfl ?_
        refine zs_goto (tgt := 19) dX4_mark_82 (by decide) ?_
        simp only [x_seg, x_mk]
        rw [if_pos h45, ← x_seg_9 (show (x_keep u m (u 5 (u 9 j)) (u 6 (u 9 j)) (x_left u (u 9 j))) 9 = u 9 from rfl) (j + 1) n']
        have hk1 := x_keep_n u m (u 5 (u 9 j)) (u 6 (u 9 j)) (x_left u (u 9 j))
        have et : (x_keep u m (u 5 (u 9 j)) (u 6 (u 9 j)) (x_left u (u 9 j))) 16 0 = u 16 0 := rfl
        exact ih n' (by omega) (x_keep u m (u 5 (u 9 j)) (u 6 (u 9 j)) (x_left u (u 9 j))) (j + 1) _ (x_S_of rfl rfl rfl rfl rfl rfl hS) (x_T_of rfl rfl rfl rfl rfl hT) (by omega) (by omega) (by omega) (by omega)
set_option maxHeartbeats 4000000 in
set_option maxRecDepth 100000 in
theorem t_X4_mark {v : zs_V} (hS : x_S v) (hT : x_T v) (m : Int) (hm : zn m) : zs_R mX4_mark 0 0 shX (zs_X (x_markR v m) (x_markS v m)) v 0 [some (.inr 0), some (.inl (m)), none, none] [] := by
  refine zs_iload_n dX4_mark_0 rfl ?_
  refine zs_eS (As := [.inl (m)]) (rest := []) dX4_mark_1 rfl (Nat.le_of_ble_eq_true rfl) YX4_isMark rfl (Nat.le_of_ble_eq_true rfl) gX4_mark_X4_isMark (by decide) ⟨Nat.zero_le _, Nat.zero_le _⟩ rfl (t_X4_isMark (v := v) (m) (by omega)) ?_
  refine zs_ifz_ne (tgt := 9) dX4_mark_4 (by decide)  (fun h4 => ?_) (fun h4 => ?_)
  · refine zs_aload_n dX4_mark_9 rfl ?_
    refine zs_getr (j := 3) dX4_mark_10 rfl rfl rfl (by decide) nX4_mark_X4 fX4_mark_33 ?_
    refine zs_iload_n dX4_mark_13 rfl ?_
    refine zs_eVv (As := [.inl (m)]) (rest := []) (q := 15) dX4_mark_14 rfl (Nat.le_of_ble_eq_true rfl) rfl rfl YX0_begin rfl rfl (Nat.le_of_ble_eq_true rfl) gX4_mark_X0_begin (by decide) ⟨Nat.zero_le _, Nat.zero_le _⟩ rfl (t_X0_begin (v := v) (m) (by omega)) ?_
    refine zs_iconst (x := 0) dX4_mark_17 (by decide) ?_
    refine zs_istore_n (lv' := [some (.inr 0), some (.inl (m)), some (.inl (0)), none]) dX4_mark_18 (by decide) rfl ?_
    have h14 : (zs_put v 14 m 0) 14 m = 0 := zs_put_s _ _ _ _
    have ht := hT.1
    have et : (zs_put v 14 m 0) 16 0 = v 16 0 := rfl
    unfold x_markR x_markS
    rw [if_pos h4, if_pos h4, ← x_L_of (u := zs_put v 14 m 0) (v := v) rfl rfl]
    exact l_X4_mark h4 (v 16 0).toNat (zs_put v 14 m 0) 0 _ (x_S_of rfl rfl rfl rfl rfl rfl hS) (x_T_of rfl rfl rfl rfl rfl hT) (by omega) (by omega) (by omega) (by omega)
  · refine zs_iconst (x := -1) dX4_mark_7 (by decide) ?_
    refine zs_iret dX4_mark_8 rfl ?_
    exact ⟨by unfold x_markR; rw [if_neg h4], by unfold x_markS; rw [if_neg h4]⟩

def z_up : Nat → List Int
  | 0 => []
  | n + 1 => z_up n ++ [(n : Int)]
theorem z_up_m {n : Nat} {q : Int} (h : q ∈ z_up n) : 0 ≤ q ∧ q < n := by
  induction n with
  | zero => simp [z_up] at h
  | succ n ih =>
    simp only [z_up, List.mem_append, List.mem_singleton] at h
    rcases h with h | h
    · have := ih h
      omega
    · omega
def x_tq (v : zs_V) (m q : Int) : Int := v 4 (v 1 (v 11 (m * 200 + q) / 1000))
def x_rsI (v : zs_V) (m : Int) (u : zs_V) (p : Int) : Prop := (∀ r, r ≠ 5 → r ≠ 6 → r ≠ 7 → r ≠ 8 → r ≠ 9 → r ≠ 16 → u r = v r) ∧ u 16 0 = p ∧ x_L u = z_up p.toNat ∧ (∀ q : Int, 0 ≤ q → q < 200 → u 5 q = if q < p then v 11 (m * 200 + q) else -1) ∧ (∀ q : Int, 0 ≤ q → q < p → u 6 q = v 12 (m * 200 + q) ∧ u 7 q = x_tq v m q ∧ u 8 q = x_tq v m q + v 13 (m * 200 + q))
/-- the mark m can be restored -/
def x_rsP (v : zs_V) (m : Int) : Prop := v 14 m ≤ 200 ∧ (∀ i : Int, 0 ≤ i → i < v 14 m → 0 ≤ v 11 (m * 200 + i) ∧ v 11 (m * 200 + i) < 1000 * v 15 0) ∧ ∀ i j : Int, 0 ≤ i → i < j → j < v 14 m → v 11 (m * 200 + i) ≤ v 11 (m * 200 + j)
theorem x_rs_0 (v : zs_V) (m : Int) : x_rsI v m (zs_put (zs_fill v 5 0 200 (-1)) 16 0 0) 0 := by
  refine ⟨fun r a b c d e f => ?_, zs_put_s _ _ _ _, ?_, fun q h0 h1 => ?_, fun q h0 h1 => absurd h1 (by omega)⟩
  · rw [zs_put_r _ _ _ _ f]
    funext k
    unfold zs_fill
    rw [if_neg (fun z => a z.1)]
  · unfold x_L
    rw [zs_put_s]
    rfl
  · rw [zs_put_r _ _ _ _ (by decide), if_neg (by omega)]
    unfold zs_fill
    rw [if_pos ⟨rfl, h0, h1⟩]
theorem x_rs_tk {v u : zs_V} {m p : Int} (hS : x_S v) (hP : x_rsP v m) (hI : x_rsI v m u p) (h0 : 0 ≤ p) (hp : p < v 14 m) : x_tkP u p (u 11 (m * 200 + p)) := by
  have h200 := hP.1
  have hm := hS.2.1
  have hq := hP.2.1 p h0 hp
  have e11 := hI.1 11 (by decide) (by decide) (by decide) (by decide) (by decide) (by decide)
  refine ⟨by rw [hI.2.1]; exact h0, by rw [hI.2.1]; omega, h0, by omega, by rw [e11]; omega, fun j a b => ?_⟩
  have hm := x_L_line (v := u) a b
  rw [hI.2.2.1] at hm
  have hb := z_up_m hm
  have hsl := hI.2.2.2.1 (u 9 j) (by omega) (by omega)
  rw [if_pos (by omega)] at hsl
  have hq2 := hP.2.1 (u 9 j) (by omega) (by omega)
  rw [hsl]
  omega
theorem x_rs_step {v u u1 : zs_V} {m p : Int} (hS : x_S v) (hP : x_rsP v m) (hI : x_rsI v m u p) (h0 : 0 ≤ p) (hp : p < v 14 m) (hk : x_Tak u p (u 11 (m * 200 + p)) u1) : x_rsI v m (x_stamp (zs_put u1 6 p (u1 12 (m * 200 + p))) p ((zs_put u1 6 p (u1 12 (m * 200 + p))) 13 (m * 200 + p))) (p + 1) := by
  obtain ⟨i1, i2, i3, i4, i5⟩ := hI
  obtain ⟨k1, k2, k3, A, B, k4, k5, k6, -⟩ := hk
  have h200 := hP.1
  have f : ∀ r, r ≠ 5 → r ≠ 6 → r ≠ 7 → r ≠ 8 → r ≠ 9 → r ≠ 16 → u1 r = v r := fun r a b c d e g => (k1 r a e g).trans (i1 r a b c d e g)
  have e11 := i1 11 (by decide) (by decide) (by decide) (by decide) (by decide) (by decide)
  have hsp : u1 5 p = v 11 (m * 200 + p) := by rw [k2 p, if_pos rfl, e11]
  have hB : B = [] := by
    cases B with
    | nil => rfl
    | cons q B =>
      exfalso
      have a := k6 q List.mem_cons_self
      have hm : q ∈ x_L u := by rw [k4]; simp
      rw [i3] at hm
      have hb := z_up_m hm
      rw [i4 q (by omega) (by omega), if_pos (by omega), e11] at a
      have := hP.2.2 q p (by omega) (by omega) hp
      omega
  subst hB
  have hA : A = z_up p.toNat := by rw [← i3, k4, List.append_nil]
  refine ⟨fun r a b c d e g => ?_, ?_, ?_, fun q a b => ?_, fun q a b => ?_⟩
  · unfold x_stamp
    rw [zs_put_r _ _ _ _ d, zs_put_r _ _ _ _ c, zs_put_r _ _ _ _ b]
    exact f r a b c d e g
  · show u1 16 0 = p + 1
    rw [k3, i2]
  · rw [x_L_of (u := x_stamp (zs_put u1 6 p (u1 12 (m * 200 + p))) p ((zs_put u1 6 p (u1 12 (m * 200 + p))) 13 (m * 200 + p))) (v := u1) rfl rfl, k5, hA, show (p + 1).toNat = p.toNat + 1 by omega]
    simp only [z_up]
    rw [show ((p.toNat : Int)) = p by omega]
  · show u1 5 q = _
    rw [k2 q]
    by_cases e : q = p
    · subst e
      rw [if_pos rfl, if_pos (by omega), e11]
    · rw [if_neg e, i4 q a b]
      by_cases c : q < p
      · rw [if_pos c, if_pos (by omega)]
      · rw [if_neg c, if_neg (by omega)]
  · have ht : (zs_put u1 6 p (u1 12 (m * 200 + p))) 4 ((zs_put u1 6 p (u1 12 (m * 200 + p))) 1 ((zs_put u1 6 p (u1 12 (m * 200 + p))) 5 p / 1000)) = x_tq v m p := by
      show u1 4 (u1 1 (u1 5 p / 1000)) = _
      rw [hsp, f 4 (by decide) (by decide) (by decide) (by decide) (by decide) (by decide), f 1 (by decide) (by decide) (by decide) (by decide) (by decide) (by decide)]
      rfl
    unfold x_stamp
    rw [ht, zs_put_r _ _ _ _ (by decide : 6 ≠ 8), zs_put_r _ _ _ _ (by decide : 6 ≠ 7), zs_put_e, zs_put_r _ _ _ _ (by decide : 7 ≠ 8), zs_put_e, zs_put_e, zs_put_r _ _ _ _ (by decide : 7 ≠ 6), zs_put_r _ _ _ _ (by decide : 8 ≠ 7), zs_put_r _ _ _ _ (by decide : 8 ≠ 6), zs_put_r _ _ _ _ (by decide : 13 ≠ 6)]
    by_cases e : q = p
    · subst e
      rw [if_pos rfl, if_pos rfl, if_pos rfl, f 12 (by decide) (by decide) (by decide) (by decide) (by decide) (by decide), f 13 (by decide) (by decide) (by decide) (by decide) (by decide) (by decide)]
      exact ⟨rfl, rfl, rfl⟩
    · rw [if_neg e, if_neg e, if_neg e, k1 6 (by decide) (by decide) (by decide), k1 7 (by decide) (by decide) (by decide), k1 8 (by decide) (by decide) (by decide)]
      exact i5 q a (by omega)
def x_Res (v : zs_V) (m r : Int) (v' : zs_V) : Prop := (¬ (0 ≤ m ∧ m < 3) ∧ r = -1 ∧ v' = v) ∨ ((0 ≤ m ∧ m < 3) ∧ v 14 m = -1 ∧ r = -2 ∧ v' = v) ∨ ((0 ≤ m ∧ m < 3) ∧ ¬ v 14 m = -1 ∧ r = v 14 m ∧ ∃ u, x_rsI v m u (v 14 m) ∧ v' = zs_put u 20 0 0)
set_option maxHeartbeats 4000000 in
set_option maxRecDepth 100000 in
theorem l_X4_restore {v : zs_V} {m : Int} (hS0 : x_S v) (hP0 : x_rsP v m) (hm : 0 ≤ m ∧ m < 3) (hz : 0 ≤ v 14 m) : ∀ (n : Nat) (u : zs_V) (p : Int) (x4 : Option zs_A), 0 ≤ p → p + n = v 14 m → x_rsI v m u p → zs_R mX4_restore 0 0 shX (fun r v' => r = v 14 m ∧ ∃ u, x_rsI v m u (v 14 m) ∧ v' = zs_put u 20 0 0) u 36 [some (.inr 0), some (.inl (m)), some (.inl (v 14 m)), some (.inl (p)), x4] [] := by
  have h200 := hP0.1
  intro n
  induction n using Nat.strongRecOn with
  | ind n ih =>
    intro u p x4 h0 hn hI
    refine zs_iload_n dX4_restore_36 rfl ?_
    refine zs_iload_n dX4_restore_37 rfl ?_
    refine zs_icmp_ge (tgt := 110) dX4_restore_38 (by decide) (by omega) (by omega) (fun h38 => ?_) (fun h38 => ?_)
    · refine zs_aload_n dX4_restore_110 rfl ?_
      refine zs_iconst (x := 0) dX4_restore_111 (by decide) ?_
      refine zs_puti (j := 4) dX4_restore_112 rfl rfl (by decide) rfl (by decide) nX4_restore_X4 tyX4 tyX4_ok nmX4 rfl (by decide +kernel) fX4_restore_37 ?_
      refine zs_aload_n dX4_restore_115 rfl ?_
      refine zs_getr (j := 1) dX4_restore_116 rfl rfl rfl (by decide) nX4_restore_X4 fX4_restore_19 ?_
      refine zs_geti (j := 5) dX4_restore_119 rfl rfl rfl (by decide) nX4_restore_X1 fX4_restore_142 ?_
      refine zs_iret dX4_restore_122 rfl ?_
      obtain rfl : p = v 14 m := by omega
      exact ⟨hI.2.1, u, hI, rfl⟩
    · have hS := x_S_of (hI.1 0 (by decide) (by decide) (by decide) (by decide) (by decide) (by decide)) (hI.1 1 (by decide) (by decide) (by decide) (by decide) (by decide) (by decide)) (hI.1 2 (by decide) (by decide) (by decide) (by decide) (by decide) (by decide)) (hI.1 3 (by decide) (by decide) (by decide) (by decide) (by decide) (by decide)) (hI.1 4 (by decide) (by decide) (by decide) (by decide) (by decide) (by decide)) (hI.1 15 (by decide) (by decide) (by decide) (by decide) (by decide) (by decide)) hS0
      have htk := x_rs_tk hS0 hP0 hI h0 (by omega)
      have hsl := hP0.2.1 p h0 (by omega)
      have e11 := hI.1 11 (by decide) (by decide) (by decide) (by decide) (by decide) (by decide)
      have e15 := hI.1 15 (by decide) (by decide) (by decide) (by decide) (by decide) (by decide)
      refine zs_aload_n dX4_restore_41 rfl ?_
      refine zs_getr (j := 3) dX4_restore_42 rfl rfl rfl (by decide) nX4_restore_X4 fX4_restore_33 ?_
      refine zs_iload_n dX4_restore_45 rfl ?_
      refine zs_iload_n dX4_restore_46 rfl ?_
      refine zs_eV (As := [.inl (m), .inl (p)]) (rest := []) (q := 15) dX4_restore_47 rfl (Nat.le_of_ble_eq_true rfl) rfl rfl YX0_indexOf rfl rfl (Nat.le_of_ble_eq_true rfl) gX4_restore_X0_indexOf (by decide) ⟨Nat.zero_le _, Nat.zero_le _⟩ rfl (t_X0_indexOf (v := u) (m) (p)) ?_
      refine zs_istore (lv' := [some (.inr 0), some (.inl (m)), some (.inl (v 14 m)), some (.inl (p)), some (.inl ((m) * 200 + (p)))]) dX4_restore_50 (by decide) rfl ?_
      refine zs_aload_n dX4_restore_52 rfl ?_
      refine zs_getr (j := 1) dX4_restore_53 rfl rfl rfl (by decide) nX4_restore_X4 fX4_restore_19 ?_
      refine zs_iload_n dX4_restore_56 rfl ?_
      refine zs_aload_n dX4_restore_57 rfl ?_
      refine zs_getr (j := 3) dX4_restore_58 rfl rfl rfl (by decide) nX4_restore_X4 fX4_restore_33 ?_
      refine zs_getr (j := 0) dX4_restore_61 rfl rfl rfl (by decide) nX4_restore_X0 fX4_restore_167 ?_
      refine zs_iload dX4_restore_64 rfl ?_
      refine zs_iaload dX4_restore_66 rfl (by decide) (by omega) (by omega) ?_
      refine zs_callVv (As := [.inl (p), .inl (u 11 ((m) * 200 + (p)))]) (rest := []) (q := 7) dX4_restore_67 rfl (Nat.le_of_ble_eq_true rfl) rfl rfl YX1_take rfl rfl (Nat.le_of_ble_eq_true rfl) gX4_restore_X1_take (by decide) ⟨Nat.zero_le _, Nat.zero_le _⟩ rfl (t_X1_take (v := u) (p := p) (slot := u 11 ((m) * 200 + (p))) htk) ?_
      intro u1 hu
      have hS1 := x_Tak_S hu hS
      have hP1 := x_Tak_P hu (by omega) (by rw [e11, e15]; exact hsl)
      refine zs_aload_n dX4_restore_70 rfl ?_
      refine zs_getr (j := 1) dX4_restore_71 rfl rfl rfl (by decide) nX4_restore_X4 fX4_restore_19 ?_
      refine zs_getr (j := 1) dX4_restore_74 rfl rfl rfl (by decide) nX4_restore_X1 fX4_restore_151 ?_
      refine zs_iload_n dX4_restore_77 rfl ?_
      refine zs_aload_n dX4_restore_78 rfl ?_
      refine zs_getr (j := 3) dX4_restore_79 rfl rfl rfl (by decide) nX4_restore_X4 fX4_restore_33 ?_
      refine zs_getr (j := 1) dX4_restore_82 rfl rfl rfl (by decide) nX4_restore_X0 fX4_restore_171 ?_
      refine zs_iload dX4_restore_85 rfl ?_
      refine zs_iaload dX4_restore_87 rfl (by decide) (by omega) (by omega) ?_
      refine zs_iastore dX4_restore_88 rfl (by decide) (by decide) (by omega) (by omega) ?_
      refine zs_aload_n dX4_restore_89 rfl ?_
      refine zs_iload_n dX4_restore_90 rfl ?_
      refine zs_aload_n dX4_restore_91 rfl ?_
      refine zs_getr (j := 3) dX4_restore_92 rfl rfl rfl (by decide) nX4_restore_X4 fX4_restore_33 ?_
      refine zs_getr (j := 2) dX4_restore_95 rfl rfl rfl (by decide) nX4_restore_X0 fX4_restore_172 ?_
      refine zs_iload dX4_restore_98 rfl ?_
      refine zs_iaload dX4_restore_100 rfl (by decide) (by omega) (by omega) ?_
      refine zs_eVv (As := [.inl (p), .inl ((zs_put u1 6 (p) (u1 12 ((m) * 200 + (p)))) 13 ((m) * 200 + (p)))]) (rest := []) (q := 0) dX4_restore_101 rfl (Nat.le_of_ble_eq_true rfl) rfl rfl YX4_stamp rfl rfl (Nat.le_of_ble_eq_true rfl) gX4_restore_X4_stamp (by decide) ⟨Nat.zero_le _, Nat.zero_le _⟩ rfl (t_X4_stamp (v := (zs_put u1 6 (p) (u1 12 ((m) * 200 + (p))))) (p) ((zs_put u1 6 (p) (u1 12 ((m) * 200 + (p)))) 13 ((m) * 200 + (p))) (x_S_of rfl rfl rfl rfl rfl rfl hS1) (x_P_of rfl rfl hP1)) ?_
      refine zs_iinc (lv' := [some (.inr 0), some (.inl (m)), some (.inl (v 14 m)), some (.inl (p + 1)), some (.inl ((m) * 200 + (p)))]) dX4_restore_104 rfl (by decide) rfl ?_
      refine zs_goto (tgt := 36) dX4_restore_107 (by decide) ?_
      exact ih (n - 1) (by omega) _ (p + 1) _ (by omega) (by omega) (x_rs_step hS0 hP0 hI h0 (by omega) hu)
set_option maxHeartbeats 4000000 in
set_option maxRecDepth 100000 in
theorem t_X4_restore {v : zs_V} (hS : x_S v) (m : Int) (hm : zn m) (hP : 0 ≤ m → m < 3 → -1 ≤ v 14 m ∧ x_rsP v m) : zs_R mX4_restore 0 0 shX (fun r v' => x_Res v m r v') v 0 [some (.inr 0), some (.inl (m)), none, none, none] [] := by
  refine zs_iload_n dX4_restore_0 rfl ?_
  refine zs_eS (As := [.inl (m)]) (rest := []) dX4_restore_1 rfl (Nat.le_of_ble_eq_true rfl) YX4_isMark rfl (Nat.le_of_ble_eq_true rfl) gX4_restore_X4_isMark (by decide) ⟨Nat.zero_le _, Nat.zero_le _⟩ rfl (t_X4_isMark (v := v) (m) (by omega)) ?_
  refine zs_ifz_ne (tgt := 9) dX4_restore_4 (by decide)  (fun h4 => ?_) (fun h4 => ?_)
  · obtain ⟨hp1, hp2⟩ := hP (by omega) (by omega)
    have h200 := hp2.1
    refine zs_aload_n dX4_restore_9 rfl ?_
    refine zs_getr (j := 3) dX4_restore_10 rfl rfl rfl (by decide) nX4_restore_X4 fX4_restore_33 ?_
    refine zs_getr (j := 3) dX4_restore_13 rfl rfl rfl (by decide) nX4_restore_X0 fX4_restore_158 ?_
    refine zs_iload_n dX4_restore_16 rfl ?_
    refine zs_iaload dX4_restore_17 rfl (by decide) (by omega) (by omega) ?_
    refine zs_istore_n (lv' := [some (.inr 0), some (.inl (m)), some (.inl (v 14 (m))), none, none]) dX4_restore_18 (by decide) rfl ?_
    refine zs_iload_n dX4_restore_19 rfl ?_
    refine zs_iconst (x := -1) dX4_restore_20 (by decide) ?_
    refine zs_icmp_ne (tgt := 27) dX4_restore_21 (by decide) (by omega) (by omega) (fun h21 => ?_) (fun h21 => ?_)
    · refine zs_aload_n dX4_restore_27 rfl ?_
      refine zs_getr (j := 1) dX4_restore_28 rfl rfl rfl (by decide) nX4_restore_X4 fX4_restore_19 ?_
      refine zs_eVv (As := []) (rest := []) (q := 7) dX4_restore_31 rfl (Nat.le_of_ble_eq_true rfl) rfl rfl YX1_vacateAll rfl rfl (Nat.le_of_ble_eq_true rfl) gX4_restore_X1_vacateAll (by decide) ⟨Nat.zero_le _, Nat.zero_le _⟩ rfl (t_X1_vacateAll (v := v)) ?_
      refine zs_iconst (x := 0) dX4_restore_34 (by decide) ?_
      refine zs_istore_n (lv' := [some (.inr 0), some (.inl (m)), some (.inl (v 14 (m))), some (.inl (0)), none]) dX4_restore_35 (by decide) rfl ?_
      exact zs_mono (fun r v' h => Or.inr (Or.inr ⟨h4, h21, h.1, h.2⟩)) (l_X4_restore hS hp2 h4 (by omega) (v 14 m).toNat _ 0 _ (by omega) (by omega) (x_rs_0 v m))
    · refine zs_bipush (x := -2) dX4_restore_24 (by decide) ?_
      refine zs_iret dX4_restore_26 rfl ?_
      exact Or.inr (Or.inl ⟨h4, h21, rfl, rfl⟩)
  · refine zs_iconst (x := -1) dX4_restore_7 (by decide) ?_
    refine zs_iret dX4_restore_8 rfl ?_
    exact Or.inl ⟨h4, rfl, rfl⟩
