
/-- what every public method takes for granted -/
def x_J (v : zs_V) : Prop := x_S v ∧ x_T v ∧ (∀ p : Int, 0 ≤ p → p < 200 → v 5 p = -1 ∨ x_E v p) ∧ (0 ≤ v 17 0 ∧ v 17 0 < 150) ∧ (0 ≤ v 18 0 ∧ v 18 0 ≤ 150) ∧ 0 ≤ v 20 0 ∧ v 20 0 < 200
theorem x_J_z {v : zs_V} (h : x_J v) : ∀ p : Int, 0 ≤ p → p < 200 → zn (v 5 p) := fun p h0 h1 => by
  have hm := h.1.2.1
  rcases h.2.2.1 p h0 h1 with e | e
  · omega
  · have a := e.1.2.2.1
    have b := e.1.2.2.2
    omega
theorem x_tk_J {v : zs_V} (h : x_J v) {p slot : Int} (hp : 0 ≤ p ∧ p < 200) (hs : v 5 p = -1) (hz : zn slot) (ht : v 16 0 < 200) : x_tkP v p slot := by
  refine ⟨h.2.1.1, ht, hp.1, hp.2, hz, fun j h0 h1 => ?_⟩
  have hE := h.2.1.2.2 j h0 h1
  refine ⟨hE.1.1, hE.1.2.1, x_J_z h _ hE.1.1 hE.1.2.1, fun e => ?_⟩
  have := hE.1.2.2.1
  rw [e] at this
  omega
theorem x_Tak_S {v u : zs_V} {p slot : Int} (h : x_Tak v p slot u) (hS : x_S v) : x_S u := x_S_of (h.1 0 (by decide) (by decide) (by decide)) (h.1 1 (by decide) (by decide) (by decide)) (h.1 2 (by decide) (by decide) (by decide)) (h.1 3 (by decide) (by decide) (by decide)) (h.1 4 (by decide) (by decide) (by decide)) (h.1 15 (by decide) (by decide) (by decide)) hS
theorem x_Tak_P {v u : zs_V} {p slot : Int} (h : x_Tak v p slot u) (hp : 0 ≤ p ∧ p < 200) (hs : 0 ≤ slot ∧ slot < 1000 * v 15 0) : x_P u p := by
  refine ⟨hp.1, hp.2, ?_⟩
  rw [h.2.1 p, if_pos rfl, h.1 15 (by decide) (by decide) (by decide)]
  exact hs
theorem x_Vac_S {v u : zs_V} {p : Int} (h : x_Vac v p u) (hS : x_S v) : x_S u := x_S_of (h.1 0 (by decide) (by decide) (by decide)) (h.1 1 (by decide) (by decide) (by decide)) (h.1 2 (by decide) (by decide) (by decide)) (h.1 3 (by decide) (by decide) (by decide)) (h.1 4 (by decide) (by decide) (by decide)) (h.1 15 (by decide) (by decide) (by decide)) hS
theorem x_tell_r (v : zs_V) (p : Int) {r : Nat} (h0 : r ≠ 10) (h1 : r ≠ 17) (h2 : r ≠ 18) (h3 : r ≠ 19) : x_tell v p r = v r := by
  unfold x_tell x_tellA
  rw [zs_put_r _ _ _ _ h0, zs_put_r _ _ _ _ h0, zs_put_r _ _ _ _ h0, zs_put_r _ _ _ _ h0, zs_put_r _ _ _ _ h0, zs_put_r _ _ _ _ h0, x_rb_r v h1 h2 h3]
theorem x_tell_S {v : zs_V} {p : Int} (hS : x_S v) : x_S (x_tell v p) := x_S_of (x_tell_r v p (by decide) (by decide) (by decide) (by decide)) (x_tell_r v p (by decide) (by decide) (by decide) (by decide)) (x_tell_r v p (by decide) (by decide) (by decide) (by decide)) (x_tell_r v p (by decide) (by decide) (by decide) (by decide)) (x_tell_r v p (by decide) (by decide) (by decide) (by decide)) (x_tell_r v p (by decide) (by decide) (by decide) (by decide)) hS
theorem x_tell_P {v : zs_V} {p q : Int} (h : x_P v q) : x_P (x_tell v p) q := x_P_of (x_tell_r v p (by decide) (by decide) (by decide) (by decide)) (x_tell_r v p (by decide) (by decide) (by decide) (by decide)) h
theorem x_tell_E {v : zs_V} {p q : Int} (h : x_E v q) : x_E (x_tell v p) q := x_E_of (x_tell_r v p (by decide) (by decide) (by decide) (by decide)) (x_tell_r v p (by decide) (by decide) (by decide) (by decide)) (x_tell_r v p (by decide) (by decide) (by decide) (by decide)) h
theorem x_tell_T {v : zs_V} {p : Int} (h : x_T v) : x_T (x_tell v p) := x_T_of (x_tell_r v p (by decide) (by decide) (by decide) (by decide)) (x_tell_r v p (by decide) (by decide) (by decide) (by decide)) (x_tell_r v p (by decide) (by decide) (by decide) (by decide)) (x_tell_r v p (by decide) (by decide) (by decide) (by decide)) (x_tell_r v p (by decide) (by decide) (by decide) (by decide)) h
theorem x_tell_L (v : zs_V) (p : Int) : x_L (x_tell v p) = x_L v := x_L_of (x_tell_r v p (by decide) (by decide) (by decide) (by decide)) (x_tell_r v p (by decide) (by decide) (by decide) (by decide))
theorem x_tell_K {v : zs_V} {p : Int} (h : 0 ≤ v 17 0 ∧ v 17 0 < 150) (hk : 0 ≤ v 18 0 ∧ v 18 0 ≤ 150) : (0 ≤ (x_tell v p) 17 0 ∧ (x_tell v p) 17 0 < 150) ∧ 0 ≤ (x_tell v p) 18 0 ∧ (x_tell v p) 18 0 ≤ 150 := by
  have := x_rb_k h hk
  unfold x_tell x_tellA
  simp only [zs_put_r _ _ _ _ (by decide : 17 ≠ 10), zs_put_r _ _ _ _ (by decide : 18 ≠ 10)]
  omega
theorem x_Vac_T {v u : zs_V} {p : Int} (h : x_Vac v p u) (hT : x_T v) : x_T u := by
  have h8 := h.1 8 (by decide) (by decide) (by decide)
  have h15 := h.1 15 (by decide) (by decide) (by decide)
  refine ⟨h.2.2.1, by have := hT.2.1; have := h.2.2.2.1; omega, fun j h0 h1 => ?_⟩
  have hm := x_L_line (v := u) h0 h1
  rw [h.2.2.2.2] at hm
  obtain ⟨hm1, hm2⟩ := List.mem_filter.mp hm
  have hne : u 9 j ≠ p := by simpa using hm2
  have hE := x_L_E hT hm1
  obtain ⟨⟨e1, e2, e3, e4⟩, e5⟩ := hE
  refine ⟨⟨e1, e2, ?_⟩, ?_⟩
  · rw [h.2.1, if_neg hne, h15]
    exact ⟨e3, e4⟩
  · rw [h8]; exact e5
def x_Br (v : zs_V) (slot x r : Int) (v' : zs_V) : Prop := (x_lf v 200 0 = -1 ∧ r = 0 ∧ v' = v) ∨ (¬ x_lf v 200 0 = -1 ∧ r = 1 ∧ ∃ u, x_Tak v (x_lf v 200 0) slot u ∧ v' = x_write u (x_lf v 200 0) x)
set_option maxHeartbeats 4000000 in
set_option maxRecDepth 100000 in
theorem t_X4_bring {v : zs_V} (hJ : x_J v) (slot x : Int) (hs : 0 ≤ slot ∧ slot < 1000 * v 15 0) (hfu : x_lf v 200 0 = -1 ∨ v 16 0 < 200) : zs_R mX4_bring 0 0 shX (fun r v' => x_Br v slot x r v') v 0 [some (.inr 0), some (.inl (slot)), some (.inl (x)), none] [] := by
  have hz := x_J_z hJ
  have hm2 := hJ.1.2.1
  have hlf := x_lf_c v 200 0 (by omega)
  refine zs_aload_n dX4_bring_0 rfl ?_
  refine zs_getr (j := 1) dX4_bring_1 rfl rfl rfl (by decide) nX4_bring_X4 fX4_bring_19 ?_
  refine zs_eV (As := []) (rest := []) (q := 7) dX4_bring_4 rfl (Nat.le_of_ble_eq_true rfl) rfl rfl YX1_leastFree rfl rfl (Nat.le_of_ble_eq_true rfl) gX4_bring_X1_leastFree (by decide) ⟨Nat.zero_le _, Nat.zero_le _⟩ rfl (t_X1_leastFree (v := v) hz) ?_
  refine zs_istore_n (lv' := [some (.inr 0), some (.inl (slot)), some (.inl (x)), some (.inl (x_lf v 200 0))]) dX4_bring_7 (by decide) rfl ?_
  refine zs_iload_n dX4_bring_8 rfl ?_
  refine zs_iconst (x := -1) dX4_bring_9 (by decide) ?_
  refine zs_icmp_ne (tgt := 15) dX4_bring_10 (by decide) (by omega) (by omega) (fun h10 => ?_) (fun h10 => ?_)
  · have hq := hlf.resolve_left h10
    have htk := hfu.resolve_left h10
    refine zs_aload_n dX4_bring_15 rfl ?_
    refine zs_getr (j := 1) dX4_bring_16 rfl rfl rfl (by decide) nX4_bring_X4 fX4_bring_19 ?_
    refine zs_iload_n dX4_bring_19 rfl ?_
    refine zs_iload_n dX4_bring_20 rfl ?_
    refine zs_callVv (As := [.inl (x_lf v 200 0), .inl (slot)]) (rest := []) (q := 7) dX4_bring_21 rfl (Nat.le_of_ble_eq_true rfl) rfl rfl YX1_take rfl rfl (Nat.le_of_ble_eq_true rfl) gX4_bring_X1_take (by decide) ⟨Nat.zero_le _, Nat.zero_le _⟩ rfl (t_X1_take (v := v) (p := x_lf v 200 0) (slot := slot) (x_tk_J hJ (by omega) hq.2.2 (by omega) htk)) ?_
    intro u hu
    have hS := x_Tak_S hu hJ.1
    have hP := x_Tak_P hu (by omega) hs
    refine zs_aload_n dX4_bring_24 rfl ?_
    refine zs_iload_n dX4_bring_25 rfl ?_
    refine zs_iload_n dX4_bring_26 rfl ?_
    refine zs_eVv (As := [.inl (x_lf v 200 0), .inl (x)]) (rest := []) (q := 0) dX4_bring_27 rfl (Nat.le_of_ble_eq_true rfl) rfl rfl YX4_write rfl rfl (Nat.le_of_ble_eq_true rfl) gX4_bring_X4_write (by decide) ⟨Nat.zero_le _, Nat.zero_le _⟩ rfl (t_X4_write (v := u) (x_lf v 200 0) (x) hS hP) ?_
    refine zs_iconst (x := 1) dX4_bring_30 (by decide) ?_
    refine zs_zret dX4_bring_31 rfl (by first | omega | (split <;> omega)) ?_
    exact Or.inr ⟨h10, rfl, u, hu, rfl⟩
  · refine zs_iconst (x := 0) dX4_bring_13 (by decide) ?_
    refine zs_zret dX4_bring_14 rfl (by first | omega | (split <;> omega)) ?_
    exact Or.inl ⟨h10, rfl, rfl⟩

def x_Put (v : zs_V) (s k m x r : Int) (v' : zs_V) : Prop := (¬ (((0 ≤ s ∧ s < v 15 0) ∧ 0 ≤ k ∧ k < 100) ∧ ¬ v 0 s = 1 ∧ 0 ≤ m ∧ m < 10) ∧ r = -1 ∧ v' = v) ∨ ((((0 ≤ s ∧ s < v 15 0) ∧ 0 ≤ k ∧ k < 100) ∧ ¬ v 0 s = 1 ∧ 0 ≤ m ∧ m < 10) ∧ x_pl v (s * 1000 + k * 10 + m) 0 1 (x_L v) 0 = -1 ∧ ((x_lf v 200 0 = -1 ∧ r = -3 ∧ v' = v) ∨ (¬ x_lf v 200 0 = -1 ∧ r = 0 ∧ ∃ u, x_Tak v (x_lf v 200 0) (s * 1000 + k * 10 + m) u ∧ v' = x_write u (x_lf v 200 0) x))) ∨ ((((0 ≤ s ∧ s < v 15 0) ∧ 0 ≤ k ∧ k < 100) ∧ ¬ v 0 s = 1 ∧ 0 ≤ m ∧ m < 10) ∧ ¬ x_pl v (s * 1000 + k * 10 + m) 0 1 (x_L v) 0 = -1 ∧ ((0 < x_left v (x_pl v (s * 1000 + k * 10 + m) 0 1 (x_L v) 0) ∧ r = 1 ∧ v' = x_write v (x_pl v (s * 1000 + k * 10 + m) 0 1 (x_L v) 0) x) ∨ (¬ 0 < x_left v (x_pl v (s * 1000 + k * 10 + m) 0 1 (x_L v) 0) ∧ r = 0 ∧ v' = x_write (x_tell v (x_pl v (s * 1000 + k * 10 + m) 0 1 (x_L v) 0)) (x_pl v (s * 1000 + k * 10 + m) 0 1 (x_L v) 0) x)))
set_option maxHeartbeats 4000000 in
set_option maxRecDepth 100000 in
theorem t_X4_put {v : zs_V} (hJ : x_J v) (hfu : x_lf v 200 0 = -1 ∨ v 16 0 < 200) (s k m x : Int) (hs : zn s) (hk : zn k) (hm : zn m) (hx : zn x) : zs_R mX4_put 0 0 shX (fun r v' => x_Put v s k m x r v') v 0 [some (.inr 0), some (.inl (s)), some (.inl (k)), some (.inl (m)), some (.inl (x)), none, none, none] [] := by
  have hS := hJ.1
  have hT := hJ.2.1
  have hm2 := hS.2.1
  refine zs_aload_n dX4_put_0 rfl ?_
  refine zs_iload_n dX4_put_1 rfl ?_
  refine zs_iload_n dX4_put_2 rfl ?_
  refine zs_iload_n dX4_put_3 rfl ?_
  refine zs_eV (As := [.inl (s), .inl (k), .inl (m)]) (rest := []) (q := 0) dX4_put_4 rfl (Nat.le_of_ble_eq_true rfl) rfl rfl YX4_isNumberFor rfl rfl (Nat.le_of_ble_eq_true rfl) gX4_put_X4_isNumberFor (by decide) ⟨Nat.zero_le _, Nat.zero_le _⟩ rfl (t_X4_isNumberFor (v := v) hS (s) (k) (m) (by omega) (by omega) (by omega)) ?_
  refine zs_ifz_ne (tgt := 12) dX4_put_7 (by decide)  (fun h7 => ?_) (fun h7 => ?_)
  · refine zs_iload_n dX4_put_12 rfl ?_
    refine zs_iload_n dX4_put_13 rfl ?_
    refine zs_iload_n dX4_put_14 rfl ?_
    refine zs_eS (As := [.inl (s), .inl (k), .inl (m)]) (rest := []) dX4_put_15 rfl (Nat.le_of_ble_eq_true rfl) YX4_slotOf rfl (Nat.le_of_ble_eq_true rfl) gX4_put_X4_slotOf (by decide) ⟨Nat.zero_le _, Nat.zero_le _⟩ rfl (t_X4_slotOf (v := v) (s) (k) (m)) ?_
    refine zs_istore (lv' := [some (.inr 0), some (.inl (s)), some (.inl (k)), some (.inl (m)), some (.inl (x)), some (.inl ((s) * 1000 + (k) * 10 + (m))), none, none]) dX4_put_18 (by decide) rfl ?_
    refine zs_aload_n dX4_put_20 rfl ?_
    refine zs_iload dX4_put_21 rfl ?_
    refine zs_iconst (x := 0) dX4_put_23 (by decide) ?_
    refine zs_iconst (x := 1) dX4_put_24 (by decide) ?_
    refine zs_eV (As := [.inl ((s) * 1000 + (k) * 10 + (m)), .inl (0), .inl (1)]) (rest := []) (q := 0) dX4_put_25 rfl (Nat.le_of_ble_eq_true rfl) rfl rfl YX4_placeOf rfl rfl (Nat.le_of_ble_eq_true rfl) gX4_put_X4_placeOf (by decide) ⟨Nat.zero_le _, Nat.zero_le _⟩ rfl (t_X4_placeOf (v := v) ((s) * 1000 + (k) * 10 + (m)) (0) (1) hS hT (by omega) (by omega) (by omega)) ?_
    have hpc := x_pl_c hT (s * 1000 + k * 10 + m) 0 1
    refine zs_istore (lv' := [some (.inr 0), some (.inl (s)), some (.inl (k)), some (.inl (m)), some (.inl (x)), some (.inl ((s) * 1000 + (k) * 10 + (m))), some (.inl (x_pl v ((s) * 1000 + (k) * 10 + (m)) (0) (1) (x_L v) 0)), none]) dX4_put_28 (by decide) rfl ?_
    refine zs_iload dX4_put_30 rfl ?_
    refine zs_iconst (x := -1) dX4_put_32 (by decide) ?_
    refine zs_icmp_ne (tgt := 54) dX4_put_33 (by decide) (by omega) (by omega) (fun h33 => ?_) (fun h33 => ?_)
    · have hE := hpc.1.resolve_left h33
      have hP := hE.1
      have hF := hJ.2.2.2.1
      have hK := hJ.2.2.2.2.1
      refine zs_aload_n dX4_put_54 rfl ?_
      refine zs_iload dX4_put_55 rfl ?_
      refine zs_eV (As := [.inl (x_pl v ((s) * 1000 + (k) * 10 + (m)) (0) (1) (x_L v) 0)]) (rest := []) (q := 0) dX4_put_57 rfl (Nat.le_of_ble_eq_true rfl) rfl rfl YX4_isShown rfl rfl (Nat.le_of_ble_eq_true rfl) gX4_put_X4_isShown (by decide) ⟨Nat.zero_le _, Nat.zero_le _⟩ rfl (t_X4_isShown (v := v) (x_pl v ((s) * 1000 + (k) * 10 + (m)) (0) (1) (x_L v) 0) hS hE) ?_
      refine zs_istore (lv' := [some (.inr 0), some (.inl (s)), some (.inl (k)), some (.inl (m)), some (.inl (x)), some (.inl ((s) * 1000 + (k) * 10 + (m))), some (.inl (x_pl v ((s) * 1000 + (k) * 10 + (m)) (0) (1) (x_L v) 0)), some (.inl (zb (0 < x_left v (x_pl v ((s) * 1000 + (k) * 10 + (m)) (0) (1) (x_L v) 0))))]) dX4_put_60 (by decide) rfl ?_
      refine zs_iload dX4_put_62 rfl ?_
      refine zs_ifz_ne (tgt := 73) dX4_put_64 (by decide)  (fun h64 => ?_) (fun h64 => ?_)
      · refine zs_aload_n dX4_put_73 rfl ?_
        refine zs_iload dX4_put_74 rfl ?_
        refine zs_iload dX4_put_76 rfl ?_
        refine zs_eVv (As := [.inl (x_pl v ((s) * 1000 + (k) * 10 + (m)) (0) (1) (x_L v) 0), .inl (x)]) (rest := []) (q := 0) dX4_put_78 rfl (Nat.le_of_ble_eq_true rfl) rfl rfl YX4_write rfl rfl (Nat.le_of_ble_eq_true rfl) gX4_put_X4_write (by decide) ⟨Nat.zero_le _, Nat.zero_le _⟩ rfl (t_X4_write (v := v) (x_pl v ((s) * 1000 + (k) * 10 + (m)) (0) (1) (x_L v) 0) (x) hS hP) ?_
        refine zs_iload dX4_put_81 rfl ?_
        refine zs_ifz_eq (tgt := 90) dX4_put_83 (by decide)  (fun h83 => ?_) (fun h83 => ?_)
        · exact absurd h64 h83
        · refine zs_iconst (x := 1) dX4_put_86 (by decide) ?_
          refine zs_goto (tgt := 91) dX4_put_87 (by decide) ?_
          refine zs_iret dX4_put_91 rfl ?_
          exact Or.inr (Or.inr ⟨h7, h33, Or.inl ⟨h64, rfl, rfl⟩⟩)
      · refine zs_aload_n dX4_put_67 rfl ?_
        refine zs_iload dX4_put_68 rfl ?_
        refine zs_eVv (As := [.inl (x_pl v ((s) * 1000 + (k) * 10 + (m)) (0) (1) (x_L v) 0)]) (rest := []) (q := 0) dX4_put_70 rfl (Nat.le_of_ble_eq_true rfl) rfl rfl YX4_tell rfl rfl (Nat.le_of_ble_eq_true rfl) gX4_put_X4_tell (by decide) ⟨Nat.zero_le _, Nat.zero_le _⟩ rfl (t_X4_tell (v := v) (x_pl v ((s) * 1000 + (k) * 10 + (m)) (0) (1) (x_L v) 0) hS hP hF hK) ?_
        have hS := x_tell_S (p := x_pl v (s * 1000 + k * 10 + m) 0 1 (x_L v) 0) hS
        have hP := x_tell_P (p := x_pl v (s * 1000 + k * 10 + m) 0 1 (x_L v) 0) hP
        refine zs_aload_n dX4_put_73 rfl ?_
        refine zs_iload dX4_put_74 rfl ?_
        refine zs_iload dX4_put_76 rfl ?_
        refine zs_eVv (As := [.inl (x_pl v ((s) * 1000 + (k) * 10 + (m)) (0) (1) (x_L v) 0), .inl (x)]) (rest := []) (q := 0) dX4_put_78 rfl (Nat.le_of_ble_eq_true rfl) rfl rfl YX4_write rfl rfl (Nat.le_of_ble_eq_true rfl) gX4_put_X4_write (by decide) ⟨Nat.zero_le _, Nat.zero_le _⟩ rfl (t_X4_write (v := (x_tell v (x_pl v ((s) * 1000 + (k) * 10 + (m)) (0) (1) (x_L v) 0))) (x_pl v ((s) * 1000 + (k) * 10 + (m)) (0) (1) (x_L v) 0) (x) hS hP) ?_
        refine zs_iload dX4_put_81 rfl ?_
        refine zs_ifz_eq (tgt := 90) dX4_put_83 (by decide)  (fun h83 => ?_) (fun h83 => ?_)
        · refine zs_iconst (x := 0) dX4_put_90 (by decide) ?_
          refine zs_iret dX4_put_91 rfl ?_
          exact Or.inr (Or.inr ⟨h7, h33, Or.inr ⟨h64, rfl, rfl⟩⟩)
        · exact absurd h83 h64
    · refine zs_aload_n dX4_put_36 rfl ?_
      refine zs_iload dX4_put_37 rfl ?_
      refine zs_iload dX4_put_39 rfl ?_
      refine zs_callV (As := [.inl ((s) * 1000 + (k) * 10 + (m)), .inl (x)]) (rest := []) (q := 0) dX4_put_41 rfl (Nat.le_of_ble_eq_true rfl) rfl rfl YX4_bring rfl rfl (Nat.le_of_ble_eq_true rfl) gX4_put_X4_bring (by decide) ⟨Nat.zero_le _, Nat.zero_le _⟩ rfl (t_X4_bring (v := v) hJ ((s) * 1000 + (k) * 10 + (m)) (x) (by omega) hfu) ?_
      intro r u hbr
      have hr01 : r = 0 ∨ r = 1 := by rcases hbr with ⟨-, b, -⟩ | ⟨-, b, -⟩ <;> omega
      refine zs_if_eq (tgt := 51) dX4_put_44 (by decide) (by omega) (fun h44 => ?_) (fun h44 => ?_)
      · refine zs_bipush (x := -3) dX4_put_51 (by decide) ?_
        refine zs_iret dX4_put_53 rfl ?_
        refine Or.inr (Or.inl ⟨h7, h33, ?_⟩)
        rcases hbr with ⟨b1, b2, b3⟩ | ⟨b1, b2, b3⟩
        · exact Or.inl ⟨b1, rfl, b3⟩
        · exfalso; omega
      · refine zs_iconst (x := 0) dX4_put_47 (by decide) ?_
        refine zs_goto (tgt := 53) dX4_put_48 (by decide) ?_
        refine zs_iret dX4_put_53 rfl ?_
        refine Or.inr (Or.inl ⟨h7, h33, ?_⟩)
        rcases hbr with ⟨b1, b2, b3⟩ | ⟨b1, b2, b3⟩
        · exfalso; omega
        · exact Or.inr ⟨b1, rfl, b3⟩
  · refine zs_iconst (x := -1) dX4_put_10 (by decide) ?_
    refine zs_iret dX4_put_11 rfl ?_
    exact Or.inl ⟨h7, rfl, rfl⟩

def x_Rem (v : zs_V) (s k m r : Int) (v' : zs_V) : Prop := (¬ (((0 ≤ s ∧ s < v 15 0) ∧ 0 ≤ k ∧ k < 100) ∧ ¬ v 0 s = 1 ∧ 0 ≤ m ∧ m < 10) ∧ r = -1 ∧ v' = v) ∨ ((((0 ≤ s ∧ s < v 15 0) ∧ 0 ≤ k ∧ k < 100) ∧ ¬ v 0 s = 1 ∧ 0 ≤ m ∧ m < 10) ∧ x_pl v (s * 1000 + k * 10 + m) 0 1 (x_L v) 0 = -1 ∧ r = -2 ∧ v' = v) ∨ ((((0 ≤ s ∧ s < v 15 0) ∧ 0 ≤ k ∧ k < 100) ∧ ¬ v 0 s = 1 ∧ 0 ≤ m ∧ m < 10) ∧ ¬ x_pl v (s * 1000 + k * 10 + m) 0 1 (x_L v) 0 = -1 ∧ r = zb (0 < x_left v (x_pl v (s * 1000 + k * 10 + m) 0 1 (x_L v) 0)) ∧ x_Vac v (x_pl v (s * 1000 + k * 10 + m) 0 1 (x_L v) 0) v')
set_option maxHeartbeats 4000000 in
set_option maxRecDepth 100000 in
theorem t_X4_remove {v : zs_V} (hJ : x_J v) (s k m : Int) (hs : zn s) (hk : zn k) (hm : zn m) : zs_R mX4_remove 0 0 shX (fun r v' => x_Rem v s k m r v') v 0 [some (.inr 0), some (.inl (s)), some (.inl (k)), some (.inl (m)), none, none] [] := by
  have hS := hJ.1
  have hT := hJ.2.1
  have hm2 := hS.2.1
  refine zs_aload_n dX4_remove_0 rfl ?_
  refine zs_iload_n dX4_remove_1 rfl ?_
  refine zs_iload_n dX4_remove_2 rfl ?_
  refine zs_iload_n dX4_remove_3 rfl ?_
  refine zs_eV (As := [.inl (s), .inl (k), .inl (m)]) (rest := []) (q := 0) dX4_remove_4 rfl (Nat.le_of_ble_eq_true rfl) rfl rfl YX4_isNumberFor rfl rfl (Nat.le_of_ble_eq_true rfl) gX4_remove_X4_isNumberFor (by decide) ⟨Nat.zero_le _, Nat.zero_le _⟩ rfl (t_X4_isNumberFor (v := v) hS (s) (k) (m) (by omega) (by omega) (by omega)) ?_
  refine zs_ifz_ne (tgt := 12) dX4_remove_7 (by decide)  (fun h7 => ?_) (fun h7 => ?_)
  · refine zs_aload_n dX4_remove_12 rfl ?_
    refine zs_iload_n dX4_remove_13 rfl ?_
    refine zs_iload_n dX4_remove_14 rfl ?_
    refine zs_iload_n dX4_remove_15 rfl ?_
    refine zs_eS (As := [.inl (s), .inl (k), .inl (m)]) (rest := [.inr 0]) dX4_remove_16 rfl (Nat.le_of_ble_eq_true rfl) YX4_slotOf rfl (Nat.le_of_ble_eq_true rfl) gX4_remove_X4_slotOf (by decide) ⟨Nat.zero_le _, Nat.zero_le _⟩ rfl (t_X4_slotOf (v := v) (s) (k) (m)) ?_
    refine zs_iconst (x := 0) dX4_remove_19 (by decide) ?_
    refine zs_iconst (x := 1) dX4_remove_20 (by decide) ?_
    refine zs_eV (As := [.inl ((s) * 1000 + (k) * 10 + (m)), .inl (0), .inl (1)]) (rest := []) (q := 0) dX4_remove_21 rfl (Nat.le_of_ble_eq_true rfl) rfl rfl YX4_placeOf rfl rfl (Nat.le_of_ble_eq_true rfl) gX4_remove_X4_placeOf (by decide) ⟨Nat.zero_le _, Nat.zero_le _⟩ rfl (t_X4_placeOf (v := v) ((s) * 1000 + (k) * 10 + (m)) (0) (1) hS hT (by omega) (by omega) (by omega)) ?_
    have hpc := x_pl_c hT (s * 1000 + k * 10 + m) 0 1
    refine zs_istore (lv' := [some (.inr 0), some (.inl (s)), some (.inl (k)), some (.inl (m)), some (.inl (x_pl v ((s) * 1000 + (k) * 10 + (m)) (0) (1) (x_L v) 0)), none]) dX4_remove_24 (by decide) rfl ?_
    refine zs_iload dX4_remove_26 rfl ?_
    refine zs_iconst (x := -1) dX4_remove_28 (by decide) ?_
    refine zs_icmp_ne (tgt := 35) dX4_remove_29 (by decide) (by omega) (by omega) (fun h29 => ?_) (fun h29 => ?_)
    · have hE := hpc.1.resolve_left h29
      refine zs_aload_n dX4_remove_35 rfl ?_
      refine zs_iload dX4_remove_36 rfl ?_
      refine zs_eV (As := [.inl (x_pl v ((s) * 1000 + (k) * 10 + (m)) (0) (1) (x_L v) 0)]) (rest := []) (q := 0) dX4_remove_38 rfl (Nat.le_of_ble_eq_true rfl) rfl rfl YX4_isShown rfl rfl (Nat.le_of_ble_eq_true rfl) gX4_remove_X4_isShown (by decide) ⟨Nat.zero_le _, Nat.zero_le _⟩ rfl (t_X4_isShown (v := v) (x_pl v ((s) * 1000 + (k) * 10 + (m)) (0) (1) (x_L v) 0) hS hE) ?_
      refine zs_istore (lv' := [some (.inr 0), some (.inl (s)), some (.inl (k)), some (.inl (m)), some (.inl (x_pl v ((s) * 1000 + (k) * 10 + (m)) (0) (1) (x_L v) 0)), some (.inl (zb (0 < x_left v (x_pl v ((s) * 1000 + (k) * 10 + (m)) (0) (1) (x_L v) 0))))]) dX4_remove_41 (by decide) rfl ?_
      refine zs_aload_n dX4_remove_43 rfl ?_
      refine zs_getr (j := 1) dX4_remove_44 rfl rfl rfl (by decide) nX4_remove_X4 fX4_remove_19 ?_
      refine zs_iload dX4_remove_47 rfl ?_
      refine zs_callVv (As := [.inl (x_pl v ((s) * 1000 + (k) * 10 + (m)) (0) (1) (x_L v) 0)]) (rest := []) (q := 7) dX4_remove_49 rfl (Nat.le_of_ble_eq_true rfl) rfl rfl YX1_vacate rfl rfl (Nat.le_of_ble_eq_true rfl) gX4_remove_X1_vacate (by decide) ⟨Nat.zero_le _, Nat.zero_le _⟩ rfl (t_X1_vacate (v := v) (p := x_pl v ((s) * 1000 + (k) * 10 + (m)) (0) (1) (x_L v) 0) (by omega) ⟨hT.1, hT.2.1⟩ (x_T_z hT)) ?_
      intro u hu
      refine zs_iload dX4_remove_52 rfl ?_
      refine zs_ifz_eq (tgt := 61) dX4_remove_54 (by decide)  (fun h54 => ?_) (fun h54 => ?_)
      · refine zs_iconst (x := 0) dX4_remove_61 (by decide) ?_
        refine zs_iret dX4_remove_62 rfl ?_
        exact Or.inr (Or.inr ⟨h7, h29, (zb_n h54).symm, hu⟩)
      · refine zs_iconst (x := 1) dX4_remove_57 (by decide) ?_
        refine zs_goto (tgt := 62) dX4_remove_58 (by decide) ?_
        refine zs_iret dX4_remove_62 rfl ?_
        exact Or.inr (Or.inr ⟨h7, h29, (zb_p h54).symm, hu⟩)
    · refine zs_bipush (x := -2) dX4_remove_32 (by decide) ?_
      refine zs_iret dX4_remove_34 rfl ?_
      exact Or.inr (Or.inl ⟨h7, h29, rfl, rfl⟩)
  · refine zs_iconst (x := -1) dX4_remove_10 (by decide) ?_
    refine zs_iret dX4_remove_11 rfl ?_
    exact Or.inl ⟨h7, rfl, rfl⟩

theorem x_write_r (v : zs_V) (p x : Int) {r : Nat} (h6 : r ≠ 6) (h7 : r ≠ 7) (h8 : r ≠ 8) : x_write v p x r = v r := by
  unfold x_write x_stamp
  rw [zs_put_r _ _ _ _ h8, zs_put_r _ _ _ _ h7, zs_put_r _ _ _ _ h6]
theorem x_write_e (v : zs_V) (p x : Int) (q : Int) : (x_write v p x) 8 q = if q = p then v 4 (v 1 (v 5 p / 1000)) + v 2 (v 5 p / 1000) else v 8 q := by
  unfold x_write x_stamp
  rw [zs_put_e]
  rfl
theorem x_Br_T {v v' : zs_V} {slot x r : Int} (hJ : x_J v) (hs : 0 ≤ slot ∧ slot < 1000 * v 15 0) (h : x_Br v slot x r v') (hfu : x_lf v 200 0 = -1 ∨ v 16 0 < 200) : x_S v' ∧ x_T v' := by
  rcases h with ⟨-, -, rfl⟩ | ⟨h1, -, u, hu, rfl⟩
  · exact ⟨hJ.1, hJ.2.1⟩
  · have hq := (x_lf_c v 200 0 (by omega)).resolve_left h1
    have htk := hfu.resolve_left h1
    have hS := x_Tak_S hu hJ.1
    have hP := x_Tak_P hu (by omega) hs
    have hf := x_P_f hS hP
    generalize x_lf v 200 0 = p at *
    have hSw : x_S (x_write u p x) := x_S_of (x_write_r u p x (by decide) (by decide) (by decide)) (x_write_r u p x (by decide) (by decide) (by decide)) (x_write_r u p x (by decide) (by decide) (by decide)) (x_write_r u p x (by decide) (by decide) (by decide)) (x_write_r u p x (by decide) (by decide) (by decide)) (x_write_r u p x (by decide) (by decide) (by decide)) hS
    have e5 := x_write_r u p x (r := 5) (by decide) (by decide) (by decide)
    have e9 := x_write_r u p x (r := 9) (by decide) (by decide) (by decide)
    have e15 := x_write_r u p x (r := 15) (by decide) (by decide) (by decide)
    have e16 := x_write_r u p x (r := 16) (by decide) (by decide) (by decide)
    obtain ⟨t1, t2, t3, A, B, tL, tL', -, -⟩ := hu
    refine ⟨hSw, by rw [e16, t3]; have := hJ.2.1.1; omega, by rw [e16, t3]; omega, fun j h0 hj => ?_⟩
    have hm := x_L_line (v := x_write u p x) h0 hj
    rw [x_L_of e9 e16, tL'] at hm
    generalize (x_write u p x) 9 j = q at hm
    by_cases hqp : q = p
    · rw [hqp]
      refine ⟨x_P_of e5 e15 hP, ?_⟩
      rw [x_write_e, if_pos rfl]
      omega
    · have hm2 : q ∈ x_L v := by
        rw [tL]
        simp only [List.mem_append, List.mem_cons] at hm ⊢
        rcases hm with hm | hm | hm
        · exact Or.inl hm
        · exact absurd hm hqp
        · exact Or.inr hm
      obtain ⟨⟨g1, g2, g3, g4⟩, g5⟩ := x_L_E hJ.2.1 hm2
      refine ⟨⟨g1, g2, ?_⟩, ?_⟩
      · rw [e5, e15, t2 q, if_neg hqp, t1 15 (by decide) (by decide) (by decide)]
        exact ⟨g3, g4⟩
      · rw [x_write_e, if_neg hqp, t1 8 (by decide) (by decide) (by decide)]
        exact g5
def x_Add (v : zs_V) (s k x r : Int) (v' : zs_V) : Prop := (¬ (((0 ≤ s ∧ s < v 15 0) ∧ 0 ≤ k ∧ k < 100) ∧ v 0 s = 1) ∧ r = -1 ∧ v' = v) ∨ ((((0 ≤ s ∧ s < v 15 0) ∧ 0 ≤ k ∧ k < 100) ∧ v 0 s = 1) ∧ ((x_lf v 200 0 = -1 ∧ r = -3 ∧ v' = v) ∨ (¬ x_lf v 200 0 = -1 ∧ r = x_hm v' s k 1 (x_L v') ∧ ∃ u, x_Tak v (x_lf v 200 0) (s * 1000 + k * 10 + 0) u ∧ v' = x_write u (x_lf v 200 0) x)))
set_option maxHeartbeats 4000000 in
set_option maxRecDepth 100000 in
theorem t_X4_add {v : zs_V} (hJ : x_J v) (hfu : x_lf v 200 0 = -1 ∨ v 16 0 < 200) (s k x : Int) (hs : zn s) (hk : zn k) (hx : zn x) : zs_R mX4_add 0 0 shX (fun r v' => x_Add v s k x r v') v 0 [some (.inr 0), some (.inl (s)), some (.inl (k)), some (.inl (x))] [] := by
  have hS := hJ.1
  have hT := hJ.2.1
  have hm2 := hS.2.1
  refine zs_aload_n dX4_add_0 rfl ?_
  refine zs_iload_n dX4_add_1 rfl ?_
  refine zs_iload_n dX4_add_2 rfl ?_
  refine zs_eV (As := [.inl (s), .inl (k)]) (rest := []) (q := 0) dX4_add_3 rfl (Nat.le_of_ble_eq_true rfl) rfl rfl YX4_isListFor rfl rfl (Nat.le_of_ble_eq_true rfl) gX4_add_X4_isListFor (by decide) ⟨Nat.zero_le _, Nat.zero_le _⟩ rfl (t_X4_isListFor (v := v) hS (s) (k) (by omega) (by omega)) ?_
  refine zs_ifz_ne (tgt := 11) dX4_add_6 (by decide)  (fun h6 => ?_) (fun h6 => ?_)
  · refine zs_aload_n dX4_add_11 rfl ?_
    refine zs_iload_n dX4_add_12 rfl ?_
    refine zs_iload_n dX4_add_13 rfl ?_
    refine zs_iconst (x := 0) dX4_add_14 (by decide) ?_
    refine zs_eS (As := [.inl (s), .inl (k), .inl (0)]) (rest := [.inr 0]) dX4_add_15 rfl (Nat.le_of_ble_eq_true rfl) YX4_slotOf rfl (Nat.le_of_ble_eq_true rfl) gX4_add_X4_slotOf (by decide) ⟨Nat.zero_le _, Nat.zero_le _⟩ rfl (t_X4_slotOf (v := v) (s) (k) (0)) ?_
    refine zs_iload_n dX4_add_18 rfl ?_
    refine zs_callV (As := [.inl ((s) * 1000 + (k) * 10 + (0)), .inl (x)]) (rest := []) (q := 0) dX4_add_19 rfl (Nat.le_of_ble_eq_true rfl) rfl rfl YX4_bring rfl rfl (Nat.le_of_ble_eq_true rfl) gX4_add_X4_bring (by decide) ⟨Nat.zero_le _, Nat.zero_le _⟩ rfl (t_X4_bring (v := v) hJ ((s) * 1000 + (k) * 10 + (0)) (x) (by omega) hfu) ?_
    intro r u hbr
    have hr01 : r = 0 ∨ r = 1 := by rcases hbr with ⟨-, b, -⟩ | ⟨-, b, -⟩ <;> omega
    refine zs_if_ne (tgt := 28) dX4_add_22 (by decide) (by omega) (fun h22 => ?_) (fun h22 => ?_)
    · obtain ⟨hS, hT⟩ := x_Br_T hJ (by omega) hbr hfu
      refine zs_aload_n dX4_add_28 rfl ?_
      refine zs_iload_n dX4_add_29 rfl ?_
      refine zs_iload_n dX4_add_30 rfl ?_
      refine zs_iconst (x := 1) dX4_add_31 (by decide) ?_
      refine zs_eV (As := [.inl (s), .inl (k), .inl (1)]) (rest := []) (q := 0) dX4_add_32 rfl (Nat.le_of_ble_eq_true rfl) rfl rfl YX4_howMany rfl rfl (Nat.le_of_ble_eq_true rfl) gX4_add_X4_howMany (by decide) ⟨Nat.zero_le _, Nat.zero_le _⟩ rfl (t_X4_howMany (v := u) (s) (k) (1) hS hT (by omega) (by omega) (by omega)) ?_
      refine zs_iret dX4_add_35 rfl ?_
      refine Or.inr ⟨h6, ?_⟩
      rcases hbr with ⟨b1, b2, b3⟩ | ⟨b1, b2, b3⟩
      · exfalso; omega
      · exact Or.inr ⟨b1, rfl, b3⟩
    · refine zs_bipush (x := -3) dX4_add_25 (by decide) ?_
      refine zs_iret dX4_add_27 rfl ?_
      refine Or.inr ⟨h6, ?_⟩
      rcases hbr with ⟨b1, b2, b3⟩ | ⟨b1, b2, b3⟩
      · exact Or.inl ⟨b1, rfl, b3⟩
      · exfalso; omega
  · refine zs_iconst (x := -1) dX4_add_9 (by decide) ?_
    refine zs_iret dX4_add_10 rfl ?_
    exact Or.inl ⟨h6, rfl, rfl⟩
