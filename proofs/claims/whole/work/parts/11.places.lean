set_option maxHeartbeats 4000000 in
set_option maxRecDepth 100000 in
theorem l_X1_leastFree {v : zs_V} (hz : ∀ p : Int, 0 ≤ p → p < 200 → zn (v 5 p)) {r0 : Int} : ∀ (n : Nat) (p : Int), 0 ≤ p → p + n = 200 → x_lf v n p = r0 → zs_R mX1_leastFree 0 0 shX (zs_X r0 v) v 2 [some (.inr 7), some (.inl (p))] [] := by
  intro n
  induction n using Nat.strongRecOn with
  | ind n ih =>
    intro p h0 hn hr
    refine zs_iload_n dX1_leastFree_2 rfl ?_
    refine zs_sipush (x := 200) dX1_leastFree_3 (by decide) ?_
    refine zs_icmp_ge (tgt := 25) dX1_leastFree_6 (by decide) (by omega) (by omega) (fun h6 => ?_) (fun h6 => ?_)
    · refine zs_iconst (x := -1) dX1_leastFree_25 (by decide) ?_
      refine zs_iret dX1_leastFree_26 rfl ?_
      obtain rfl : n = 0 := by omega
      exact ⟨hr, rfl⟩
    · obtain ⟨n', rfl⟩ : ∃ n', n = n' + 1 := ⟨n - 1, by omega⟩
      have hzp := hz p (by omega) (by omega)
      refine zs_aload_n dX1_leastFree_9 rfl ?_
      refine zs_iload_n dX1_leastFree_10 rfl ?_
      refine zs_eV (As := [.inl (p)]) (rest := []) (q := 7) dX1_leastFree_11 rfl (Nat.le_of_ble_eq_true rfl) rfl rfl YX1_isTaken rfl rfl (Nat.le_of_ble_eq_true rfl) gX1_leastFree_X1_isTaken (by decide) ⟨Nat.zero_le _, Nat.zero_le _⟩ rfl (t_X1_isTaken (v := v) (p) (by omega) (by omega)) ?_
      refine zs_ifz_ne (tgt := 19) dX1_leastFree_14 (by decide)  (fun h14 => ?_) (fun h14 => ?_)
      · refine zs_iinc (lv' := [some (.inr 7), some (.inl (p + 1))]) dX1_leastFree_19 rfl (by decide) rfl ?_
        refine zs_goto (tgt := 2) dX1_leastFree_22 (by decide) ?_
        exact ih n' (by omega) (p + 1) (by omega) (by omega) (by simp only [x_lf] at hr; rw [if_neg h14] at hr; exact hr)
      · refine zs_iload_n dX1_leastFree_17 rfl ?_
        refine zs_iret dX1_leastFree_18 rfl ?_
        simp only [x_lf] at hr
        rw [if_pos (by omega)] at hr
        exact ⟨hr, rfl⟩
set_option maxHeartbeats 4000000 in
set_option maxRecDepth 100000 in
theorem t_X1_leastFree {v : zs_V} (hz : ∀ p : Int, 0 ≤ p → p < 200 → zn (v 5 p)) : zs_R mX1_leastFree 0 0 shX (zs_X (x_lf v 200 0) v) v 0 [some (.inr 7), none] [] := by
  refine zs_iconst (x := 0) dX1_leastFree_0 (by decide) ?_
  refine zs_istore_n (lv' := [some (.inr 7), some (.inl (0))]) dX1_leastFree_1 (by decide) rfl ?_
  exact l_X1_leastFree hz 200 0 (by omega) (by omega) rfl
set_option maxHeartbeats 4000000 in
set_option maxRecDepth 100000 in
theorem t_X2_begin {v : zs_V} (h : 0 ≤ v 17 0 ∧ v 17 0 < 150) (hk : 0 ≤ v 18 0 ∧ v 18 0 ≤ 150) : zs_R mX2_begin 0 0 shX (zs_X (x_ri (x_rb v) ((x_rb v) 18 0 - 1)) (x_rb v)) v 0 [some (.inr 13)] [] := by
  refine zs_aload_n dX2_begin_0 rfl ?_
  refine zs_geti (j := 2) dX2_begin_1 rfl rfl rfl (by decide) nX2_begin_X2 fX2_begin_19 ?_
  refine zs_sipush (x := 150) dX2_begin_4 (by decide) ?_
  refine zs_icmp_ne (tgt := 27) dX2_begin_7 (by decide) (by omega) (by omega) (fun h7 => ?_) (fun h7 => ?_)
  · refine zs_aload_n dX2_begin_27 rfl ?_
    refine zs_dup dX2_begin_28 ?_
    refine zs_geti (j := 2) dX2_begin_29 rfl rfl rfl (by decide) nX2_begin_X2 fX2_begin_19 ?_
    refine zs_iconst (x := 1) dX2_begin_32 (by decide) ?_
    refine zs_iadd dX2_begin_33 ?_
    refine zs_puti (j := 2) dX2_begin_34 rfl rfl (by decide) rfl (by decide) nX2_begin_X2 tyX2 tyX2_ok nmX2 rfl (by decide +kernel) fX2_begin_19 ?_
    refine zs_aload_n dX2_begin_37 rfl ?_
    refine zs_dup dX2_begin_38 ?_
    refine zs_geti (j := 3) dX2_begin_39 rfl rfl rfl (by decide) nX2_begin_X2 fX2_begin_22 ?_
    refine zs_iconst (x := 1) dX2_begin_42 (by decide) ?_
    refine zs_iadd dX2_begin_43 ?_
    refine zs_puti (j := 3) dX2_begin_44 rfl rfl (by decide) rfl (by decide) nX2_begin_X2 tyX2 tyX2_ok nmX2 rfl (by decide +kernel) fX2_begin_22 ?_
    refine zs_aload_n dX2_begin_47 rfl ?_
    refine zs_aload_n dX2_begin_48 rfl ?_
    refine zs_geti (j := 2) dX2_begin_49 rfl rfl rfl (by decide) nX2_begin_X2 fX2_begin_19 ?_
    refine zs_iconst (x := 1) dX2_begin_52 (by decide) ?_
    refine zs_isub dX2_begin_53 ?_
    have e1 : (zs_put (zs_put v 18 0 ((v 18 0) + (1))) 19 0 (((zs_put v 18 0 ((v 18 0) + (1))) 19 0) + (1))) 18 0 = v 18 0 + 1 := rfl
    have e2 : (zs_put (zs_put v 18 0 ((v 18 0) + (1))) 19 0 (((zs_put v 18 0 ((v 18 0) + (1))) 19 0) + (1))) 17 0 = v 17 0 := rfl
    refine zs_eV (As := [.inl (((zs_put (zs_put v 18 0 ((v 18 0) + (1))) 19 0 (((zs_put v 18 0 ((v 18 0) + (1))) 19 0) + (1))) 18 0) - (1))]) (rest := []) (q := 13) dX2_begin_54 rfl (Nat.le_of_ble_eq_true rfl) rfl rfl YX2_indexOf rfl rfl (Nat.le_of_ble_eq_true rfl) gX2_begin_X2_indexOf (by decide) ⟨Nat.zero_le _, Nat.zero_le _⟩ rfl (t_X2_indexOf (v := (zs_put (zs_put v 18 0 ((v 18 0) + (1))) 19 0 (((zs_put v 18 0 ((v 18 0) + (1))) 19 0) + (1)))) (((zs_put (zs_put v 18 0 ((v 18 0) + (1))) 19 0 (((zs_put v 18 0 ((v 18 0) + (1))) 19 0) + (1))) 18 0) - (1)) (by omega) (by omega)) ?_
    refine zs_iret dX2_begin_57 rfl ?_
    have e : x_rb v = (zs_put (zs_put v 18 0 ((v 18 0) + (1))) 19 0 (((zs_put v 18 0 ((v 18 0) + (1))) 19 0) + (1))) := by unfold x_rb; rw [if_neg h7]; rfl
    rw [e]
    exact ⟨rfl, rfl⟩
  · refine zs_aload_n dX2_begin_10 rfl ?_
    refine zs_aload_n dX2_begin_11 rfl ?_
    refine zs_geti (j := 1) dX2_begin_12 rfl rfl rfl (by decide) nX2_begin_X2 fX2_begin_15 ?_
    refine zs_iconst (x := 1) dX2_begin_15 (by decide) ?_
    refine zs_iadd dX2_begin_16 ?_
    refine zs_sipush (x := 150) dX2_begin_17 (by decide) ?_
    refine zs_irem dX2_begin_20 (by omega) (by omega) ?_
    refine zs_puti (j := 1) dX2_begin_21 rfl rfl (by decide) rfl (by decide) nX2_begin_X2 tyX2 tyX2_ok nmX2 rfl (by decide +kernel) fX2_begin_15 ?_
    refine zs_goto (tgt := 37) dX2_begin_24 (by decide) ?_
    refine zs_aload_n dX2_begin_37 rfl ?_
    refine zs_dup dX2_begin_38 ?_
    refine zs_geti (j := 3) dX2_begin_39 rfl rfl rfl (by decide) nX2_begin_X2 fX2_begin_22 ?_
    refine zs_iconst (x := 1) dX2_begin_42 (by decide) ?_
    refine zs_iadd dX2_begin_43 ?_
    refine zs_puti (j := 3) dX2_begin_44 rfl rfl (by decide) rfl (by decide) nX2_begin_X2 tyX2 tyX2_ok nmX2 rfl (by decide +kernel) fX2_begin_22 ?_
    refine zs_aload_n dX2_begin_47 rfl ?_
    refine zs_aload_n dX2_begin_48 rfl ?_
    refine zs_geti (j := 2) dX2_begin_49 rfl rfl rfl (by decide) nX2_begin_X2 fX2_begin_19 ?_
    refine zs_iconst (x := 1) dX2_begin_52 (by decide) ?_
    refine zs_isub dX2_begin_53 ?_
    have e1 : (zs_put (zs_put v 17 0 (((v 17 0) + (1)) % (150))) 19 0 (((zs_put v 17 0 (((v 17 0) + (1)) % (150))) 19 0) + (1))) 18 0 = v 18 0 := rfl
    have e2 : (zs_put (zs_put v 17 0 (((v 17 0) + (1)) % (150))) 19 0 (((zs_put v 17 0 (((v 17 0) + (1)) % (150))) 19 0) + (1))) 17 0 = (v 17 0 + 1) % 150 := rfl
    refine zs_eV (As := [.inl (((zs_put (zs_put v 17 0 (((v 17 0) + (1)) % (150))) 19 0 (((zs_put v 17 0 (((v 17 0) + (1)) % (150))) 19 0) + (1))) 18 0) - (1))]) (rest := []) (q := 13) dX2_begin_54 rfl (Nat.le_of_ble_eq_true rfl) rfl rfl YX2_indexOf rfl rfl (Nat.le_of_ble_eq_true rfl) gX2_begin_X2_indexOf (by decide) ⟨Nat.zero_le _, Nat.zero_le _⟩ rfl (t_X2_indexOf (v := (zs_put (zs_put v 17 0 (((v 17 0) + (1)) % (150))) 19 0 (((zs_put v 17 0 (((v 17 0) + (1)) % (150))) 19 0) + (1)))) (((zs_put (zs_put v 17 0 (((v 17 0) + (1)) % (150))) 19 0 (((zs_put v 17 0 (((v 17 0) + (1)) % (150))) 19 0) + (1))) 18 0) - (1)) (by omega) (by omega)) ?_
    refine zs_iret dX2_begin_57 rfl ?_
    have e : x_rb v = (zs_put (zs_put v 17 0 (((v 17 0) + (1)) % (150))) 19 0 (((zs_put v 17 0 (((v 17 0) + (1)) % (150))) 19 0) + (1))) := by unfold x_rb; rw [if_pos h7]; rfl
    rw [e]
    exact ⟨rfl, rfl⟩

def zs_fill (v : zs_V) (r : Nat) (a b x : Int) : zs_V := fun r' k => if r' = r ∧ a ≤ k ∧ k < b then x else v r' k
theorem zs_fill_step (v : zs_V) (r : Nat) (a b x : Int) (h : a < b) : zs_fill (zs_put v r a x) r (a + 1) b x = zs_fill v r a b x := by
  funext r' k
  unfold zs_fill zs_put
  repeat' split
  all_goals first | rfl | (exfalso; omega)
theorem zs_fill_0 (v : zs_V) (r : Nat) (a b x : Int) (h : b ≤ a) : zs_fill v r a b x = v := by
  funext r' k
  unfold zs_fill
  rw [if_neg (by omega)]
set_option maxRecDepth 100000 in
theorem l_fill {sh : List zs_C} {q r N : Nat} (hs : sh[q]? = some (.inr (r, N))) (hm : zs_men r (sh.set q (.inl (0, []))) = false) (hN : N < 2147483648) (x : Int) : ∀ (n : Nat) (v : zs_V) (i : Int), 0 ≤ i → i + n = N → zs_R mJ7_fill_53178 0 0 sh (zs_X 0 (zs_fill v r i N x)) v 5 [some (.inr q), some (.inl x), some (.inl i), some (.inl (N : Int))] [] := by
  intro n
  induction n with
  | zero =>
    intro v i h0 h1
    refine zs_iload_n dJ7_fill_53178_5 rfl ?_
    refine zs_iload_n dJ7_fill_53178_6 rfl ?_
    refine zs_icmp_ge (tgt := 20) dJ7_fill_53178_7 (by decide) (by omega) (by omega) (fun h => ?_) (fun h => absurd h (by omega))
    refine zs_vret dJ7_fill_53178_20 rfl ?_
    exact ⟨rfl, (zs_fill_0 _ _ _ _ _ (by omega)).symm⟩
  | succ n ih =>
    intro v i h0 h1
    refine zs_iload_n dJ7_fill_53178_5 rfl ?_
    refine zs_iload_n dJ7_fill_53178_6 rfl ?_
    refine zs_icmp_ge (tgt := 20) dJ7_fill_53178_7 (by decide) (by omega) (by omega) (fun h => absurd h (by omega)) (fun h => ?_)
    refine zs_aload_n dJ7_fill_53178_10 rfl ?_
    refine zs_iload_n dJ7_fill_53178_11 rfl ?_
    refine zs_iload_n dJ7_fill_53178_12 rfl ?_
    refine zs_iastore dJ7_fill_53178_13 hs hm hN h0 (by omega) ?_
    refine zs_iinc (lv' := [some (.inr q), some (.inl x), some (.inl (i + 1)), some (.inl (N : Int))]) dJ7_fill_53178_14 rfl (by decide) rfl ?_
    refine zs_goto (tgt := 5) dJ7_fill_53178_17 (by decide) ?_
    rw [← zs_fill_step v r i N x (by omega)]
    exact ih _ (i + 1) (by omega) (by omega)
set_option maxRecDepth 100000 in
theorem t_fill {sh : List zs_C} {q r N : Nat} (hs : sh[q]? = some (.inr (r, N))) (hm : zs_men r (sh.set q (.inl (0, []))) = false) (hN : N < 2147483648) (x : Int) (v : zs_V) : zs_R mJ7_fill_53178 0 0 sh (zs_X 0 (zs_fill v r 0 N x)) v 0 [some (.inr q), some (.inl x), none, none] [] := by
  refine zs_iconst (x := 0) dJ7_fill_53178_0 (by decide) ?_
  refine zs_istore_n (lv' := [some (.inr q), some (.inl x), some (.inl 0), none]) dJ7_fill_53178_1 (by decide) rfl ?_
  refine zs_aload_n dJ7_fill_53178_2 rfl ?_
  refine zs_alen dJ7_fill_53178_3 hs ?_
  refine zs_istore_n (lv' := [some (.inr q), some (.inl x), some (.inl 0), some (.inl (N : Int))]) dJ7_fill_53178_4 (by decide) rfl ?_
  exact l_fill hs hm hN x N v 0 (by omega) (by omega)
set_option maxHeartbeats 4000000 in
set_option maxRecDepth 100000 in
theorem t_X1_vacateAll {v : zs_V} : zs_R mX1_vacateAll 0 0 shX (zs_X 0 (zs_put (zs_fill v 5 0 200 (-1)) 16 0 0)) v 0 [some (.inr 7)] [] := by
  refine zs_aload_n dX1_vacateAll_0 rfl ?_
  refine zs_getr (j := 0) dX1_vacateAll_1 rfl rfl rfl (by decide) nX1_vacateAll_X1 fX1_vacateAll_9 ?_
  refine zs_iconst (x := -1) dX1_vacateAll_4 (by decide) ?_
  refine zs_eSv (As := [.inr 8, .inl (-1)]) (rest := []) dX1_vacateAll_5 rfl (Nat.le_of_ble_eq_true rfl) YJ7_fill_53178 rfl (Nat.le_of_ble_eq_true rfl) gX1_vacateAll_J7_fill_53178 (by decide) ⟨Nat.zero_le _, Nat.zero_le _⟩ rfl (t_fill (q := 8) (N := 200) rfl (by decide) (by decide) (-1) v) ?_
  refine zs_aload_n dX1_vacateAll_8 rfl ?_
  refine zs_iconst (x := 0) dX1_vacateAll_9 (by decide) ?_
  refine zs_puti (j := 5) dX1_vacateAll_10 rfl rfl (by decide) rfl (by decide) nX1_vacateAll_X1 tyX1 tyX1_ok nmX1 rfl (by decide +kernel) fX1_vacateAll_27 ?_
  refine zs_vret dX1_vacateAll_13 rfl ?_
  exact ⟨rfl, rfl⟩

def x_tkI (v : zs_V) (p slot : Int) (u : zs_V) (t : Int) : Prop := (∀ r, r ≠ 9 → u r = zs_put v 5 p slot r) ∧ (∀ j : Int, 0 ≤ j → j < t → u 9 j = v 9 j) ∧ (∀ j : Int, t < j → j ≤ v 16 0 → u 9 j = v 9 (j - 1)) ∧ (∀ j : Int, t ≤ j → j < v 16 0 → slot < v 5 (v 9 j))
def x_tkP (v : zs_V) (p slot : Int) : Prop := 0 ≤ v 16 0 ∧ v 16 0 < 200 ∧ 0 ≤ p ∧ p < 200 ∧ zn slot ∧ ∀ j : Int, 0 ≤ j → j < v 16 0 → 0 ≤ v 9 j ∧ v 9 j < 200 ∧ zn (v 5 (v 9 j)) ∧ v 9 j ≠ p
theorem x_tk_at {v u : zs_V} {p slot t : Int} (hP : x_tkP v p slot) (hI : x_tkI v p slot u t) (h0 : 0 < t) (ht : t ≤ v 16 0) : u 9 (t - 1) = v 9 (t - 1) ∧ u 5 (u 9 (t - 1)) = v 5 (v 9 (t - 1)) ∧ 0 ≤ v 9 (t - 1) ∧ v 9 (t - 1) < 200 ∧ zn (v 5 (v 9 (t - 1))) := by
  have e1 := hI.2.1 (t - 1) (by omega) (by omega)
  obtain ⟨g1, g2, g3, g4⟩ := hP.2.2.2.2.2 (t - 1) (by omega) (by omega)
  refine ⟨e1, ?_, g1, g2, g3⟩
  rw [e1, hI.1 5 (by decide), zs_put_k _ _ _ _ g4]
theorem x_tk_step {v u : zs_V} {p slot t : Int} (hP : x_tkP v p slot) (hI : x_tkI v p slot u t) (h0 : 0 < t) (ht : t ≤ v 16 0) (hs : slot < v 5 (v 9 (t - 1))) : x_tkI v p slot (zs_put u 9 t (u 9 (t - 1))) (t + -1) := by
  refine ⟨fun r hr => by rw [zs_put_r _ _ _ _ hr]; exact hI.1 r hr, fun j h1 h2 => ?_, fun j h1 h2 => ?_, fun j h1 h2 => ?_⟩
  · rw [zs_put_k _ _ _ _ (by omega)]
    exact hI.2.1 j h1 (by omega)
  · by_cases hj : j = t
    · rw [hj, zs_put_s]
      exact hI.2.1 (t - 1) (by omega) (by omega)
    · rw [zs_put_k _ _ _ _ hj]
      exact hI.2.2.1 j (by omega) h2
  · by_cases hj : j = t - 1
    · rw [hj]; exact hs
    · exact hI.2.2.2 j (by omega) h2
theorem x_tk_end {v u : zs_V} {p slot t : Int} (hP : x_tkP v p slot) (hI : x_tkI v p slot u t) (h0 : 0 ≤ t) (ht : t ≤ v 16 0) (hs : 0 < t → v 5 (v 9 (t - 1)) ≤ slot) : x_Tak v p slot (zs_put (zs_put u 9 t p) 16 0 ((zs_put u 9 t p) 16 0 + 1)) := by
  have e16 : (zs_put u 9 t p) 16 0 = v 16 0 := by
    rw [zs_put_r _ _ _ _ (by decide), hI.1 16 (by decide), zs_put_r _ _ _ _ (by decide)]
  have et : (zs_put (zs_put u 9 t p) 16 0 ((zs_put u 9 t p) 16 0 + 1)) 16 0 = v 16 0 + 1 := by rw [zs_put_s, e16]
  refine ⟨fun r h5 h9 h16 => ?_, fun q => ?_, et, x_seg v 0 t.toNat, x_seg v t (v 16 0 - t).toNat, ?_, ?_, ?_, ?_⟩
  · rw [zs_put_r _ _ _ _ h16, zs_put_r _ _ _ _ h9, hI.1 r h9, zs_put_r _ _ _ _ h5]
  · rw [zs_put_r _ _ _ _ (by decide), zs_put_r _ _ _ _ (by decide), hI.1 5 (by decide), zs_put_e]
  · unfold x_L
    rw [show (v 16 0).toNat = t.toNat + (v 16 0 - t).toNat by omega, x_seg_add]
    congr 2
    omega
  · unfold x_L
    rw [et, show (v 16 0 + 1).toNat = t.toNat + ((v 16 0 - t).toNat + 1) by omega, x_seg_add]
    have h9 : ∀ j : Int, (zs_put (zs_put u 9 t p) 16 0 ((zs_put u 9 t p) 16 0 + 1)) 9 j = if j = t then p else u 9 j := by
      intro j
      rw [zs_put_r _ _ _ _ (by decide), zs_put_e]
    congr 1
    · apply x_seg_congr
      intro i hi0 hi1
      rw [h9, if_neg (by omega)]
      exact hI.2.1 _ (by omega) (by omega)
    · show (zs_put (zs_put u 9 t p) 16 0 ((zs_put u 9 t p) 16 0 + 1)) 9 (0 + (t.toNat : Int)) :: _ = _
      rw [h9, if_pos (by omega)]
      congr 1
      apply x_seg_congr
      intro i hi0 hi1
      rw [h9, if_neg (by omega), hI.2.2.1 _ (by omega) (by omega)]
      congr 1
      omega
  · intro q hq
    obtain ⟨j, h1, h2, rfl⟩ := x_seg_mem hq
    exact hI.2.2.2 j h1 (by omega)
  · intro q hq
    by_cases h : t.toNat = 0
    · rw [h] at hq
      simp [x_seg] at hq
    · obtain ⟨m, hm⟩ : ∃ m, t.toNat = m + 1 := ⟨t.toNat - 1, by omega⟩
      rw [hm, x_seg_add] at hq
      simp [x_seg] at hq
      subst hq
      have := hs (by omega)
      rw [show ((m : Int)) = t - 1 by omega]
      exact this
set_option maxHeartbeats 4000000 in
set_option maxRecDepth 100000 in
theorem l_X1_take {v : zs_V} {p slot : Int} (hP : x_tkP v p slot) : ∀ (n : Nat) (u : zs_V) (t : Int), t = n → t ≤ v 16 0 → x_tkI v p slot u t → zs_R mX1_take 0 0 shX (fun _ v' => x_Tak v p slot v') u 12 [some (.inr 7), some (.inl (p)), some (.inl (slot)), some (.inl (t))] [] := by
  obtain ⟨hP1, hP2, hP3, hP4, hP5, -⟩ := id hP
  intro n
  induction n using Nat.strongRecOn with
  | ind n ih =>
    intro u t htn ht hI
    refine zs_iload_n dX1_take_12 rfl ?_
    refine zs_if_le (tgt := 53) dX1_take_13 (by decide) (by omega) (fun h13 => ?_) (fun h13 => ?_)
    · refine zs_aload_n dX1_take_53 rfl ?_
      refine zs_getr (j := 4) dX1_take_54 rfl rfl rfl (by decide) nX1_take_X1 fX1_take_24 ?_
      refine zs_iload_n dX1_take_57 rfl ?_
      refine zs_iload_n dX1_take_58 rfl ?_
      refine zs_iastore dX1_take_59 rfl (by decide) (by decide) (by omega) (by omega) ?_
      refine zs_aload_n dX1_take_60 rfl ?_
      refine zs_dup dX1_take_61 ?_
      refine zs_geti (j := 5) dX1_take_62 rfl rfl rfl (by decide) nX1_take_X1 fX1_take_27 ?_
      refine zs_iconst (x := 1) dX1_take_65 (by decide) ?_
      refine zs_iadd dX1_take_66 ?_
      refine zs_puti (j := 5) dX1_take_67 rfl rfl (by decide) rfl (by decide) nX1_take_X1 tyX1 tyX1_ok nmX1 rfl (by decide +kernel) fX1_take_27 ?_
      refine zs_vret dX1_take_70 rfl ?_
      exact x_tk_end hP hI (by omega) ht (fun h => by omega)
    · obtain ⟨e1, e2, e3, e4, e5⟩ := x_tk_at hP hI (by omega) ht
      refine zs_aload_n dX1_take_16 rfl ?_
      refine zs_getr (j := 0) dX1_take_17 rfl rfl rfl (by decide) nX1_take_X1 fX1_take_9 ?_
      refine zs_aload_n dX1_take_20 rfl ?_
      refine zs_getr (j := 4) dX1_take_21 rfl rfl rfl (by decide) nX1_take_X1 fX1_take_24 ?_
      refine zs_iload_n dX1_take_24 rfl ?_
      refine zs_iconst (x := 1) dX1_take_25 (by decide) ?_
      refine zs_isub dX1_take_26 ?_
      refine zs_iaload dX1_take_27 rfl (by decide) (by omega) (by omega) ?_
      refine zs_iaload dX1_take_28 rfl (by decide) (by omega) (by omega) ?_
      refine zs_iload_n dX1_take_29 rfl ?_
      refine zs_icmp_le (tgt := 53) dX1_take_30 (by decide) (by omega) (by omega) (fun h30 => ?_) (fun h30 => ?_)
      · refine zs_aload_n dX1_take_53 rfl ?_
        refine zs_getr (j := 4) dX1_take_54 rfl rfl rfl (by decide) nX1_take_X1 fX1_take_24 ?_
        refine zs_iload_n dX1_take_57 rfl ?_
        refine zs_iload_n dX1_take_58 rfl ?_
        refine zs_iastore dX1_take_59 rfl (by decide) (by decide) (by omega) (by omega) ?_
        refine zs_aload_n dX1_take_60 rfl ?_
        refine zs_dup dX1_take_61 ?_
        refine zs_geti (j := 5) dX1_take_62 rfl rfl rfl (by decide) nX1_take_X1 fX1_take_27 ?_
        refine zs_iconst (x := 1) dX1_take_65 (by decide) ?_
        refine zs_iadd dX1_take_66 ?_
        refine zs_puti (j := 5) dX1_take_67 rfl rfl (by decide) rfl (by decide) nX1_take_X1 tyX1 tyX1_ok nmX1 rfl (by decide +kernel) fX1_take_27 ?_
        refine zs_vret dX1_take_70 rfl ?_
        exact x_tk_end hP hI (by omega) ht (fun h => by omega)
      · refine zs_aload_n dX1_take_33 rfl ?_
        refine zs_getr (j := 4) dX1_take_34 rfl rfl rfl (by decide) nX1_take_X1 fX1_take_24 ?_
        refine zs_iload_n dX1_take_37 rfl ?_
        refine zs_aload_n dX1_take_38 rfl ?_
        refine zs_getr (j := 4) dX1_take_39 rfl rfl rfl (by decide) nX1_take_X1 fX1_take_24 ?_
        refine zs_iload_n dX1_take_42 rfl ?_
        refine zs_iconst (x := 1) dX1_take_43 (by decide) ?_
        refine zs_isub dX1_take_44 ?_
        refine zs_iaload dX1_take_45 rfl (by decide) (by omega) (by omega) ?_
        refine zs_iastore dX1_take_46 rfl (by decide) (by decide) (by omega) (by omega) ?_
        refine zs_iinc (lv' := [some (.inr 7), some (.inl (p)), some (.inl (slot)), some (.inl (t + (-1)))]) dX1_take_47 rfl (by decide) rfl ?_
        refine zs_goto (tgt := 12) dX1_take_50 (by decide) ?_
        exact ih (n - 1) (by omega) _ (t + -1) (by omega) (by omega) (x_tk_step hP hI (by omega) ht (by omega))
set_option maxHeartbeats 4000000 in
set_option maxRecDepth 100000 in
theorem t_X1_take {v : zs_V} {p slot : Int} (hP : x_tkP v p slot) : zs_R mX1_take 0 0 shX (fun _ v' => x_Tak v p slot v') v 0 [some (.inr 7), some (.inl (p)), some (.inl (slot)), none] [] := by
  obtain ⟨hP1, hP2, hP3, hP4, hP5, -⟩ := id hP
  refine zs_aload_n dX1_take_0 rfl ?_
  refine zs_getr (j := 0) dX1_take_1 rfl rfl rfl (by decide) nX1_take_X1 fX1_take_9 ?_
  refine zs_iload_n dX1_take_4 rfl ?_
  refine zs_iload_n dX1_take_5 rfl ?_
  refine zs_iastore dX1_take_6 rfl (by decide) (by decide) (by omega) (by omega) ?_
  refine zs_aload_n dX1_take_7 rfl ?_
  refine zs_geti (j := 5) dX1_take_8 rfl rfl rfl (by decide) nX1_take_X1 fX1_take_27 ?_
  refine zs_istore_n (lv' := [some (.inr 7), some (.inl (p)), some (.inl (slot)), some (.inl ((zs_put v 5 (p) (slot)) 16 0))]) dX1_take_11 (by decide) rfl ?_
  exact l_X1_take hP (v 16 0).toNat _ (v 16 0) (by omega) (by omega) ⟨fun r _ => rfl, fun j _ _ => by rw [zs_put_r _ _ _ _ (by decide)], fun j h1 h2 => absurd h1 (by omega), fun j h1 h2 => absurd h1 (by omega)⟩

def x_vcI (v : zs_V) (p : Int) (u : zs_V) (i j : Int) : Prop := (∀ r, r ≠ 9 → u r = zs_put v 5 p (-1) r) ∧ (∀ k : Int, j ≤ k → k < v 16 0 → u 9 k = v 9 k) ∧ x_seg u 0 i.toNat = (x_seg v 0 j.toNat).filter (fun q => !(q == p))
theorem x_seg_1 (v : zs_V) {j : Int} (h : 0 ≤ j) : x_seg v 0 (j + 1).toNat = x_seg v 0 j.toNat ++ [v 9 j] := by
  rw [show (j + 1).toNat = j.toNat + 1 by omega, x_seg_add]
  simp [x_seg]
  congr 1
  omega
theorem x_vc_skip {v u : zs_V} {p i j : Int} (hI : x_vcI v p u i j) (h0 : 0 ≤ j) (hj : j < v 16 0) (h : v 9 j = p) : x_vcI v p u i (j + 1) := by
  refine ⟨hI.1, fun k h1 h2 => hI.2.1 k (by omega) h2, ?_⟩
  rw [x_seg_1 v h0, List.filter_append, ← hI.2.2]
  simp [h]
theorem x_vc_step {v u : zs_V} {p i j : Int} (hI : x_vcI v p u i j) (h0 : 0 ≤ i) (hij : i ≤ j) (hj : j < v 16 0) (h : ¬ v 9 j = p) (x : Int) (hx : x = v 9 j) : x_vcI v p (zs_put u 9 i x) (i + 1) (j + 1) := by
  refine ⟨fun r hr => by rw [zs_put_r _ _ _ _ hr]; exact hI.1 r hr, fun k h1 h2 => ?_, ?_⟩
  · rw [zs_put_k _ _ _ _ (by omega)]
    exact hI.2.1 k (by omega) h2
  · rw [x_seg_1 v (by omega), List.filter_append, ← hI.2.2, x_seg_1 _ h0, zs_put_s, hx]
    congr 1
    · apply x_seg_congr
      intro k h1 h2
      rw [zs_put_k _ _ _ _ (by omega)]
    · simp [h]
theorem x_vc_end {v u : zs_V} {p i : Int} (hI : x_vcI v p u i (v 16 0)) (h0 : 0 ≤ i) (hi : i ≤ v 16 0) : x_Vac v p (zs_put u 16 0 i) := by
  refine ⟨fun r h5 h9 h16 => ?_, fun q => ?_, ?_, ?_, ?_⟩
  · rw [zs_put_r _ _ _ _ h16, hI.1 r h9, zs_put_r _ _ _ _ h5]
  · rw [zs_put_r _ _ _ _ (by decide), hI.1 5 (by decide), zs_put_e]
  · rw [zs_put_s]; exact h0
  · rw [zs_put_s]; exact hi
  · unfold x_L
    rw [zs_put_s, ← hI.2.2]
    apply x_seg_congr
    intro k h1 h2
    rw [zs_put_r _ _ _ _ (by decide)]
set_option maxHeartbeats 4000000 in
set_option maxRecDepth 100000 in
theorem l_X1_vacate {v : zs_V} {p : Int} (hp : 0 ≤ p ∧ p < 200) (hT : 0 ≤ v 16 0 ∧ v 16 0 ≤ 200) (hz : ∀ j : Int, 0 ≤ j → j < v 16 0 → zn (v 9 j)) : ∀ (n : Nat) (u : zs_V) (i j : Int), j + n = v 16 0 → 0 ≤ i → i ≤ j → x_vcI v p u i j → zs_R mX1_vacate 0 0 shX (fun _ v' => x_Vac v p v') u 11 [some (.inr 7), some (.inl (p)), some (.inl (i)), some (.inl (j))] [] := by
  intro n
  induction n using Nat.strongRecOn with
  | ind n ih =>
    intro u i j hn h0 hij hI
    have et : u 16 0 = v 16 0 := by rw [hI.1 16 (by decide), zs_put_r _ _ _ _ (by decide)]
    refine zs_iload_n dX1_vacate_11 rfl ?_
    refine zs_aload_n dX1_vacate_12 rfl ?_
    refine zs_geti (j := 5) dX1_vacate_13 rfl rfl rfl (by decide) nX1_vacate_X1 fX1_vacate_27 ?_
    refine zs_icmp_ge (tgt := 50) dX1_vacate_16 (by decide) (by omega) (by omega) (fun h16 => ?_) (fun h16 => ?_)
    · refine zs_aload_n dX1_vacate_50 rfl ?_
      refine zs_iload_n dX1_vacate_51 rfl ?_
      refine zs_puti (j := 5) dX1_vacate_52 rfl rfl (by decide) rfl (by decide) nX1_vacate_X1 tyX1 tyX1_ok nmX1 rfl (by decide +kernel) fX1_vacate_27 ?_
      refine zs_vret dX1_vacate_55 rfl ?_
      obtain rfl : j = v 16 0 := by omega
      exact x_vc_end hI h0 hij
    · have ej := hI.2.1 j (by omega) (by omega)
      have hzj := hz j (by omega) (by omega)
      refine zs_aload_n dX1_vacate_19 rfl ?_
      refine zs_getr (j := 4) dX1_vacate_20 rfl rfl rfl (by decide) nX1_vacate_X1 fX1_vacate_24 ?_
      refine zs_iload_n dX1_vacate_23 rfl ?_
      refine zs_iaload dX1_vacate_24 rfl (by decide) (by omega) (by omega) ?_
      refine zs_iload_n dX1_vacate_25 rfl ?_
      refine zs_icmp_eq (tgt := 44) dX1_vacate_26 (by decide) (by omega) (by omega) (fun h26 => ?_) (fun h26 => ?_)
      · refine zs_iinc (lv' := [some (.inr 7), some (.inl (p)), some (.inl (i)), some (.inl (j + 1))]) dX1_vacate_44 rfl (by decide) rfl ?_
        refine zs_goto (tgt := 11) dX1_vacate_47 (by decide) ?_
        exact ih (n - 1) (by omega) _ i (j + 1) (by omega) h0 (by omega) (x_vc_skip hI (by omega) (by omega) (by omega))
      · refine zs_aload_n dX1_vacate_29 rfl ?_
        refine zs_getr (j := 4) dX1_vacate_30 rfl rfl rfl (by decide) nX1_vacate_X1 fX1_vacate_24 ?_
        refine zs_iload_n dX1_vacate_33 rfl ?_
        refine zs_aload_n dX1_vacate_34 rfl ?_
        refine zs_getr (j := 4) dX1_vacate_35 rfl rfl rfl (by decide) nX1_vacate_X1 fX1_vacate_24 ?_
        refine zs_iload_n dX1_vacate_38 rfl ?_
        refine zs_iaload dX1_vacate_39 rfl (by decide) (by omega) (by omega) ?_
        refine zs_iastore dX1_vacate_40 rfl (by decide) (by decide) (by omega) (by omega) ?_
        refine zs_iinc (lv' := [some (.inr 7), some (.inl (p)), some (.inl (i + 1)), some (.inl (j))]) dX1_vacate_41 rfl (by decide) rfl ?_
        refine zs_iinc (lv' := [some (.inr 7), some (.inl (p)), some (.inl (i + 1)), some (.inl (j + 1))]) dX1_vacate_44 rfl (by decide) rfl ?_
        refine zs_goto (tgt := 11) dX1_vacate_47 (by decide) ?_
        exact ih (n - 1) (by omega) _ (i + 1) (j + 1) (by omega) (by omega) (by omega) (x_vc_step hI h0 hij (by omega) (by omega) _ ej)
set_option maxHeartbeats 4000000 in
set_option maxRecDepth 100000 in
theorem t_X1_vacate {v : zs_V} {p : Int} (hp : 0 ≤ p ∧ p < 200) (hT : 0 ≤ v 16 0 ∧ v 16 0 ≤ 200) (hz : ∀ j : Int, 0 ≤ j → j < v 16 0 → zn (v 9 j)) : zs_R mX1_vacate 0 0 shX (fun _ v' => x_Vac v p v') v 0 [some (.inr 7), some (.inl (p)), none, none] [] := by
  refine zs_aload_n dX1_vacate_0 rfl ?_
  refine zs_getr (j := 0) dX1_vacate_1 rfl rfl rfl (by decide) nX1_vacate_X1 fX1_vacate_9 ?_
  refine zs_iload_n dX1_vacate_4 rfl ?_
  refine zs_iconst (x := -1) dX1_vacate_5 (by decide) ?_
  refine zs_iastore dX1_vacate_6 rfl (by decide) (by decide) (by omega) (by omega) ?_
  refine zs_iconst (x := 0) dX1_vacate_7 (by decide) ?_
  refine zs_istore_n (lv' := [some (.inr 7), some (.inl (p)), some (.inl (0)), none]) dX1_vacate_8 (by decide) rfl ?_
  refine zs_iconst (x := 0) dX1_vacate_9 (by decide) ?_
  refine zs_istore_n (lv' := [some (.inr 7), some (.inl (p)), some (.inl (0)), some (.inl (0))]) dX1_vacate_10 (by decide) rfl ?_
  exact l_X1_vacate hp hT hz (v 16 0).toNat _ 0 0 (by omega) (by omega) (by omega) ⟨fun r _ => rfl, fun k _ _ => by rw [zs_put_r _ _ _ _ (by decide)], rfl⟩
