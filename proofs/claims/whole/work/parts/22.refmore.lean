
theorem m_fd_c (w : zs_V) (s k b : Int) (L : List Int) : m_fd w s k b L = -99999999 ∨ (m_fd w s k b L ∈ L ∧ w 5 (m_fd w s k b L) = s ∧ w 6 (m_fd w s k b L) = k ∧ w 7 (m_fd w s k b L) = b) := by
  induction L with
  | nil => exact Or.inl rfl
  | cons p ps ih =>
    simp only [m_fd]
    split
    · next h => exact Or.inr ⟨List.mem_cons_self, h⟩
    · exact ih.imp id (fun e => ⟨List.mem_cons_of_mem _ e.1, e.2⟩)
theorem m_fd_V {w : zs_V} (hW : m_W w) {s : Int} (k b : Int) (hs : ¬ s = -99999999) : m_V w (m_fd w s k b z_Z) := by
  rcases m_fd_c w s k b z_Z with h | h
  · exact Or.inl h
  · have hb := z_Z_m.mp h.1
    right
    refine ⟨by omega, by omega, (hW _ (by omega) (by omega)).resolve_left ?_⟩
    rw [h.2.1]
    exact hs
theorem m_fr_c (w : zs_V) (L : List Int) : m_fr w L = -99999999 ∨ (m_fr w L ∈ L ∧ w 5 (m_fr w L) = -99999999) := by
  induction L with
  | nil => exact Or.inl rfl
  | cons p ps ih =>
    simp only [m_fr]
    split
    · next h => exact Or.inr ⟨List.mem_cons_self, h⟩
    · exact ih.imp id (fun e => ⟨List.mem_cons_of_mem _ e.1, e.2⟩)
theorem m_fr_b (w : zs_V) : m_fr w z_Z = -99999999 ∨ (0 ≤ m_fr w z_Z ∧ m_fr w z_Z < 200) := (m_fr_c w z_Z).imp id (fun h => z_Z_m.mp h.1)
theorem m_fo_V {w : zs_V} (hW : m_W w) {s : Int} (k sh : Int) (hs : ¬ s = -99999999) (n : Nat) : ∀ last a, m_V w a → m_V w (m_fo w s k sh n last a) := by
  induction n with
  | zero => intro last a h; exact h
  | succ n ih =>
    intro last a h
    simp only [m_fo]
    split
    · exact Or.inl rfl
    · exact ih _ _ (m_fi_V hW k last sh hs)
theorem m_ts_r (w : zs_V) {r : Nat} (h1 : r ≠ 12) (h2 : r ≠ 18) : m_ts w r = w r := by
  unfold m_ts
  split
  · rw [zs_put_r _ _ _ _ h2, m_shift_r _ _ h1]
  · rfl
theorem m_tell_r (w : zs_V) (p : Int) {r : Nat} (h1 : r ≠ 12) (h2 : r ≠ 18) (h3 : r ≠ 19) : m_tell w p r = w r := by
  unfold m_tell m_tB m_tA
  rw [zs_put_r _ _ _ _ h3, zs_put_r _ _ _ _ h2, zs_put_r _ _ _ _ h1, zs_put_r _ _ _ _ h1, zs_put_r _ _ _ _ h1, zs_put_r _ _ _ _ h1, zs_put_r _ _ _ _ h1, zs_put_r _ _ _ _ h1, m_ts_r w h1 h2]
theorem m_tell_n {w : zs_V} (p : Int) (h : 0 ≤ w 18 0 ∧ w 18 0 ≤ 150) : (m_tell w p) 18 0 = (if w 18 0 = 150 then 150 else w 18 0 + 1) := by
  unfold m_tell m_tB
  rw [zs_put_r _ _ _ _ (by decide : 18 ≠ 19), zs_put_s]
  unfold m_ts
  split
  · rw [zs_put_s]; rfl
  · rfl
theorem m_tell_S {w : zs_V} (p : Int) (h : x_S w) : x_S (m_tell w p) := x_S_of (m_tell_r w p (by decide) (by decide) (by decide)) (m_tell_r w p (by decide) (by decide) (by decide)) (m_tell_r w p (by decide) (by decide) (by decide)) (m_tell_r w p (by decide) (by decide) (by decide)) (m_tell_r w p (by decide) (by decide) (by decide)) (m_tell_r w p (by decide) (by decide) (by decide)) h
theorem m_P_of {u w : zs_V} {p : Int} (h5 : u 5 p = w 5 p) (h6 : u 6 p = w 6 p) (h7 : u 7 p = w 7 p) (h10 : u 10 p = w 10 p) (h11 : u 11 p = w 11 p) (h15 : u 15 0 = w 15 0) (h : m_P w p) : m_P u p := by
  unfold m_P
  rw [h5, h6, h7, h10, h11, h15]
  exact h
theorem m_W_of {u w : zs_V} (h5 : u 5 = w 5) (h6 : u 6 = w 6) (h7 : u 7 = w 7) (h10 : u 10 = w 10) (h11 : u 11 = w 11) (h15 : u 15 = w 15) (h : m_W w) : m_W u := fun p a b => by
  rw [h5]
  exact (h p a b).imp id (m_P_of (by rw [h5]) (by rw [h6]) (by rw [h7]) (by rw [h10]) (by rw [h11]) (by rw [h15]))
theorem m_W_tell {w : zs_V} (p : Int) (h : m_W w) : m_W (m_tell w p) := m_W_of (m_tell_r w p (by decide) (by decide) (by decide)) (m_tell_r w p (by decide) (by decide) (by decide)) (m_tell_r w p (by decide) (by decide) (by decide)) (m_tell_r w p (by decide) (by decide) (by decide)) (m_tell_r w p (by decide) (by decide) (by decide)) (m_tell_r w p (by decide) (by decide) (by decide)) h
theorem m_W_none {w : zs_V} (p : Int) (h : m_W w) : m_W (zs_put w 5 p (-99999999)) := fun q a b => by
  rw [zs_put_e]
  by_cases e : q = p
  · left; rw [if_pos e]
  · rw [if_neg e]
    exact (h q a b).imp id (m_P_of (zs_put_k _ _ _ _ e) rfl rfl rfl rfl rfl)
theorem m_stamp_r (w : zs_V) (p : Int) {r : Nat} (h1 : r ≠ 9) (h2 : r ≠ 10) : m_stamp w p r = w r := by
  unfold m_stamp
  rw [zs_put_r _ _ _ _ h2, zs_put_r _ _ _ _ h1]
theorem m_wrA_5 (w : zs_V) (p s k b x q : Int) : (m_wrA w p s k b x) 5 q = if q = p then s else w 5 q := by
  show (zs_put w 5 p s) 5 q = _
  rw [zs_put_e]
theorem m_wr_5 (w : zs_V) (p s k b x q : Int) : (m_wr w p s k b x) 5 q = if q = p then s else w 5 q := by
  show (zs_put w 5 p s) 5 q = _
  rw [zs_put_e]
theorem m_wr_6 (w : zs_V) (p s k b x q : Int) : (m_wr w p s k b x) 6 q = if q = p then k else w 6 q := by
  show (zs_put w 6 p k) 6 q = _
  rw [zs_put_e]
theorem m_wr_7 (w : zs_V) (p s k b x q : Int) : (m_wr w p s k b x) 7 q = if q = p then b else w 7 q := by
  show (zs_put w 7 p b) 7 q = _
  rw [zs_put_e]
theorem m_wr_8 (w : zs_V) (p s k b x q : Int) : (m_wr w p s k b x) 8 q = if q = p then x else w 8 q := by
  show (zs_put w 8 p x) 8 q = _
  rw [zs_put_e]
theorem m_wr_11 (w : zs_V) (p s k b x q : Int) : (m_wr w p s k b x) 11 q = if q = p then w 16 0 + 1 else w 11 q := by
  show (zs_put w 11 p (w 16 0 + 1)) 11 q = _
  rw [zs_put_e]
theorem m_wr_9 (w : zs_V) (p s k b x q : Int) : (m_wr w p s k b x) 9 q = if q = p then w 4 (w 1 s) else w 9 q := by
  show (zs_put w 9 p (w 4 (w 1 ((m_wrA w p s k b x) 5 p)))) 9 q = _
  rw [zs_put_e, m_wrA_5, if_pos rfl]
theorem m_wr_10 (w : zs_V) (p s k b x q : Int) : (m_wr w p s k b x) 10 q = if q = p then w 4 (w 1 s) + w 2 s else w 10 q := by
  show (zs_put w 10 p (w 4 (w 1 ((m_wrA w p s k b x) 5 p)) + w 2 ((m_wrA w p s k b x) 5 p))) 10 q = _
  rw [zs_put_e, m_wrA_5, if_pos rfl]
theorem m_wr_r (w : zs_V) (p s k b x : Int) {r : Nat} (h5 : r ≠ 5) (h6 : r ≠ 6) (h7 : r ≠ 7) (h8 : r ≠ 8) (h9 : r ≠ 9) (h10 : r ≠ 10) (h11 : r ≠ 11) (h16 : r ≠ 16) : m_wr w p s k b x r = w r := by
  unfold m_wr
  rw [m_stamp_r _ _ h9 h10]
  unfold m_wrA
  rw [zs_put_r _ _ _ _ h11, zs_put_r _ _ _ _ h16, zs_put_r _ _ _ _ h8, zs_put_r _ _ _ _ h7, zs_put_r _ _ _ _ h6, zs_put_r _ _ _ _ h5]
theorem m_wr_S {w : zs_V} (p s k b x : Int) (h : x_S w) : x_S (m_wr w p s k b x) := x_S_of rfl rfl rfl rfl rfl rfl h
theorem m_wr_W {w : zs_V} {p s k b : Int} (x : Int) (hS : x_S w) (h : m_W w) (hp : 0 ≤ p ∧ p < 200) (hs : 0 ≤ s ∧ s < w 15 0) (hk : 0 ≤ k ∧ k < 100) (hb : 0 ≤ b ∧ b < 10) (hc : 0 ≤ w 16 0 ∧ w 16 0 < 1000000) : m_W (m_wr w p s k b x) := fun q a c => by
  by_cases e : q = p
  · right
    have hs1 := x_S_at hS hs.1 hs.2
    unfold m_P
    rw [m_wr_5, m_wr_6, m_wr_7, m_wr_10, m_wr_11, if_pos e, if_pos e, if_pos e, if_pos e, if_pos e]
    have e15 : (m_wr w p s k b x) 15 0 = w 15 0 := rfl
    rw [e15]
    omega
  · rw [m_wr_5, if_neg e]
    exact (h q a c).imp id (fun z => m_P_of (w := w) (by rw [m_wr_5, if_neg e]) (by rw [m_wr_6, if_neg e]) (by rw [m_wr_7, if_neg e]) (by rw [m_wr_10, if_neg e]) (by rw [m_wr_11, if_neg e]) rfl z)
abbrev m_F (w : zs_V) (s k m : Int) : Int := m_fd w s k m z_Z
noncomputable def m_putR (w : zs_V) (s k m : Int) : Int := if (((0 ≤ s ∧ s < w 15 0) ∧ 0 ≤ k ∧ k < 100) ∧ ¬ w 0 s = 1 ∧ 0 ≤ m ∧ m < 10) then (if m_F w s k m = -99999999 then (if m_fr w z_Z = -99999999 then -3 else 0) else (if m_sh w (m_F w s k m) then 1 else 0)) else -1
noncomputable def m_putS (w : zs_V) (s k m x : Int) : zs_V := if (((0 ≤ s ∧ s < w 15 0) ∧ 0 ≤ k ∧ k < 100) ∧ ¬ w 0 s = 1 ∧ 0 ≤ m ∧ m < 10) then (if m_F w s k m = -99999999 then (if m_fr w z_Z = -99999999 then w else m_wr w (m_fr w z_Z) s k m x) else m_wr (if m_sh w (m_F w s k m) then w else m_tell w (m_F w s k m)) (m_F w s k m) s k m x) else w
noncomputable def m_getR (w : zs_V) (s k m : Int) : Int := if (((0 ≤ s ∧ s < w 15 0) ∧ 0 ≤ k ∧ k < 100) ∧ ¬ w 0 s = 1 ∧ 0 ≤ m ∧ m < 10) then (if ¬ m_F w s k m = -99999999 ∧ m_sh w (m_F w s k m) then w 8 (m_F w s k m) else -99999999) else -1
noncomputable def m_getS (w : zs_V) (s k m : Int) : zs_V := if (((0 ≤ s ∧ s < w 15 0) ∧ 0 ≤ k ∧ k < 100) ∧ ¬ w 0 s = 1 ∧ 0 ≤ m ∧ m < 10) then (if ¬ m_F w s k m = -99999999 ∧ m_sh w (m_F w s k m) then m_read w (m_F w s k m) else w) else w
noncomputable def m_remR (w : zs_V) (s k m : Int) : Int := if (((0 ≤ s ∧ s < w 15 0) ∧ 0 ≤ k ∧ k < 100) ∧ ¬ w 0 s = 1 ∧ 0 ≤ m ∧ m < 10) then (if m_F w s k m = -99999999 then -2 else (if m_sh w (m_F w s k m) then 1 else 0)) else -1
noncomputable def m_remS (w : zs_V) (s k m : Int) : zs_V := if (((0 ≤ s ∧ s < w 15 0) ∧ 0 ≤ k ∧ k < 100) ∧ ¬ w 0 s = 1 ∧ 0 ≤ m ∧ m < 10) then (if m_F w s k m = -99999999 then w else zs_put w 5 (m_F w s k m) (-99999999)) else w
noncomputable def m_addR (w : zs_V) (s k x : Int) : Int := if (((0 ≤ s ∧ s < w 15 0) ∧ 0 ≤ k ∧ k < 100) ∧ w 0 s = 1) then (if m_fr w z_Z = -99999999 then -3 else m_heldR (m_wr w (m_fr w z_Z) s k 0 x) s k 0) else -1
noncomputable def m_addS (w : zs_V) (s k x : Int) : zs_V := if (((0 ≤ s ∧ s < w 15 0) ∧ 0 ≤ k ∧ k < 100) ∧ w 0 s = 1) then (if m_fr w z_Z = -99999999 then w else m_wr w (m_fr w z_Z) s k 0 x) else w
noncomputable def m_atP (w : zs_V) (s k i : Int) : Int := if 0 ≤ i ∧ i < 200 then m_fo w s k 1 (i + 1).toNat (-1) (-99999999) else -99999999
noncomputable def m_atR (w : zs_V) (s k i : Int) : Int := if (((0 ≤ s ∧ s < w 15 0) ∧ 0 ≤ k ∧ k < 100) ∧ w 0 s = 1) then (if m_atP w s k i = -99999999 then -99999999 else w 8 (m_atP w s k i)) else -1
noncomputable def m_atS (w : zs_V) (s k i : Int) : zs_V := if (((0 ≤ s ∧ s < w 15 0) ∧ 0 ≤ k ∧ k < 100) ∧ w 0 s = 1) then (if m_atP w s k i = -99999999 then w else m_read w (m_atP w s k i)) else w
noncomputable def m_ask (w : zs_V) (s k m o : Int) : Int := if w 0 s = 0 then m_fd w s k m z_Z else if m < 200 then m_fo w s k o (m + 1).toNat (-1) (-99999999) else -99999999
noncomputable def m_leftR (w : zs_V) (s k m : Int) : Int := if (((0 ≤ s ∧ s < w 15 0) ∧ 0 ≤ k ∧ k < 100) ∧ 0 ≤ m ∧ (w 0 s = 1 ∨ m < 10)) then (if ¬ m_ask w s k m 1 = -99999999 ∧ m_sh w (m_ask w s k m 1) then w 10 (m_ask w s k m 1) - m_clk w (m_ask w s k m 1) else -99999999) else -1
noncomputable def m_placeR (w : zs_V) (s k m : Int) : Int := if (((0 ≤ s ∧ s < w 15 0) ∧ 0 ≤ k ∧ k < 100) ∧ 0 ≤ m ∧ (w 0 s = 1 ∨ m < 10)) then m_ask w s k m 0 else -1
theorem m_ask_V {w : zs_V} (hW : m_W w) {s : Int} (k m o : Int) (hs : ¬ s = -99999999) : m_V w (m_ask w s k m o) := by
  unfold m_ask
  split
  · exact m_fd_V hW k m hs
  · split
    · exact m_fo_V hW k o hs _ _ _ (Or.inl rfl)
    · exact Or.inl rfl
set_option maxHeartbeats 4000000 in
set_option maxRecDepth 100000 in
theorem t_X5_put {w : zs_V} (hS : x_S w) (hW : m_W w) (hRM : 0 ≤ w 18 0 ∧ w 18 0 ≤ 150) (s k m x : Int) (hs0 : zn s) (hk : zn k) (hm : zn m) : zs_R mX5_put 0 0 shM (zs_X (m_putR w s k m) (m_putS w s k m x)) w 0 [some (.inr 0), some (.inl (s)), some (.inl (k)), some (.inl (m)), some (.inl (x)), none, none] [] := by
  have hsf : 0 ≤ s → s < w 15 0 → w 0 s = 0 ∨ w 0 s = 1 := fun a b => (x_S_at hS a b).2.1
  refine zs_aload_n dX5_put_0 rfl ?_
  refine zs_iload_n dX5_put_1 rfl ?_
  refine zs_iconst (x := 0) dX5_put_2 (by decide) ?_
  refine zs_eV (As := [.inl (s), .inl (0)]) (rest := []) (q := 0) dX5_put_3 rfl (Nat.le_of_ble_eq_true rfl) rfl rfl YX5_isForm rfl rfl (Nat.le_of_ble_eq_true rfl) gX5_put_X5_isForm (by decide) ⟨Nat.zero_le _, Nat.zero_le _⟩ rfl (t_X5_isForm (w := w) hS (s) (0) (by omega) (by omega)) ?_
  refine zs_ifz_eq (tgt := 29) dX5_put_6 (by decide)  (fun h6 => ?_) (fun h6 => ?_)
  · refine zs_iconst (x := -1) dX5_put_29 (by decide) ?_
    refine zs_iret dX5_put_30 rfl ?_
    have hn : ¬ (((0 ≤ s ∧ s < w 15 0) ∧ 0 ≤ k ∧ k < 100) ∧ ¬ w 0 s = 1 ∧ 0 ≤ m ∧ m < 10) := by omega
    exact ⟨by unfold m_putR; rw [if_neg hn], by unfold m_putS; rw [if_neg hn]⟩
  · refine zs_iload_n dX5_put_9 rfl ?_
    refine zs_iconst (x := 0) dX5_put_10 (by decide) ?_
    refine zs_bipush (x := 99) dX5_put_11 (by decide) ?_
    refine zs_eS (As := [.inl (k), .inl (0), .inl (99)]) (rest := []) dX5_put_13 rfl (Nat.le_of_ble_eq_true rfl) YX5_isIn rfl (Nat.le_of_ble_eq_true rfl) gX5_put_X5_isIn (by decide) ⟨Nat.zero_le _, Nat.zero_le _⟩ rfl (t_X5_isIn (w := w) (k) (0) (99) (by omega) (by omega) (by omega)) ?_
    refine zs_ifz_eq (tgt := 29) dX5_put_16 (by decide)  (fun h16 => ?_) (fun h16 => ?_)
    · refine zs_iconst (x := -1) dX5_put_29 (by decide) ?_
      refine zs_iret dX5_put_30 rfl ?_
      have hn : ¬ (((0 ≤ s ∧ s < w 15 0) ∧ 0 ≤ k ∧ k < 100) ∧ ¬ w 0 s = 1 ∧ 0 ≤ m ∧ m < 10) := by omega
      exact ⟨by unfold m_putR; rw [if_neg hn], by unfold m_putS; rw [if_neg hn]⟩
    · refine zs_iload_n dX5_put_19 rfl ?_
      refine zs_iconst (x := 0) dX5_put_20 (by decide) ?_
      refine zs_bipush (x := 9) dX5_put_21 (by decide) ?_
      refine zs_eS (As := [.inl (m), .inl (0), .inl (9)]) (rest := []) dX5_put_23 rfl (Nat.le_of_ble_eq_true rfl) YX5_isIn rfl (Nat.le_of_ble_eq_true rfl) gX5_put_X5_isIn (by decide) ⟨Nat.zero_le _, Nat.zero_le _⟩ rfl (t_X5_isIn (w := w) (m) (0) (9) (by omega) (by omega) (by omega)) ?_
      refine zs_ifz_ne (tgt := 31) dX5_put_26 (by decide)  (fun h26 => ?_) (fun h26 => ?_)
      · refine zs_aload_n dX5_put_31 rfl ?_
        refine zs_iload_n dX5_put_32 rfl ?_
        refine zs_iload_n dX5_put_33 rfl ?_
        refine zs_iload_n dX5_put_34 rfl ?_
        refine zs_eV (As := [.inl (s), .inl (k), .inl (m)]) (rest := []) (q := 0) dX5_put_35 rfl (Nat.le_of_ble_eq_true rfl) rfl rfl YX5_find rfl rfl (Nat.le_of_ble_eq_true rfl) gX5_put_X5_find (by decide) ⟨Nat.zero_le _, Nat.zero_le _⟩ rfl (t_X5_find (w := w) (s) (k) (m) hS hW (by omega) (by omega) (by omega)) ?_
        have hV := m_fd_V hW k m (s := s) (by omega)
        have hVz := m_V_b hV
        refine zs_istore (lv' := [some (.inr 0), some (.inl (s)), some (.inl (k)), some (.inl (m)), some (.inl (x)), some (.inl (m_fd w (s) (k) (m) z_Z)), none]) dX5_put_38 (by decide) rfl ?_
        refine zs_iload dX5_put_40 rfl ?_
        refine zs_ldc (x := -99999999) dX5_put_42 kX5_put_55 (by decide) ?_
        refine zs_icmp_eq (tgt := 60) dX5_put_44 (by decide) (by omega) (by omega) (fun h44 => ?_) (fun h44 => ?_)
        · refine zs_iconst (x := 0) dX5_put_60 (by decide) ?_
          refine zs_istore (lv' := [some (.inr 0), some (.inl (s)), some (.inl (k)), some (.inl (m)), some (.inl (x)), some (.inl (m_fd w (s) (k) (m) z_Z)), some (.inl (0))]) dX5_put_61 (by decide) rfl ?_
          refine zs_iload dX5_put_63 rfl ?_
          refine zs_ldc (x := -99999999) dX5_put_65 kX5_put_55 (by decide) ?_
          refine zs_icmp_ne (tgt := 86) dX5_put_67 (by decide) (by omega) (by omega) (fun h67 => ?_) (fun h67 => ?_)
          · exact absurd h44 h67
          · refine zs_aload_n dX5_put_70 rfl ?_
            refine zs_eV (As := []) (rest := []) (q := 0) dX5_put_71 rfl (Nat.le_of_ble_eq_true rfl) rfl rfl YX5_free rfl rfl (Nat.le_of_ble_eq_true rfl) gX5_put_X5_free (by decide) ⟨Nat.zero_le _, Nat.zero_le _⟩ rfl (t_X5_free (w := w) hS hW) ?_
            refine zs_istore (lv' := [some (.inr 0), some (.inl (s)), some (.inl (k)), some (.inl (m)), some (.inl (x)), some (.inl (m_fr w z_Z)), some (.inl (0))]) dX5_put_74 (by decide) rfl ?_
            have hfr := m_fr_b w
            refine zs_iload dX5_put_76 rfl ?_
            refine zs_ldc (x := -99999999) dX5_put_78 kX5_put_55 (by decide) ?_
            refine zs_icmp_ne (tgt := 97) dX5_put_80 (by decide) (by omega) (by omega) (fun h80 => ?_) (fun h80 => ?_)
            · have hfr := m_fr_b w
              refine zs_aload_n dX5_put_97 rfl ?_
              refine zs_iload dX5_put_98 rfl ?_
              refine zs_iload_n dX5_put_100 rfl ?_
              refine zs_iload_n dX5_put_101 rfl ?_
              refine zs_iload_n dX5_put_102 rfl ?_
              refine zs_iload dX5_put_103 rfl ?_
              refine zs_eVv (As := [.inl (m_fr w z_Z), .inl (s), .inl (k), .inl (m), .inl (x)]) (rest := []) (q := 0) dX5_put_105 rfl (Nat.le_of_ble_eq_true rfl) rfl rfl YX5_writes rfl rfl (Nat.le_of_ble_eq_true rfl) gX5_put_X5_writes (by decide) ⟨Nat.zero_le _, Nat.zero_le _⟩ rfl (t_X5_writes (w := w) (m_fr w z_Z) (s) (k) (m) (x) (by omega) hS (by omega)) ?_
              refine zs_iload dX5_put_108 rfl ?_
              refine zs_if_eq (tgt := 117) dX5_put_110 (by decide) (by omega) (fun h110 => ?_) (fun h110 => absurd h110 (by decide))
              refine zs_iconst (x := 0) dX5_put_117 (by decide) ?_
              refine zs_iret dX5_put_118 rfl ?_
              have hn : (((0 ≤ s ∧ s < w 15 0) ∧ 0 ≤ k ∧ k < 100) ∧ ¬ w 0 s = 1 ∧ 0 ≤ m ∧ m < 10) := by omega
              exact ⟨by unfold m_putR; rw [if_pos hn, if_pos h44, if_neg h80], by unfold m_putS; rw [if_pos hn, if_pos h44, if_neg h80]⟩
            · refine zs_bipush (x := -3) dX5_put_83 (by decide) ?_
              refine zs_iret dX5_put_85 rfl ?_
              have hn : (((0 ≤ s ∧ s < w 15 0) ∧ 0 ≤ k ∧ k < 100) ∧ ¬ w 0 s = 1 ∧ 0 ≤ m ∧ m < 10) := by omega
              exact ⟨by unfold m_putR; rw [if_pos hn, if_pos h44, if_pos h80], by unfold m_putS; rw [if_pos hn, if_pos h44, if_pos h80]⟩
        · have hV1 := hV.resolve_left h44
          have hv1 := hV1.1
          have hv2 := hV1.2.1
          have hP := hV1.2.2
          have hs := hP.1
          refine zs_aload_n dX5_put_47 rfl ?_
          refine zs_iload dX5_put_48 rfl ?_
          refine zs_eV (As := [.inl (m_fd w (s) (k) (m) z_Z)]) (rest := []) (q := 0) dX5_put_50 rfl (Nat.le_of_ble_eq_true rfl) rfl rfl YX5_isShown rfl rfl (Nat.le_of_ble_eq_true rfl) gX5_put_X5_isShown (by decide) ⟨Nat.zero_le _, Nat.zero_le _⟩ rfl (t_X5_isShown (w := w) (m_fd w (s) (k) (m) z_Z) (by omega) hS hW) ?_
          refine zs_ifz_eq (tgt := 60) dX5_put_53 (by decide)  (fun h53 => ?_) (fun h53 => ?_)
          · refine zs_iconst (x := 0) dX5_put_60 (by decide) ?_
            refine zs_istore (lv' := [some (.inr 0), some (.inl (s)), some (.inl (k)), some (.inl (m)), some (.inl (x)), some (.inl (m_fd w (s) (k) (m) z_Z)), some (.inl (0))]) dX5_put_61 (by decide) rfl ?_
            refine zs_iload dX5_put_63 rfl ?_
            refine zs_ldc (x := -99999999) dX5_put_65 kX5_put_55 (by decide) ?_
            refine zs_icmp_ne (tgt := 86) dX5_put_67 (by decide) (by omega) (by omega) (fun h67 => ?_) (fun h67 => ?_)
            · refine zs_iload dX5_put_86 rfl ?_
              refine zs_if_ne (tgt := 97) dX5_put_88 (by decide) (by omega) (fun h88 => absurd h88 (by decide)) (fun h88 => ?_)
              refine zs_aload_n dX5_put_91 rfl ?_
              refine zs_iload dX5_put_92 rfl ?_
              refine zs_eVv (As := [.inl (m_fd w (s) (k) (m) z_Z)]) (rest := []) (q := 0) dX5_put_94 rfl (Nat.le_of_ble_eq_true rfl) rfl rfl YX5_tells rfl rfl (Nat.le_of_ble_eq_true rfl) gX5_put_X5_tells (by decide) ⟨Nat.zero_le _, Nat.zero_le _⟩ rfl (t_X5_tells (w := w) (m_fd w (s) (k) (m) z_Z) (by omega) hRM) ?_
              have hS := m_tell_S (m_fd w s k m z_Z) hS
              have e15 : (m_tell w (m_fd w s k m z_Z)) 15 0 = w 15 0 := by rw [m_tell_r w _ (by decide) (by decide) (by decide)]
              refine zs_aload_n dX5_put_97 rfl ?_
              refine zs_iload dX5_put_98 rfl ?_
              refine zs_iload_n dX5_put_100 rfl ?_
              refine zs_iload_n dX5_put_101 rfl ?_
              refine zs_iload_n dX5_put_102 rfl ?_
              refine zs_iload dX5_put_103 rfl ?_
              refine zs_eVv (As := [.inl (m_fd w (s) (k) (m) z_Z), .inl (s), .inl (k), .inl (m), .inl (x)]) (rest := []) (q := 0) dX5_put_105 rfl (Nat.le_of_ble_eq_true rfl) rfl rfl YX5_writes rfl rfl (Nat.le_of_ble_eq_true rfl) gX5_put_X5_writes (by decide) ⟨Nat.zero_le _, Nat.zero_le _⟩ rfl (t_X5_writes (w := (m_tell w (m_fd w (s) (k) (m) z_Z))) (m_fd w (s) (k) (m) z_Z) (s) (k) (m) (x) (by omega) hS (by omega)) ?_
              refine zs_iload dX5_put_108 rfl ?_
              refine zs_if_eq (tgt := 117) dX5_put_110 (by decide) (by omega) (fun h110 => ?_) (fun h110 => absurd h110 (by decide))
              refine zs_iconst (x := 0) dX5_put_117 (by decide) ?_
              refine zs_iret dX5_put_118 rfl ?_
              have hn : (((0 ≤ s ∧ s < w 15 0) ∧ 0 ≤ k ∧ k < 100) ∧ ¬ w 0 s = 1 ∧ 0 ≤ m ∧ m < 10) := by omega
              exact ⟨by unfold m_putR; rw [if_pos hn, if_neg h44, if_neg h53], by unfold m_putS; rw [if_pos hn, if_neg h44, if_neg h53]⟩
            · exact absurd h67 h44
          · refine zs_iconst (x := 1) dX5_put_56 (by decide) ?_
            refine zs_goto (tgt := 61) dX5_put_57 (by decide) ?_
            refine zs_istore (lv' := [some (.inr 0), some (.inl (s)), some (.inl (k)), some (.inl (m)), some (.inl (x)), some (.inl (m_fd w (s) (k) (m) z_Z)), some (.inl (1))]) dX5_put_61 (by decide) rfl ?_
            refine zs_iload dX5_put_63 rfl ?_
            refine zs_ldc (x := -99999999) dX5_put_65 kX5_put_55 (by decide) ?_
            refine zs_icmp_ne (tgt := 86) dX5_put_67 (by decide) (by omega) (by omega) (fun h67 => ?_) (fun h67 => ?_)
            · refine zs_iload dX5_put_86 rfl ?_
              refine zs_if_ne (tgt := 97) dX5_put_88 (by decide) (by omega) (fun h88 => ?_) (fun h88 => absurd h88 (by decide))
              refine zs_aload_n dX5_put_97 rfl ?_
              refine zs_iload dX5_put_98 rfl ?_
              refine zs_iload_n dX5_put_100 rfl ?_
              refine zs_iload_n dX5_put_101 rfl ?_
              refine zs_iload_n dX5_put_102 rfl ?_
              refine zs_iload dX5_put_103 rfl ?_
              refine zs_eVv (As := [.inl (m_fd w (s) (k) (m) z_Z), .inl (s), .inl (k), .inl (m), .inl (x)]) (rest := []) (q := 0) dX5_put_105 rfl (Nat.le_of_ble_eq_true rfl) rfl rfl YX5_writes rfl rfl (Nat.le_of_ble_eq_true rfl) gX5_put_X5_writes (by decide) ⟨Nat.zero_le _, Nat.zero_le _⟩ rfl (t_X5_writes (w := w) (m_fd w (s) (k) (m) z_Z) (s) (k) (m) (x) (by omega) hS (by omega)) ?_
              refine zs_iload dX5_put_108 rfl ?_
              refine zs_if_eq (tgt := 117) dX5_put_110 (by decide) (by omega) (fun h110 => absurd h110 (by decide)) (fun h110 => ?_)
              refine zs_iconst (x := 1) dX5_put_113 (by decide) ?_
              refine zs_goto (tgt := 118) dX5_put_114 (by decide) ?_
              refine zs_iret dX5_put_118 rfl ?_
              have hn : (((0 ≤ s ∧ s < w 15 0) ∧ 0 ≤ k ∧ k < 100) ∧ ¬ w 0 s = 1 ∧ 0 ≤ m ∧ m < 10) := by omega
              exact ⟨by unfold m_putR; rw [if_pos hn, if_neg h44, if_pos h53], by unfold m_putS; rw [if_pos hn, if_neg h44, if_pos h53]⟩
            · exact absurd h67 h44
      · refine zs_iconst (x := -1) dX5_put_29 (by decide) ?_
        refine zs_iret dX5_put_30 rfl ?_
        have hn : ¬ (((0 ≤ s ∧ s < w 15 0) ∧ 0 ≤ k ∧ k < 100) ∧ ¬ w 0 s = 1 ∧ 0 ≤ m ∧ m < 10) := by omega
        exact ⟨by unfold m_putR; rw [if_neg hn], by unfold m_putS; rw [if_neg hn]⟩
set_option maxHeartbeats 4000000 in
set_option maxRecDepth 100000 in
theorem t_X5_get {w : zs_V} (hS : x_S w) (hW : m_W w) (s k m : Int) (hs0 : zn s) (hk : zn k) (hm : zn m) : zs_R mX5_get 0 0 shM (zs_X (m_getR w s k m) (m_getS w s k m)) w 0 [some (.inr 0), some (.inl (s)), some (.inl (k)), some (.inl (m)), none] [] := by
  have hsf : 0 ≤ s → s < w 15 0 → w 0 s = 0 ∨ w 0 s = 1 := fun a b => (x_S_at hS a b).2.1
  refine zs_aload_n dX5_get_0 rfl ?_
  refine zs_iload_n dX5_get_1 rfl ?_
  refine zs_iconst (x := 0) dX5_get_2 (by decide) ?_
  refine zs_eV (As := [.inl (s), .inl (0)]) (rest := []) (q := 0) dX5_get_3 rfl (Nat.le_of_ble_eq_true rfl) rfl rfl YX5_isForm rfl rfl (Nat.le_of_ble_eq_true rfl) gX5_get_X5_isForm (by decide) ⟨Nat.zero_le _, Nat.zero_le _⟩ rfl (t_X5_isForm (w := w) hS (s) (0) (by omega) (by omega)) ?_
  refine zs_ifz_eq (tgt := 29) dX5_get_6 (by decide)  (fun h6 => ?_) (fun h6 => ?_)
  · refine zs_iconst (x := -1) dX5_get_29 (by decide) ?_
    refine zs_iret dX5_get_30 rfl ?_
    have hn : ¬ (((0 ≤ s ∧ s < w 15 0) ∧ 0 ≤ k ∧ k < 100) ∧ ¬ w 0 s = 1 ∧ 0 ≤ m ∧ m < 10) := by omega
    exact ⟨by unfold m_getR; rw [if_neg hn], by unfold m_getS; rw [if_neg hn]⟩
  · refine zs_iload_n dX5_get_9 rfl ?_
    refine zs_iconst (x := 0) dX5_get_10 (by decide) ?_
    refine zs_bipush (x := 99) dX5_get_11 (by decide) ?_
    refine zs_eS (As := [.inl (k), .inl (0), .inl (99)]) (rest := []) dX5_get_13 rfl (Nat.le_of_ble_eq_true rfl) YX5_isIn rfl (Nat.le_of_ble_eq_true rfl) gX5_get_X5_isIn (by decide) ⟨Nat.zero_le _, Nat.zero_le _⟩ rfl (t_X5_isIn (w := w) (k) (0) (99) (by omega) (by omega) (by omega)) ?_
    refine zs_ifz_eq (tgt := 29) dX5_get_16 (by decide)  (fun h16 => ?_) (fun h16 => ?_)
    · refine zs_iconst (x := -1) dX5_get_29 (by decide) ?_
      refine zs_iret dX5_get_30 rfl ?_
      have hn : ¬ (((0 ≤ s ∧ s < w 15 0) ∧ 0 ≤ k ∧ k < 100) ∧ ¬ w 0 s = 1 ∧ 0 ≤ m ∧ m < 10) := by omega
      exact ⟨by unfold m_getR; rw [if_neg hn], by unfold m_getS; rw [if_neg hn]⟩
    · refine zs_iload_n dX5_get_19 rfl ?_
      refine zs_iconst (x := 0) dX5_get_20 (by decide) ?_
      refine zs_bipush (x := 9) dX5_get_21 (by decide) ?_
      refine zs_eS (As := [.inl (m), .inl (0), .inl (9)]) (rest := []) dX5_get_23 rfl (Nat.le_of_ble_eq_true rfl) YX5_isIn rfl (Nat.le_of_ble_eq_true rfl) gX5_get_X5_isIn (by decide) ⟨Nat.zero_le _, Nat.zero_le _⟩ rfl (t_X5_isIn (w := w) (m) (0) (9) (by omega) (by omega) (by omega)) ?_
      refine zs_ifz_ne (tgt := 31) dX5_get_26 (by decide)  (fun h26 => ?_) (fun h26 => ?_)
      · refine zs_aload_n dX5_get_31 rfl ?_
        refine zs_iload_n dX5_get_32 rfl ?_
        refine zs_iload_n dX5_get_33 rfl ?_
        refine zs_iload_n dX5_get_34 rfl ?_
        refine zs_eV (As := [.inl (s), .inl (k), .inl (m)]) (rest := []) (q := 0) dX5_get_35 rfl (Nat.le_of_ble_eq_true rfl) rfl rfl YX5_find rfl rfl (Nat.le_of_ble_eq_true rfl) gX5_get_X5_find (by decide) ⟨Nat.zero_le _, Nat.zero_le _⟩ rfl (t_X5_find (w := w) (s) (k) (m) hS hW (by omega) (by omega) (by omega)) ?_
        have hV := m_fd_V hW k m (s := s) (by omega)
        have hVz := m_V_b hV
        refine zs_istore (lv' := [some (.inr 0), some (.inl (s)), some (.inl (k)), some (.inl (m)), some (.inl (m_fd w (s) (k) (m) z_Z))]) dX5_get_38 (by decide) rfl ?_
        refine zs_iload dX5_get_40 rfl ?_
        refine zs_ldc (x := -99999999) dX5_get_42 kX5_get_55 (by decide) ?_
        refine zs_icmp_eq (tgt := 65) dX5_get_44 (by decide) (by omega) (by omega) (fun h44 => ?_) (fun h44 => ?_)
        · refine zs_ldc (x := -99999999) dX5_get_65 kX5_get_55 (by decide) ?_
          refine zs_iret dX5_get_67 rfl ?_
          have hn : (((0 ≤ s ∧ s < w 15 0) ∧ 0 ≤ k ∧ k < 100) ∧ ¬ w 0 s = 1 ∧ 0 ≤ m ∧ m < 10) := by omega
          exact ⟨by unfold m_getR; rw [if_pos hn, if_neg (fun z => z.1 h44)], by unfold m_getS; rw [if_pos hn, if_neg (fun z => z.1 h44)]⟩
        · have hV1 := hV.resolve_left h44
          have hv1 := hV1.1
          have hv2 := hV1.2.1
          have hP := hV1.2.2
          have hs := hP.1
          refine zs_aload_n dX5_get_47 rfl ?_
          refine zs_iload dX5_get_48 rfl ?_
          refine zs_eV (As := [.inl (m_fd w (s) (k) (m) z_Z)]) (rest := []) (q := 0) dX5_get_50 rfl (Nat.le_of_ble_eq_true rfl) rfl rfl YX5_isShown rfl rfl (Nat.le_of_ble_eq_true rfl) gX5_get_X5_isShown (by decide) ⟨Nat.zero_le _, Nat.zero_le _⟩ rfl (t_X5_isShown (w := w) (m_fd w (s) (k) (m) z_Z) (by omega) hS hW) ?_
          refine zs_ifz_eq (tgt := 65) dX5_get_53 (by decide)  (fun h53 => ?_) (fun h53 => ?_)
          · refine zs_ldc (x := -99999999) dX5_get_65 kX5_get_55 (by decide) ?_
            refine zs_iret dX5_get_67 rfl ?_
            have hn : (((0 ≤ s ∧ s < w 15 0) ∧ 0 ≤ k ∧ k < 100) ∧ ¬ w 0 s = 1 ∧ 0 ≤ m ∧ m < 10) := by omega
            exact ⟨by unfold m_getR; rw [if_pos hn, if_neg (fun z => h53 z.2)], by unfold m_getS; rw [if_pos hn, if_neg (fun z => h53 z.2)]⟩
          · refine zs_aload_n dX5_get_56 rfl ?_
            refine zs_iload dX5_get_57 rfl ?_
            refine zs_eV (As := [.inl (m_fd w (s) (k) (m) z_Z)]) (rest := []) (q := 0) dX5_get_59 rfl (Nat.le_of_ble_eq_true rfl) rfl rfl YX5_read rfl rfl (Nat.le_of_ble_eq_true rfl) gX5_get_X5_read (by decide) ⟨Nat.zero_le _, Nat.zero_le _⟩ rfl (t_X5_read (w := w) (m_fd w (s) (k) (m) z_Z) (by omega) hS hs) ?_
            refine zs_goto (tgt := 67) dX5_get_62 (by decide) ?_
            refine zs_iret dX5_get_67 rfl ?_
            have hn : (((0 ≤ s ∧ s < w 15 0) ∧ 0 ≤ k ∧ k < 100) ∧ ¬ w 0 s = 1 ∧ 0 ≤ m ∧ m < 10) := by omega
            exact ⟨by unfold m_getR; rw [if_pos hn, if_pos ⟨h44, h53⟩], by unfold m_getS; rw [if_pos hn, if_pos ⟨h44, h53⟩]⟩
      · refine zs_iconst (x := -1) dX5_get_29 (by decide) ?_
        refine zs_iret dX5_get_30 rfl ?_
        have hn : ¬ (((0 ≤ s ∧ s < w 15 0) ∧ 0 ≤ k ∧ k < 100) ∧ ¬ w 0 s = 1 ∧ 0 ≤ m ∧ m < 10) := by omega
        exact ⟨by unfold m_getR; rw [if_neg hn], by unfold m_getS; rw [if_neg hn]⟩
set_option maxHeartbeats 4000000 in
set_option maxRecDepth 100000 in
theorem t_X5_remove {w : zs_V} (hS : x_S w) (hW : m_W w) (s k m : Int) (hs0 : zn s) (hk : zn k) (hm : zn m) : zs_R mX5_remove 0 0 shM (zs_X (m_remR w s k m) (m_remS w s k m)) w 0 [some (.inr 0), some (.inl (s)), some (.inl (k)), some (.inl (m)), none, none] [] := by
  have hsf : 0 ≤ s → s < w 15 0 → w 0 s = 0 ∨ w 0 s = 1 := fun a b => (x_S_at hS a b).2.1
  refine zs_aload_n dX5_remove_0 rfl ?_
  refine zs_iload_n dX5_remove_1 rfl ?_
  refine zs_iconst (x := 0) dX5_remove_2 (by decide) ?_
  refine zs_eV (As := [.inl (s), .inl (0)]) (rest := []) (q := 0) dX5_remove_3 rfl (Nat.le_of_ble_eq_true rfl) rfl rfl YX5_isForm rfl rfl (Nat.le_of_ble_eq_true rfl) gX5_remove_X5_isForm (by decide) ⟨Nat.zero_le _, Nat.zero_le _⟩ rfl (t_X5_isForm (w := w) hS (s) (0) (by omega) (by omega)) ?_
  refine zs_ifz_eq (tgt := 29) dX5_remove_6 (by decide)  (fun h6 => ?_) (fun h6 => ?_)
  · refine zs_iconst (x := -1) dX5_remove_29 (by decide) ?_
    refine zs_iret dX5_remove_30 rfl ?_
    have hn : ¬ (((0 ≤ s ∧ s < w 15 0) ∧ 0 ≤ k ∧ k < 100) ∧ ¬ w 0 s = 1 ∧ 0 ≤ m ∧ m < 10) := by omega
    exact ⟨by unfold m_remR; rw [if_neg hn], by unfold m_remS; rw [if_neg hn]⟩
  · refine zs_iload_n dX5_remove_9 rfl ?_
    refine zs_iconst (x := 0) dX5_remove_10 (by decide) ?_
    refine zs_bipush (x := 99) dX5_remove_11 (by decide) ?_
    refine zs_eS (As := [.inl (k), .inl (0), .inl (99)]) (rest := []) dX5_remove_13 rfl (Nat.le_of_ble_eq_true rfl) YX5_isIn rfl (Nat.le_of_ble_eq_true rfl) gX5_remove_X5_isIn (by decide) ⟨Nat.zero_le _, Nat.zero_le _⟩ rfl (t_X5_isIn (w := w) (k) (0) (99) (by omega) (by omega) (by omega)) ?_
    refine zs_ifz_eq (tgt := 29) dX5_remove_16 (by decide)  (fun h16 => ?_) (fun h16 => ?_)
    · refine zs_iconst (x := -1) dX5_remove_29 (by decide) ?_
      refine zs_iret dX5_remove_30 rfl ?_
      have hn : ¬ (((0 ≤ s ∧ s < w 15 0) ∧ 0 ≤ k ∧ k < 100) ∧ ¬ w 0 s = 1 ∧ 0 ≤ m ∧ m < 10) := by omega
      exact ⟨by unfold m_remR; rw [if_neg hn], by unfold m_remS; rw [if_neg hn]⟩
    · refine zs_iload_n dX5_remove_19 rfl ?_
      refine zs_iconst (x := 0) dX5_remove_20 (by decide) ?_
      refine zs_bipush (x := 9) dX5_remove_21 (by decide) ?_
      refine zs_eS (As := [.inl (m), .inl (0), .inl (9)]) (rest := []) dX5_remove_23 rfl (Nat.le_of_ble_eq_true rfl) YX5_isIn rfl (Nat.le_of_ble_eq_true rfl) gX5_remove_X5_isIn (by decide) ⟨Nat.zero_le _, Nat.zero_le _⟩ rfl (t_X5_isIn (w := w) (m) (0) (9) (by omega) (by omega) (by omega)) ?_
      refine zs_ifz_ne (tgt := 31) dX5_remove_26 (by decide)  (fun h26 => ?_) (fun h26 => ?_)
      · refine zs_aload_n dX5_remove_31 rfl ?_
        refine zs_iload_n dX5_remove_32 rfl ?_
        refine zs_iload_n dX5_remove_33 rfl ?_
        refine zs_iload_n dX5_remove_34 rfl ?_
        refine zs_eV (As := [.inl (s), .inl (k), .inl (m)]) (rest := []) (q := 0) dX5_remove_35 rfl (Nat.le_of_ble_eq_true rfl) rfl rfl YX5_find rfl rfl (Nat.le_of_ble_eq_true rfl) gX5_remove_X5_find (by decide) ⟨Nat.zero_le _, Nat.zero_le _⟩ rfl (t_X5_find (w := w) (s) (k) (m) hS hW (by omega) (by omega) (by omega)) ?_
        have hV := m_fd_V hW k m (s := s) (by omega)
        have hVz := m_V_b hV
        refine zs_istore (lv' := [some (.inr 0), some (.inl (s)), some (.inl (k)), some (.inl (m)), some (.inl (m_fd w (s) (k) (m) z_Z)), none]) dX5_remove_38 (by decide) rfl ?_
        refine zs_iload dX5_remove_40 rfl ?_
        refine zs_ldc (x := -99999999) dX5_remove_42 kX5_remove_55 (by decide) ?_
        refine zs_icmp_ne (tgt := 50) dX5_remove_44 (by decide) (by omega) (by omega) (fun h44 => ?_) (fun h44 => ?_)
        · have hV1 := hV.resolve_left h44
          have hv1 := hV1.1
          have hv2 := hV1.2.1
          have hP := hV1.2.2
          have hs := hP.1
          refine zs_aload_n dX5_remove_50 rfl ?_
          refine zs_iload dX5_remove_51 rfl ?_
          refine zs_eV (As := [.inl (m_fd w (s) (k) (m) z_Z)]) (rest := []) (q := 0) dX5_remove_53 rfl (Nat.le_of_ble_eq_true rfl) rfl rfl YX5_isShown rfl rfl (Nat.le_of_ble_eq_true rfl) gX5_remove_X5_isShown (by decide) ⟨Nat.zero_le _, Nat.zero_le _⟩ rfl (t_X5_isShown (w := w) (m_fd w (s) (k) (m) z_Z) (by omega) hS hW) ?_
          refine zs_ifz_eq (tgt := 63) dX5_remove_56 (by decide)  (fun h56 => ?_) (fun h56 => ?_)
          · refine zs_iconst (x := 0) dX5_remove_63 (by decide) ?_
            refine zs_istore (lv' := [some (.inr 0), some (.inl (s)), some (.inl (k)), some (.inl (m)), some (.inl (m_fd w (s) (k) (m) z_Z)), some (.inl (0))]) dX5_remove_64 (by decide) rfl ?_
            refine zs_aload_n dX5_remove_66 rfl ?_
            refine zs_getr (j := 6) dX5_remove_67 rfl rfl rfl (by decide) nX5_remove_X5 fX5_remove_25 ?_
            refine zs_iload dX5_remove_70 rfl ?_
            refine zs_ldc (x := -99999999) dX5_remove_72 kX5_remove_55 (by decide) ?_
            refine zs_iastore dX5_remove_74 rfl (by decide) (by decide) (by omega) (by omega) ?_
            refine zs_iload dX5_remove_75 rfl ?_
            refine zs_iret dX5_remove_77 rfl ?_
            have hn : (((0 ≤ s ∧ s < w 15 0) ∧ 0 ≤ k ∧ k < 100) ∧ ¬ w 0 s = 1 ∧ 0 ≤ m ∧ m < 10) := by omega
            exact ⟨by unfold m_remR; rw [if_pos hn, if_neg h44, if_neg h56], by unfold m_remS; rw [if_pos hn, if_neg h44]⟩
          · refine zs_iconst (x := 1) dX5_remove_59 (by decide) ?_
            refine zs_goto (tgt := 64) dX5_remove_60 (by decide) ?_
            refine zs_istore (lv' := [some (.inr 0), some (.inl (s)), some (.inl (k)), some (.inl (m)), some (.inl (m_fd w (s) (k) (m) z_Z)), some (.inl (1))]) dX5_remove_64 (by decide) rfl ?_
            refine zs_aload_n dX5_remove_66 rfl ?_
            refine zs_getr (j := 6) dX5_remove_67 rfl rfl rfl (by decide) nX5_remove_X5 fX5_remove_25 ?_
            refine zs_iload dX5_remove_70 rfl ?_
            refine zs_ldc (x := -99999999) dX5_remove_72 kX5_remove_55 (by decide) ?_
            refine zs_iastore dX5_remove_74 rfl (by decide) (by decide) (by omega) (by omega) ?_
            refine zs_iload dX5_remove_75 rfl ?_
            refine zs_iret dX5_remove_77 rfl ?_
            have hn : (((0 ≤ s ∧ s < w 15 0) ∧ 0 ≤ k ∧ k < 100) ∧ ¬ w 0 s = 1 ∧ 0 ≤ m ∧ m < 10) := by omega
            exact ⟨by unfold m_remR; rw [if_pos hn, if_neg h44, if_pos h56], by unfold m_remS; rw [if_pos hn, if_neg h44]⟩
        · refine zs_bipush (x := -2) dX5_remove_47 (by decide) ?_
          refine zs_iret dX5_remove_49 rfl ?_
          have hn : (((0 ≤ s ∧ s < w 15 0) ∧ 0 ≤ k ∧ k < 100) ∧ ¬ w 0 s = 1 ∧ 0 ≤ m ∧ m < 10) := by omega
          exact ⟨by unfold m_remR; rw [if_pos hn, if_pos h44], by unfold m_remS; rw [if_pos hn, if_pos h44]⟩
      · refine zs_iconst (x := -1) dX5_remove_29 (by decide) ?_
        refine zs_iret dX5_remove_30 rfl ?_
        have hn : ¬ (((0 ≤ s ∧ s < w 15 0) ∧ 0 ≤ k ∧ k < 100) ∧ ¬ w 0 s = 1 ∧ 0 ≤ m ∧ m < 10) := by omega
        exact ⟨by unfold m_remR; rw [if_neg hn], by unfold m_remS; rw [if_neg hn]⟩
set_option maxHeartbeats 4000000 in
set_option maxRecDepth 100000 in
theorem t_X5_add {w : zs_V} (hS : x_S w) (hW : m_W w) (hc : 0 ≤ w 16 0 ∧ w 16 0 < 1000000) (s k x : Int) (hs0 : zn s) (hk : zn k) : zs_R mX5_add 0 0 shM (zs_X (m_addR w s k x) (m_addS w s k x)) w 0 [some (.inr 0), some (.inl (s)), some (.inl (k)), some (.inl (x)), none] [] := by
  have hsf : 0 ≤ s → s < w 15 0 → w 0 s = 0 ∨ w 0 s = 1 := fun a b => (x_S_at hS a b).2.1
  refine zs_aload_n dX5_add_0 rfl ?_
  refine zs_iload_n dX5_add_1 rfl ?_
  refine zs_iconst (x := 1) dX5_add_2 (by decide) ?_
  refine zs_eV (As := [.inl (s), .inl (1)]) (rest := []) (q := 0) dX5_add_3 rfl (Nat.le_of_ble_eq_true rfl) rfl rfl YX5_isForm rfl rfl (Nat.le_of_ble_eq_true rfl) gX5_add_X5_isForm (by decide) ⟨Nat.zero_le _, Nat.zero_le _⟩ rfl (t_X5_isForm (w := w) hS (s) (1) (by omega) (by omega)) ?_
  refine zs_ifz_eq (tgt := 19) dX5_add_6 (by decide)  (fun h6 => ?_) (fun h6 => ?_)
  · refine zs_iconst (x := -1) dX5_add_19 (by decide) ?_
    refine zs_iret dX5_add_20 rfl ?_
    have hn : ¬ (((0 ≤ s ∧ s < w 15 0) ∧ 0 ≤ k ∧ k < 100) ∧ w 0 s = 1) := by omega
    exact ⟨by unfold m_addR; rw [if_neg hn], by unfold m_addS; rw [if_neg hn]⟩
  · refine zs_iload_n dX5_add_9 rfl ?_
    refine zs_iconst (x := 0) dX5_add_10 (by decide) ?_
    refine zs_bipush (x := 99) dX5_add_11 (by decide) ?_
    refine zs_eS (As := [.inl (k), .inl (0), .inl (99)]) (rest := []) dX5_add_13 rfl (Nat.le_of_ble_eq_true rfl) YX5_isIn rfl (Nat.le_of_ble_eq_true rfl) gX5_add_X5_isIn (by decide) ⟨Nat.zero_le _, Nat.zero_le _⟩ rfl (t_X5_isIn (w := w) (k) (0) (99) (by omega) (by omega) (by omega)) ?_
    refine zs_ifz_ne (tgt := 21) dX5_add_16 (by decide)  (fun h16 => ?_) (fun h16 => ?_)
    · refine zs_aload_n dX5_add_21 rfl ?_
      refine zs_eV (As := []) (rest := []) (q := 0) dX5_add_22 rfl (Nat.le_of_ble_eq_true rfl) rfl rfl YX5_free rfl rfl (Nat.le_of_ble_eq_true rfl) gX5_add_X5_free (by decide) ⟨Nat.zero_le _, Nat.zero_le _⟩ rfl (t_X5_free (w := w) hS hW) ?_
      have hfr := m_fr_b w
      refine zs_istore (lv' := [some (.inr 0), some (.inl (s)), some (.inl (k)), some (.inl (x)), some (.inl (m_fr w z_Z))]) dX5_add_25 (by decide) rfl ?_
      refine zs_iload dX5_add_27 rfl ?_
      refine zs_ldc (x := -99999999) dX5_add_29 kX5_add_55 (by decide) ?_
      refine zs_icmp_ne (tgt := 37) dX5_add_31 (by decide) (by omega) (by omega) (fun h31 => ?_) (fun h31 => ?_)
      · refine zs_aload_n dX5_add_37 rfl ?_
        refine zs_iload dX5_add_38 rfl ?_
        refine zs_iload_n dX5_add_40 rfl ?_
        refine zs_iload_n dX5_add_41 rfl ?_
        refine zs_iconst (x := 0) dX5_add_42 (by decide) ?_
        refine zs_iload_n dX5_add_43 rfl ?_
        refine zs_eVv (As := [.inl (m_fr w z_Z), .inl (s), .inl (k), .inl (0), .inl (x)]) (rest := []) (q := 0) dX5_add_44 rfl (Nat.le_of_ble_eq_true rfl) rfl rfl YX5_writes rfl rfl (Nat.le_of_ble_eq_true rfl) gX5_add_X5_writes (by decide) ⟨Nat.zero_le _, Nat.zero_le _⟩ rfl (t_X5_writes (w := w) (m_fr w z_Z) (s) (k) (0) (x) (by omega) hS (by omega)) ?_
        have hW := m_wr_W (p := m_fr w z_Z) (s := s) (k := k) (b := 0) x hS hW (by omega) (by omega) (by omega) (by omega) hc
        have hS := m_wr_S (m_fr w z_Z) s k 0 x hS
        refine zs_aload_n dX5_add_47 rfl ?_
        refine zs_iload_n dX5_add_48 rfl ?_
        refine zs_iload_n dX5_add_49 rfl ?_
        refine zs_iconst (x := 0) dX5_add_50 (by decide) ?_
        refine zs_eV (As := [.inl (s), .inl (k), .inl (0)]) (rest := []) (q := 0) dX5_add_51 rfl (Nat.le_of_ble_eq_true rfl) rfl rfl YX5_held rfl rfl (Nat.le_of_ble_eq_true rfl) gX5_add_X5_held (by decide) ⟨Nat.zero_le _, Nat.zero_le _⟩ rfl (t_X5_held (w := (m_wr w (m_fr w z_Z) (s) (k) (0) (x))) hS hW (s) (k) (0) (by omega) (by omega) (by omega)) ?_
        refine zs_iret dX5_add_54 rfl ?_
        have hn : (((0 ≤ s ∧ s < w 15 0) ∧ 0 ≤ k ∧ k < 100) ∧ w 0 s = 1) := by omega
        exact ⟨by unfold m_addR; rw [if_pos hn, if_neg h31], by unfold m_addS; rw [if_pos hn, if_neg h31]⟩
      · refine zs_bipush (x := -3) dX5_add_34 (by decide) ?_
        refine zs_iret dX5_add_36 rfl ?_
        have hn : (((0 ≤ s ∧ s < w 15 0) ∧ 0 ≤ k ∧ k < 100) ∧ w 0 s = 1) := by omega
        exact ⟨by unfold m_addR; rw [if_pos hn, if_pos h31], by unfold m_addS; rw [if_pos hn, if_pos h31]⟩
    · refine zs_iconst (x := -1) dX5_add_19 (by decide) ?_
      refine zs_iret dX5_add_20 rfl ?_
      have hn : ¬ (((0 ≤ s ∧ s < w 15 0) ∧ 0 ≤ k ∧ k < 100) ∧ w 0 s = 1) := by omega
      exact ⟨by unfold m_addR; rw [if_neg hn], by unfold m_addS; rw [if_neg hn]⟩
set_option maxHeartbeats 4000000 in
set_option maxRecDepth 100000 in
theorem t_X5_at {w : zs_V} (hS : x_S w) (hW : m_W w) (s k i : Int) (hs0 : zn s) (hk : zn k) (hi : zn i) : zs_R mX5_at 0 0 shM (zs_X (m_atR w s k i) (m_atS w s k i)) w 0 [some (.inr 0), some (.inl (s)), some (.inl (k)), some (.inl (i)), none] [] := by
  have hsf : 0 ≤ s → s < w 15 0 → w 0 s = 0 ∨ w 0 s = 1 := fun a b => (x_S_at hS a b).2.1
  refine zs_aload_n dX5_at_0 rfl ?_
  refine zs_iload_n dX5_at_1 rfl ?_
  refine zs_iconst (x := 1) dX5_at_2 (by decide) ?_
  refine zs_eV (As := [.inl (s), .inl (1)]) (rest := []) (q := 0) dX5_at_3 rfl (Nat.le_of_ble_eq_true rfl) rfl rfl YX5_isForm rfl rfl (Nat.le_of_ble_eq_true rfl) gX5_at_X5_isForm (by decide) ⟨Nat.zero_le _, Nat.zero_le _⟩ rfl (t_X5_isForm (w := w) hS (s) (1) (by omega) (by omega)) ?_
  refine zs_ifz_eq (tgt := 19) dX5_at_6 (by decide)  (fun h6 => ?_) (fun h6 => ?_)
  · refine zs_iconst (x := -1) dX5_at_19 (by decide) ?_
    refine zs_iret dX5_at_20 rfl ?_
    have hn : ¬ (((0 ≤ s ∧ s < w 15 0) ∧ 0 ≤ k ∧ k < 100) ∧ w 0 s = 1) := by omega
    exact ⟨by unfold m_atR; rw [if_neg hn], by unfold m_atS; rw [if_neg hn]⟩
  · refine zs_iload_n dX5_at_9 rfl ?_
    refine zs_iconst (x := 0) dX5_at_10 (by decide) ?_
    refine zs_bipush (x := 99) dX5_at_11 (by decide) ?_
    refine zs_eS (As := [.inl (k), .inl (0), .inl (99)]) (rest := []) dX5_at_13 rfl (Nat.le_of_ble_eq_true rfl) YX5_isIn rfl (Nat.le_of_ble_eq_true rfl) gX5_at_X5_isIn (by decide) ⟨Nat.zero_le _, Nat.zero_le _⟩ rfl (t_X5_isIn (w := w) (k) (0) (99) (by omega) (by omega) (by omega)) ?_
    refine zs_ifz_ne (tgt := 21) dX5_at_16 (by decide)  (fun h16 => ?_) (fun h16 => ?_)
    · refine zs_iload_n dX5_at_21 rfl ?_
      refine zs_if_lt (tgt := 32) dX5_at_22 (by decide) (by omega) (fun h22 => ?_) (fun h22 => ?_)
      · refine zs_ldc (x := -99999999) dX5_at_32 kX5_at_55 (by decide) ?_
        refine zs_goto (tgt := 45) dX5_at_34 (by decide) ?_
        refine zs_istore (lv' := [some (.inr 0), some (.inl (s)), some (.inl (k)), some (.inl (i)), some (.inl (-99999999))]) dX5_at_45 (by decide) rfl ?_
        refine zs_iload dX5_at_47 rfl ?_
        refine zs_ldc (x := -99999999) dX5_at_49 kX5_at_55 (by decide) ?_
        refine zs_icmp_ne (tgt := 59) dX5_at_51 (by decide) (by omega) (by omega) (fun h51 => absurd h51 (by decide)) (fun h51 => ?_)
        refine zs_ldc (x := -99999999) dX5_at_54 kX5_at_55 (by decide) ?_
        refine zs_goto (tgt := 65) dX5_at_56 (by decide) ?_
        refine zs_iret dX5_at_65 rfl ?_
        have hn : (((0 ≤ s ∧ s < w 15 0) ∧ 0 ≤ k ∧ k < 100) ∧ w 0 s = 1) := by omega
        have e : m_atP w s k i = -99999999 := by unfold m_atP; rw [if_neg (by omega)]
        exact ⟨by unfold m_atR; rw [if_pos hn, if_pos e], by unfold m_atS; rw [if_pos hn, if_pos e]⟩
      · refine zs_iload_n dX5_at_25 rfl ?_
        refine zs_sipush (x := 200) dX5_at_26 (by decide) ?_
        refine zs_icmp_lt (tgt := 37) dX5_at_29 (by decide) (by omega) (by omega) (fun h29 => ?_) (fun h29 => ?_)
        · refine zs_aload_n dX5_at_37 rfl ?_
          refine zs_iload_n dX5_at_38 rfl ?_
          refine zs_iload_n dX5_at_39 rfl ?_
          refine zs_iload_n dX5_at_40 rfl ?_
          refine zs_iconst (x := 1) dX5_at_41 (by decide) ?_
          refine zs_eV (As := [.inl (s), .inl (k), .inl (i), .inl (1)]) (rest := []) (q := 0) dX5_at_42 rfl (Nat.le_of_ble_eq_true rfl) rfl rfl YX5_findIn rfl rfl (Nat.le_of_ble_eq_true rfl) gX5_at_X5_findIn (by decide) ⟨Nat.zero_le _, Nat.zero_le _⟩ rfl (t_X5_findIn (w := w) (s) (k) (i) (1) hS hW (by omega) (by omega) (by omega) (by omega)) ?_
          have hV := m_fo_V hW k 1 (s := s) (by omega) (i + 1).toNat (-1) (-99999999) (Or.inl rfl)
          have hVz := m_V_b hV
          refine zs_istore (lv' := [some (.inr 0), some (.inl (s)), some (.inl (k)), some (.inl (i)), some (.inl (m_fo w (s) (k) (1) (i + 1).toNat (-1) (-99999999)))]) dX5_at_45 (by decide) rfl ?_
          refine zs_iload dX5_at_47 rfl ?_
          refine zs_ldc (x := -99999999) dX5_at_49 kX5_at_55 (by decide) ?_
          refine zs_icmp_ne (tgt := 59) dX5_at_51 (by decide) (by omega) (by omega) (fun h51 => ?_) (fun h51 => ?_)
          · have hV1 := hV.resolve_left h51
            have hv1 := hV1.1
            have hv2 := hV1.2.1
            have hP := hV1.2.2
            have hs := hP.1
            refine zs_aload_n dX5_at_59 rfl ?_
            refine zs_iload dX5_at_60 rfl ?_
            refine zs_eV (As := [.inl (m_fo w (s) (k) (1) (i + 1).toNat (-1) (-99999999))]) (rest := []) (q := 0) dX5_at_62 rfl (Nat.le_of_ble_eq_true rfl) rfl rfl YX5_read rfl rfl (Nat.le_of_ble_eq_true rfl) gX5_at_X5_read (by decide) ⟨Nat.zero_le _, Nat.zero_le _⟩ rfl (t_X5_read (w := w) (m_fo w (s) (k) (1) (i + 1).toNat (-1) (-99999999)) (by omega) hS hs) ?_
            refine zs_iret dX5_at_65 rfl ?_
            have hn : (((0 ≤ s ∧ s < w 15 0) ∧ 0 ≤ k ∧ k < 100) ∧ w 0 s = 1) := by omega
            have e : m_atP w s k i = m_fo w s k 1 (i + 1).toNat (-1) (-99999999) := by unfold m_atP; rw [if_pos (by omega)]
            exact ⟨by unfold m_atR; rw [if_pos hn, e, if_neg h51], by unfold m_atS; rw [if_pos hn, e, if_neg h51]⟩
          · refine zs_ldc (x := -99999999) dX5_at_54 kX5_at_55 (by decide) ?_
            refine zs_goto (tgt := 65) dX5_at_56 (by decide) ?_
            refine zs_iret dX5_at_65 rfl ?_
            have hn : (((0 ≤ s ∧ s < w 15 0) ∧ 0 ≤ k ∧ k < 100) ∧ w 0 s = 1) := by omega
            have e : m_atP w s k i = m_fo w s k 1 (i + 1).toNat (-1) (-99999999) := by unfold m_atP; rw [if_pos (by omega)]
            exact ⟨by unfold m_atR; rw [if_pos hn, e, if_pos h51], by unfold m_atS; rw [if_pos hn, e, if_pos h51]⟩
        · refine zs_ldc (x := -99999999) dX5_at_32 kX5_at_55 (by decide) ?_
          refine zs_goto (tgt := 45) dX5_at_34 (by decide) ?_
          refine zs_istore (lv' := [some (.inr 0), some (.inl (s)), some (.inl (k)), some (.inl (i)), some (.inl (-99999999))]) dX5_at_45 (by decide) rfl ?_
          refine zs_iload dX5_at_47 rfl ?_
          refine zs_ldc (x := -99999999) dX5_at_49 kX5_at_55 (by decide) ?_
          refine zs_icmp_ne (tgt := 59) dX5_at_51 (by decide) (by omega) (by omega) (fun h51 => absurd h51 (by decide)) (fun h51 => ?_)
          refine zs_ldc (x := -99999999) dX5_at_54 kX5_at_55 (by decide) ?_
          refine zs_goto (tgt := 65) dX5_at_56 (by decide) ?_
          refine zs_iret dX5_at_65 rfl ?_
          have hn : (((0 ≤ s ∧ s < w 15 0) ∧ 0 ≤ k ∧ k < 100) ∧ w 0 s = 1) := by omega
          have e : m_atP w s k i = -99999999 := by unfold m_atP; rw [if_neg (by omega)]
          exact ⟨by unfold m_atR; rw [if_pos hn, if_pos e], by unfold m_atS; rw [if_pos hn, if_pos e]⟩
    · refine zs_iconst (x := -1) dX5_at_19 (by decide) ?_
      refine zs_iret dX5_at_20 rfl ?_
      have hn : ¬ (((0 ≤ s ∧ s < w 15 0) ∧ 0 ≤ k ∧ k < 100) ∧ w 0 s = 1) := by omega
      exact ⟨by unfold m_atR; rw [if_neg hn], by unfold m_atS; rw [if_neg hn]⟩
set_option maxHeartbeats 4000000 in
set_option maxRecDepth 100000 in
theorem t_X5_isAsked {w : zs_V} (hS : x_S w) (s k m : Int) (hs0 : zn s) (hk : zn k) (hm : zn m) : zs_R mX5_isAsked 0 0 shM (zs_X (zb (((0 ≤ s ∧ s < w 15 0) ∧ 0 ≤ k ∧ k < 100) ∧ 0 ≤ m ∧ (w 0 s = 1 ∨ m < 10))) w) w 0 [some (.inr 0), some (.inl (s)), some (.inl (k)), some (.inl (m))] [] := by
  refine zs_aload_n dX5_isAsked_0 rfl ?_
  refine zs_iload_n dX5_isAsked_1 rfl ?_
  refine zs_eV (As := [.inl (s)]) (rest := []) (q := 0) dX5_isAsked_2 rfl (Nat.le_of_ble_eq_true rfl) rfl rfl YX5_isState rfl rfl (Nat.le_of_ble_eq_true rfl) gX5_isAsked_X5_isState (by decide) ⟨Nat.zero_le _, Nat.zero_le _⟩ rfl (t_X5_isState (w := w) (s) (by omega) ⟨hS.1, hS.2.1⟩) ?_
  refine zs_ifz_eq (tgt := 42) dX5_isAsked_5 (by decide)  (fun h5 => ?_) (fun h5 => ?_)
  · refine zs_iconst (x := 0) dX5_isAsked_42 (by decide) ?_
    refine zs_zret dX5_isAsked_43 rfl (by first | omega | (split <;> omega)) ?_
    exact ⟨(zb_n (by omega)).symm, rfl⟩
  · refine zs_iload_n dX5_isAsked_8 rfl ?_
    refine zs_iconst (x := 0) dX5_isAsked_9 (by decide) ?_
    refine zs_bipush (x := 99) dX5_isAsked_10 (by decide) ?_
    refine zs_eS (As := [.inl (k), .inl (0), .inl (99)]) (rest := []) dX5_isAsked_12 rfl (Nat.le_of_ble_eq_true rfl) YX5_isIn rfl (Nat.le_of_ble_eq_true rfl) gX5_isAsked_X5_isIn (by decide) ⟨Nat.zero_le _, Nat.zero_le _⟩ rfl (t_X5_isIn (w := w) (k) (0) (99) (by omega) (by omega) (by omega)) ?_
    refine zs_ifz_eq (tgt := 42) dX5_isAsked_15 (by decide)  (fun h15 => ?_) (fun h15 => ?_)
    · refine zs_iconst (x := 0) dX5_isAsked_42 (by decide) ?_
      refine zs_zret dX5_isAsked_43 rfl (by first | omega | (split <;> omega)) ?_
      exact ⟨(zb_n (by omega)).symm, rfl⟩
    · have hs1 := x_S_at hS (s := s) (by omega) (by omega)
      refine zs_iload_n dX5_isAsked_18 rfl ?_
      refine zs_if_lt (tgt := 42) dX5_isAsked_19 (by decide) (by omega) (fun h19 => ?_) (fun h19 => ?_)
      · refine zs_iconst (x := 0) dX5_isAsked_42 (by decide) ?_
        refine zs_zret dX5_isAsked_43 rfl (by first | omega | (split <;> omega)) ?_
        exact ⟨(zb_n (by omega)).symm, rfl⟩
      · refine zs_aload_n dX5_isAsked_22 rfl ?_
        refine zs_getr (j := 1) dX5_isAsked_23 rfl rfl rfl (by decide) nX5_isAsked_X5 fX5_isAsked_7 ?_
        refine zs_iload_n dX5_isAsked_26 rfl ?_
        refine zs_iaload dX5_isAsked_27 rfl (by decide) (by omega) (by omega) ?_
        refine zs_iconst (x := 1) dX5_isAsked_28 (by decide) ?_
        refine zs_icmp_eq (tgt := 38) dX5_isAsked_29 (by decide) (by omega) (by omega) (fun h29 => ?_) (fun h29 => ?_)
        · refine zs_iconst (x := 1) dX5_isAsked_38 (by decide) ?_
          refine zs_goto (tgt := 43) dX5_isAsked_39 (by decide) ?_
          refine zs_zret dX5_isAsked_43 rfl (by first | omega | (split <;> omega)) ?_
          exact ⟨(zb_p (by omega)).symm, rfl⟩
        · refine zs_iload_n dX5_isAsked_32 rfl ?_
          refine zs_bipush (x := 9) dX5_isAsked_33 (by decide) ?_
          refine zs_icmp_gt (tgt := 42) dX5_isAsked_35 (by decide) (by omega) (by omega) (fun h35 => ?_) (fun h35 => ?_)
          · refine zs_iconst (x := 0) dX5_isAsked_42 (by decide) ?_
            refine zs_zret dX5_isAsked_43 rfl (by first | omega | (split <;> omega)) ?_
            exact ⟨(zb_n (by omega)).symm, rfl⟩
          · refine zs_iconst (x := 1) dX5_isAsked_38 (by decide) ?_
            refine zs_goto (tgt := 43) dX5_isAsked_39 (by decide) ?_
            refine zs_zret dX5_isAsked_43 rfl (by first | omega | (split <;> omega)) ?_
            exact ⟨(zb_p (by omega)).symm, rfl⟩
set_option maxHeartbeats 4000000 in
set_option maxRecDepth 100000 in
theorem t_X5_asked {w : zs_V} (hS : x_S w) (hW : m_W w) (s k m o : Int) (hs0 : 0 ≤ s ∧ s < w 15 0) (hk : zn k) (hm : 0 ≤ m ∧ zn m) (ho : zn o) : zs_R mX5_asked 0 0 shM (zs_X (m_ask w s k m o) w) w 0 [some (.inr 0), some (.inl (s)), some (.inl (k)), some (.inl (m)), some (.inl (o))] [] := by
  have hs1 := x_S_at hS hs0.1 hs0.2
  refine zs_aload_n dX5_asked_0 rfl ?_
  refine zs_getr (j := 1) dX5_asked_1 rfl rfl rfl (by decide) nX5_asked_X5 fX5_asked_7 ?_
  refine zs_iload_n dX5_asked_4 rfl ?_
  refine zs_iaload dX5_asked_5 rfl (by decide) (by omega) (by omega) ?_
  refine zs_if_ne (tgt := 17) dX5_asked_6 (by decide) (by omega) (fun h6 => ?_) (fun h6 => ?_)
  · refine zs_iload_n dX5_asked_17 rfl ?_
    refine zs_sipush (x := 200) dX5_asked_18 (by decide) ?_
    refine zs_icmp_lt (tgt := 29) dX5_asked_21 (by decide) (by omega) (by omega) (fun h21 => ?_) (fun h21 => ?_)
    · refine zs_aload_n dX5_asked_29 rfl ?_
      refine zs_iload_n dX5_asked_30 rfl ?_
      refine zs_iload_n dX5_asked_31 rfl ?_
      refine zs_iload_n dX5_asked_32 rfl ?_
      refine zs_iload dX5_asked_33 rfl ?_
      refine zs_eV (As := [.inl (s), .inl (k), .inl (m), .inl (o)]) (rest := []) (q := 0) dX5_asked_35 rfl (Nat.le_of_ble_eq_true rfl) rfl rfl YX5_findIn rfl rfl (Nat.le_of_ble_eq_true rfl) gX5_asked_X5_findIn (by decide) ⟨Nat.zero_le _, Nat.zero_le _⟩ rfl (t_X5_findIn (w := w) (s) (k) (m) (o) hS hW (by omega) (by omega) (by omega) (by omega)) ?_
      refine zs_iret dX5_asked_38 rfl ?_
      exact ⟨by unfold m_ask; rw [if_neg h6, if_pos h21], rfl⟩
    · refine zs_ldc (x := -99999999) dX5_asked_24 kX5_asked_55 (by decide) ?_
      refine zs_goto (tgt := 38) dX5_asked_26 (by decide) ?_
      refine zs_iret dX5_asked_38 rfl ?_
      exact ⟨by unfold m_ask; rw [if_neg h6, if_neg h21], rfl⟩
  · refine zs_aload_n dX5_asked_9 rfl ?_
    refine zs_iload_n dX5_asked_10 rfl ?_
    refine zs_iload_n dX5_asked_11 rfl ?_
    refine zs_iload_n dX5_asked_12 rfl ?_
    refine zs_eV (As := [.inl (s), .inl (k), .inl (m)]) (rest := []) (q := 0) dX5_asked_13 rfl (Nat.le_of_ble_eq_true rfl) rfl rfl YX5_find rfl rfl (Nat.le_of_ble_eq_true rfl) gX5_asked_X5_find (by decide) ⟨Nat.zero_le _, Nat.zero_le _⟩ rfl (t_X5_find (w := w) (s) (k) (m) hS hW (by omega) (by omega) (by omega)) ?_
    refine zs_iret dX5_asked_16 rfl ?_
    exact ⟨by unfold m_ask; rw [if_pos h6], rfl⟩
set_option maxHeartbeats 4000000 in
set_option maxRecDepth 100000 in
theorem t_X5_left {w : zs_V} (hS : x_S w) (hW : m_W w) (s k m : Int) (hs0 : zn s) (hk : zn k) (hm : zn m) : zs_R mX5_left 0 0 shM (zs_X (m_leftR w s k m) w) w 0 [some (.inr 0), some (.inl (s)), some (.inl (k)), some (.inl (m)), none] [] := by
  refine zs_aload_n dX5_left_0 rfl ?_
  refine zs_iload_n dX5_left_1 rfl ?_
  refine zs_iload_n dX5_left_2 rfl ?_
  refine zs_iload_n dX5_left_3 rfl ?_
  refine zs_eV (As := [.inl (s), .inl (k), .inl (m)]) (rest := []) (q := 0) dX5_left_4 rfl (Nat.le_of_ble_eq_true rfl) rfl rfl YX5_isAsked rfl rfl (Nat.le_of_ble_eq_true rfl) gX5_left_X5_isAsked (by decide) ⟨Nat.zero_le _, Nat.zero_le _⟩ rfl (t_X5_isAsked (w := w) hS (s) (k) (m) (by omega) (by omega) (by omega)) ?_
  refine zs_ifz_ne (tgt := 12) dX5_left_7 (by decide)  (fun h7 => ?_) (fun h7 => ?_)
  · refine zs_aload_n dX5_left_12 rfl ?_
    refine zs_iload_n dX5_left_13 rfl ?_
    refine zs_iload_n dX5_left_14 rfl ?_
    refine zs_iload_n dX5_left_15 rfl ?_
    refine zs_iconst (x := 1) dX5_left_16 (by decide) ?_
    refine zs_eV (As := [.inl (s), .inl (k), .inl (m), .inl (1)]) (rest := []) (q := 0) dX5_left_17 rfl (Nat.le_of_ble_eq_true rfl) rfl rfl YX5_asked rfl rfl (Nat.le_of_ble_eq_true rfl) gX5_left_X5_asked (by decide) ⟨Nat.zero_le _, Nat.zero_le _⟩ rfl (t_X5_asked (w := w) hS hW (s) (k) (m) (1) (by omega) (by omega) (by omega) (by omega)) ?_
    have hV := m_ask_V hW k m 1 (s := s) (by omega)
    have hVz := m_V_b hV
    refine zs_istore (lv' := [some (.inr 0), some (.inl (s)), some (.inl (k)), some (.inl (m)), some (.inl (m_ask w (s) (k) (m) (1)))]) dX5_left_20 (by decide) rfl ?_
    refine zs_iload dX5_left_22 rfl ?_
    refine zs_ldc (x := -99999999) dX5_left_24 kX5_left_55 (by decide) ?_
    refine zs_icmp_eq (tgt := 55) dX5_left_26 (by decide) (by omega) (by omega) (fun h26 => ?_) (fun h26 => ?_)
    · refine zs_ldc (x := -99999999) dX5_left_55 kX5_left_55 (by decide) ?_
      refine zs_iret dX5_left_57 rfl ?_
      exact ⟨by unfold m_leftR; rw [if_pos h7, if_neg (fun z => z.1 h26)], rfl⟩
    · have hV1 := hV.resolve_left h26
      have hv1 := hV1.1
      have hv2 := hV1.2.1
      have hP := hV1.2.2
      have hs := hP.1
      refine zs_aload_n dX5_left_29 rfl ?_
      refine zs_iload dX5_left_30 rfl ?_
      refine zs_eV (As := [.inl (m_ask w (s) (k) (m) (1))]) (rest := []) (q := 0) dX5_left_32 rfl (Nat.le_of_ble_eq_true rfl) rfl rfl YX5_isShown rfl rfl (Nat.le_of_ble_eq_true rfl) gX5_left_X5_isShown (by decide) ⟨Nat.zero_le _, Nat.zero_le _⟩ rfl (t_X5_isShown (w := w) (m_ask w (s) (k) (m) (1)) (by omega) hS hW) ?_
      refine zs_ifz_eq (tgt := 55) dX5_left_35 (by decide)  (fun h35 => ?_) (fun h35 => ?_)
      · refine zs_ldc (x := -99999999) dX5_left_55 kX5_left_55 (by decide) ?_
        refine zs_iret dX5_left_57 rfl ?_
        exact ⟨by unfold m_leftR; rw [if_pos h7, if_neg (fun z => h35 z.2)], rfl⟩
      · refine zs_aload_n dX5_left_38 rfl ?_
        refine zs_getr (j := 11) dX5_left_39 rfl rfl rfl (by decide) nX5_left_X5 fX5_left_40 ?_
        refine zs_iload dX5_left_42 rfl ?_
        refine zs_iaload dX5_left_44 rfl (by decide) (by omega) (by omega) ?_
        refine zs_aload_n dX5_left_45 rfl ?_
        refine zs_iload dX5_left_46 rfl ?_
        refine zs_eV (As := [.inl (m_ask w (s) (k) (m) (1))]) (rest := [.inl (w 10 (m_ask w (s) (k) (m) (1)))]) (q := 0) dX5_left_48 rfl (Nat.le_of_ble_eq_true rfl) rfl rfl YX5_clockOf rfl rfl (Nat.le_of_ble_eq_true rfl) gX5_left_X5_clockOf (by decide) ⟨Nat.zero_le _, Nat.zero_le _⟩ rfl (t_X5_clockOf (w := w) (m_ask w (s) (k) (m) (1)) (by omega) hS hP) ?_
        refine zs_isub dX5_left_51 ?_
        refine zs_goto (tgt := 57) dX5_left_52 (by decide) ?_
        refine zs_iret dX5_left_57 rfl ?_
        exact ⟨by unfold m_leftR; rw [if_pos h7, if_pos ⟨h26, h35⟩], rfl⟩
  · refine zs_iconst (x := -1) dX5_left_10 (by decide) ?_
    refine zs_iret dX5_left_11 rfl ?_
    exact ⟨by unfold m_leftR; rw [if_neg h7], rfl⟩
set_option maxHeartbeats 4000000 in
set_option maxRecDepth 100000 in
theorem t_X5_place {w : zs_V} (hS : x_S w) (hW : m_W w) (s k m : Int) (hs0 : zn s) (hk : zn k) (hm : zn m) : zs_R mX5_place 0 0 shM (zs_X (m_placeR w s k m) w) w 0 [some (.inr 0), some (.inl (s)), some (.inl (k)), some (.inl (m))] [] := by
  refine zs_aload_n dX5_place_0 rfl ?_
  refine zs_iload_n dX5_place_1 rfl ?_
  refine zs_iload_n dX5_place_2 rfl ?_
  refine zs_iload_n dX5_place_3 rfl ?_
  refine zs_eV (As := [.inl (s), .inl (k), .inl (m)]) (rest := []) (q := 0) dX5_place_4 rfl (Nat.le_of_ble_eq_true rfl) rfl rfl YX5_isAsked rfl rfl (Nat.le_of_ble_eq_true rfl) gX5_place_X5_isAsked (by decide) ⟨Nat.zero_le _, Nat.zero_le _⟩ rfl (t_X5_isAsked (w := w) hS (s) (k) (m) (by omega) (by omega) (by omega)) ?_
  refine zs_ifz_ne (tgt := 12) dX5_place_7 (by decide)  (fun h7 => ?_) (fun h7 => ?_)
  · refine zs_aload_n dX5_place_12 rfl ?_
    refine zs_iload_n dX5_place_13 rfl ?_
    refine zs_iload_n dX5_place_14 rfl ?_
    refine zs_iload_n dX5_place_15 rfl ?_
    refine zs_iconst (x := 0) dX5_place_16 (by decide) ?_
    refine zs_eV (As := [.inl (s), .inl (k), .inl (m), .inl (0)]) (rest := []) (q := 0) dX5_place_17 rfl (Nat.le_of_ble_eq_true rfl) rfl rfl YX5_asked rfl rfl (Nat.le_of_ble_eq_true rfl) gX5_place_X5_asked (by decide) ⟨Nat.zero_le _, Nat.zero_le _⟩ rfl (t_X5_asked (w := w) hS hW (s) (k) (m) (0) (by omega) (by omega) (by omega) (by omega)) ?_
    refine zs_iret dX5_place_20 rfl ?_
    exact ⟨by unfold m_placeR; rw [if_pos h7], rfl⟩
  · refine zs_iconst (x := -1) dX5_place_10 (by decide) ?_
    refine zs_iret dX5_place_11 rfl ?_
    exact ⟨by unfold m_placeR; rw [if_neg h7], rfl⟩
