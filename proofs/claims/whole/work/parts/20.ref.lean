
def z_fr : Int → Nat → List Int
  | _, 0 => []
  | p, n + 1 => p :: z_fr (p + 1) n
def z_Z : List Int := z_fr 0 200
abbrev m_clk (w : zs_V) (p : Int) : Int := w 4 (w 1 (w 5 p))
abbrev m_sh (w : zs_V) (p : Int) : Prop := ¬ w 5 p = -99999999 ∧ m_clk w p < w 10 p
abbrev m_ov (w : zs_V) (p : Int) : Prop := ¬ w 5 p = -99999999 ∧ w 10 p ≤ m_clk w p
/-- a place that is taken -/
def m_P (w : zs_V) (p : Int) : Prop := (0 ≤ w 5 p ∧ w 5 p < w 15 0) ∧ (0 ≤ w 6 p ∧ w 6 p < 100) ∧ (0 ≤ w 7 p ∧ w 7 p < 10) ∧ (0 ≤ w 10 p ∧ w 10 p ≤ 1000100000) ∧ 0 ≤ w 11 p ∧ w 11 p ≤ 1000000
def m_W (w : zs_V) : Prop := ∀ p : Int, 0 ≤ p → p < 200 → w 5 p = -99999999 ∨ m_P w p
abbrev m_ah (w : zs_V) (p q : Int) : Prop := (¬ w 5 p = w 5 q ∧ w 5 p < w 5 q) ∨ (w 5 p = w 5 q ∧ ((¬ w 6 p = w 6 q ∧ w 6 p < w 6 q) ∨ (w 6 p = w 6 q ∧ ((¬ w 7 p = w 7 q ∧ w 7 p < w 7 q) ∨ (w 7 p = w 7 q ∧ w 11 p < w 11 q)))))
def m_fr (w : zs_V) : List Int → Int
  | [] => -99999999
  | p :: ps => if w 5 p = -99999999 then p else m_fr w ps
def m_fd (w : zs_V) (s k b : Int) : List Int → Int
  | [] => -99999999
  | p :: ps => if w 5 p = s ∧ w 6 p = k ∧ w 7 p = b then p else m_fd w s k b ps
abbrev m_is (w : zs_V) (s k last sh p : Int) : Prop := w 5 p = s ∧ w 6 p = k ∧ last < w 11 p ∧ (sh = 0 ∨ m_sh w p)
def m_fi (w : zs_V) (s k last sh : Int) : List Int → Int → Int
  | [], a => a
  | p :: ps, a => m_fi w s k last sh ps (if m_is w s k last sh p ∧ (a = -99999999 ∨ w 11 p < w 11 a) then p else a)
def m_fo (w : zs_V) (s k sh : Int) : Nat → Int → Int → Int
  | 0, _, a => a
  | n + 1, last, _ => if m_fi w s k last sh z_Z (-99999999) = -99999999 then -99999999 else m_fo w s k sh n (w 11 (m_fi w s k last sh z_Z (-99999999))) (m_fi w s k last sh z_Z (-99999999))
noncomputable def m_hd (w : zs_V) (s k o : Int) : List Int → Int
  | [] => 0
  | p :: ps => (if w 5 p = s ∧ w 6 p = k ∧ ¬ zb (m_sh w p) = o then 1 else 0) + m_hd w s k o ps
def m_os (w : zs_V) : List Int → Int
  | [] => 0
  | p :: ps => (if m_ov w p then 1 else 0) + m_os w ps
def m_ca (w : zs_V) : List Int → Int
  | [] => 0
  | p :: ps => (if ¬ w 5 p = -99999999 then 1 else 0) + m_ca w ps
def m_cs (w : zs_V) : List Int → Int
  | [] => 0
  | p :: ps => (if m_sh w p then 1 else 0) + m_cs w ps
def m_nx (w : zs_V) (s : Int) : List Int → Int → Int
  | [], l => l
  | p :: ps, l => m_nx w s ps (if w 5 p = s ∧ m_sh w p ∧ (l = -99999999 ∨ w 10 p < l) then w 10 p else l)
def m_nk (w : zs_V) (b : Int) : List Int → Int → Int
  | [], a => a
  | p :: ps, a => m_nk w b ps (if m_sh w p ∧ (b = -99999999 ∨ m_ah w b p) ∧ (a = -99999999 ∨ m_ah w p a) then p else a)
def m_clS (s k : Int) : List Int → zs_V → zs_V
  | [], w => w
  | p :: ps, w => m_clS s k ps (if w 5 p = s ∧ w 6 p = k then zs_put w 5 p (-99999999) else w)
def m_clR (s k : Int) : List Int → zs_V → Int
  | [], _ => 0
  | p :: ps, w => (if (w 5 p = s ∧ w 6 p = k) ∧ m_sh w p then 1 else 0) + m_clR s k ps (if w 5 p = s ∧ w 6 p = k then zs_put w 5 p (-99999999) else w)
def m_sa (s l : Int) : List Int → zs_V → zs_V
  | [], w => w
  | p :: ps, w => m_sa s l ps (if w 5 p = s ∧ m_sh w p then zs_put w 10 p (w 9 p + l) else w)
def m_stamp (w : zs_V) (p : Int) : zs_V := zs_put (zs_put w 9 p (w 4 (w 1 (w 5 p)))) 10 p (w 4 (w 1 (w 5 p)) + w 2 (w 5 p))
def m_wrA (w : zs_V) (p s k b x : Int) : zs_V := zs_put (zs_put (zs_put (zs_put (zs_put (zs_put w 5 p s) 6 p k) 7 p b) 8 p x) 16 0 (w 16 0 + 1)) 11 p (w 16 0 + 1)
def m_wr (w : zs_V) (p s k b x : Int) : zs_V := m_stamp (m_wrA w p s k b x) p
def m_shift (w : zs_V) (n : Int) : zs_V := fun r j => if r = 12 ∧ 0 ≤ j ∧ j < n then w 12 (j + 6) else w r j
def m_ts (w : zs_V) : zs_V := if w 18 0 = 150 then zs_put (m_shift w 894) 18 0 149 else w
def m_tA (w : zs_V) (i p : Int) : zs_V := zs_put (zs_put (zs_put (zs_put (zs_put (zs_put w 12 i (w 5 p)) 12 (i + 1) (w 6 p)) 12 (i + 2) (w 7 p)) 12 (i + 3) (w 8 p)) 12 (i + 4) (w 10 p)) 12 (i + 5) (w 4 0)
def m_tB (w : zs_V) (i p : Int) : zs_V := zs_put (zs_put (m_tA w i p) 18 0 (w 18 0 + 1)) 19 0 (w 19 0 + 1)
def m_tell (w : zs_V) (p : Int) : zs_V := m_tB (m_ts w) (6 * (m_ts w) 18 0) p
def m_read (w : zs_V) (p : Int) : zs_V := if w 3 (w 5 p) = 1 then m_stamp w p else w
theorem m_P_f {w : zs_V} {p : Int} (hS : x_S w) (h : m_P w p) : 0 ≤ w 5 p ∧ w 5 p < 6 ∧ (w 1 (w 5 p) = 0 ∨ w 1 (w 5 p) = 1) ∧ (w 3 (w 5 p) = 0 ∨ w 3 (w 5 p) = 1) ∧ (1 ≤ w 2 (w 5 p) ∧ w 2 (w 5 p) ≤ 100000) ∧ (0 ≤ m_clk w p ∧ m_clk w p ≤ 1000000000) ∧ 0 ≤ w 10 p ∧ w 10 p ≤ 1000100000 := by
  have hf := x_S_at hS h.1.1 h.1.2
  have he := h.2.2.2.1
  exact ⟨h.1.1, hf.1, hf.2.2.1, hf.2.2.2.2.2.1, ⟨hf.2.2.2.1, hf.2.2.2.2.1⟩, ⟨hf.2.2.2.2.2.2.1, hf.2.2.2.2.2.2.2⟩, he⟩
theorem m_W_z {w : zs_V} (hS : x_S w) (hW : m_W w) {p : Int} (h0 : 0 ≤ p) (h1 : p < 200) : zn (w 5 p) := by
  rcases hW p h0 h1 with h | h
  · omega
  · have := m_P_f hS h
    omega
set_option maxHeartbeats 4000000 in
set_option maxRecDepth 100000 in
theorem t_X5_isIn {w : zs_V} (x a b : Int) (hx : zn x) (ha : zn a) (hb : zn b) : zs_R mX5_isIn 0 0 shM (zs_X (zb (a ≤ x ∧ x ≤ b)) w) w 0 [some (.inl (x)), some (.inl (a)), some (.inl (b))] [] := by
  refine zs_iload_n dX5_isIn_0 rfl ?_
  refine zs_iload_n dX5_isIn_1 rfl ?_
  refine zs_icmp_lt (tgt := 14) dX5_isIn_2 (by decide) (by omega) (by omega) (fun h2 => ?_) (fun h2 => ?_)
  · refine zs_iconst (x := 0) dX5_isIn_14 (by decide) ?_
    refine zs_zret dX5_isIn_15 rfl (by first | omega | (split <;> omega)) ?_
    exact ⟨(zb_n (by omega)).symm, rfl⟩
  · refine zs_iload_n dX5_isIn_5 rfl ?_
    refine zs_iload_n dX5_isIn_6 rfl ?_
    refine zs_icmp_gt (tgt := 14) dX5_isIn_7 (by decide) (by omega) (by omega) (fun h7 => ?_) (fun h7 => ?_)
    · refine zs_iconst (x := 0) dX5_isIn_14 (by decide) ?_
      refine zs_zret dX5_isIn_15 rfl (by first | omega | (split <;> omega)) ?_
      exact ⟨(zb_n (by omega)).symm, rfl⟩
    · refine zs_iconst (x := 1) dX5_isIn_10 (by decide) ?_
      refine zs_goto (tgt := 15) dX5_isIn_11 (by decide) ?_
      refine zs_zret dX5_isIn_15 rfl (by first | omega | (split <;> omega)) ?_
      exact ⟨(zb_p (by omega)).symm, rfl⟩
set_option maxHeartbeats 4000000 in
set_option maxRecDepth 100000 in
theorem t_X5_isState {w : zs_V} (s : Int) (hs : zn s) (hm : 0 ≤ w 15 0 ∧ w 15 0 ≤ 6) : zs_R mX5_isState 0 0 shM (zs_X (zb (0 ≤ s ∧ s < w 15 0)) w) w 0 [some (.inr 0), some (.inl (s))] [] := by
  refine zs_iload_n dX5_isState_0 rfl ?_
  refine zs_iconst (x := 0) dX5_isState_1 (by decide) ?_
  refine zs_aload_n dX5_isState_2 rfl ?_
  refine zs_geti (j := 0) dX5_isState_3 rfl rfl rfl (by decide) nX5_isState_X5 fX5_isState_56 ?_
  refine zs_iconst (x := 1) dX5_isState_6 (by decide) ?_
  refine zs_isub dX5_isState_7 ?_
  refine zs_eS (As := [.inl (s), .inl (0), .inl ((w 15 0) - (1))]) (rest := []) dX5_isState_8 rfl (Nat.le_of_ble_eq_true rfl) YX5_isIn rfl (Nat.le_of_ble_eq_true rfl) gX5_isState_X5_isIn (by decide) ⟨Nat.zero_le _, Nat.zero_le _⟩ rfl (t_X5_isIn (w := w) (s) (0) ((w 15 0) - (1)) (by omega) (by omega) (by omega)) ?_
  refine zs_zret dX5_isState_11 rfl (zb_01 _) ?_
  exact ⟨zb_c ⟨fun h => by omega, fun h => by omega⟩, rfl⟩
set_option maxHeartbeats 4000000 in
set_option maxRecDepth 100000 in
theorem t_X5_isForm {w : zs_V} (hS : x_S w) (s f : Int) (hs : zn s) (hf : zn f) : zs_R mX5_isForm 0 0 shM (zs_X (zb ((0 ≤ s ∧ s < w 15 0) ∧ w 0 s = f)) w) w 0 [some (.inr 0), some (.inl (s)), some (.inl (f))] [] := by
  refine zs_aload_n dX5_isForm_0 rfl ?_
  refine zs_iload_n dX5_isForm_1 rfl ?_
  refine zs_eV (As := [.inl (s)]) (rest := []) (q := 0) dX5_isForm_2 rfl (Nat.le_of_ble_eq_true rfl) rfl rfl YX5_isState rfl rfl (Nat.le_of_ble_eq_true rfl) gX5_isForm_X5_isState (by decide) ⟨Nat.zero_le _, Nat.zero_le _⟩ rfl (t_X5_isState (w := w) (s) (by omega) ⟨hS.1, hS.2.1⟩) ?_
  refine zs_ifz_eq (tgt := 22) dX5_isForm_5 (by decide)  (fun h5 => ?_) (fun h5 => ?_)
  · refine zs_iconst (x := 0) dX5_isForm_22 (by decide) ?_
    refine zs_zret dX5_isForm_23 rfl (by first | omega | (split <;> omega)) ?_
    exact ⟨(zb_n (by omega)).symm, rfl⟩
  · have hs1 := x_S_at hS (s := s) (by omega) (by omega)
    refine zs_aload_n dX5_isForm_8 rfl ?_
    refine zs_getr (j := 1) dX5_isForm_9 rfl rfl rfl (by decide) nX5_isForm_X5 fX5_isForm_7 ?_
    refine zs_iload_n dX5_isForm_12 rfl ?_
    refine zs_iaload dX5_isForm_13 rfl (by decide) (by omega) (by omega) ?_
    refine zs_iload_n dX5_isForm_14 rfl ?_
    refine zs_icmp_ne (tgt := 22) dX5_isForm_15 (by decide) (by omega) (by omega) (fun h15 => ?_) (fun h15 => ?_)
    · refine zs_iconst (x := 0) dX5_isForm_22 (by decide) ?_
      refine zs_zret dX5_isForm_23 rfl (by first | omega | (split <;> omega)) ?_
      exact ⟨(zb_n (by omega)).symm, rfl⟩
    · refine zs_iconst (x := 1) dX5_isForm_18 (by decide) ?_
      refine zs_goto (tgt := 23) dX5_isForm_19 (by decide) ?_
      refine zs_zret dX5_isForm_23 rfl (by first | omega | (split <;> omega)) ?_
      exact ⟨(zb_p (by omega)).symm, rfl⟩
set_option maxHeartbeats 4000000 in
set_option maxRecDepth 100000 in
theorem t_X5_clockOf {w : zs_V} (p : Int) (hp : 0 ≤ p ∧ p < 200) (hS : x_S w) (hP : m_P w p) : zs_R mX5_clockOf 0 0 shM (zs_X (m_clk w p) w) w 0 [some (.inr 0), some (.inl (p))] [] := by
  have hf := m_P_f hS hP
  refine zs_aload_n dX5_clockOf_0 rfl ?_
  refine zs_getr (j := 5) dX5_clockOf_1 rfl rfl rfl (by decide) nX5_clockOf_X5 fX5_clockOf_22 ?_
  refine zs_aload_n dX5_clockOf_4 rfl ?_
  refine zs_getr (j := 2) dX5_clockOf_5 rfl rfl rfl (by decide) nX5_clockOf_X5 fX5_clockOf_13 ?_
  refine zs_aload_n dX5_clockOf_8 rfl ?_
  refine zs_getr (j := 6) dX5_clockOf_9 rfl rfl rfl (by decide) nX5_clockOf_X5 fX5_clockOf_25 ?_
  refine zs_iload_n dX5_clockOf_12 rfl ?_
  refine zs_iaload dX5_clockOf_13 rfl (by decide) (by omega) (by omega) ?_
  refine zs_iaload dX5_clockOf_14 rfl (by decide) (by omega) (by omega) ?_
  refine zs_iaload dX5_clockOf_15 rfl (by decide) (by omega) (by omega) ?_
  refine zs_iret dX5_clockOf_16 rfl ?_
  exact ⟨rfl, rfl⟩
set_option maxHeartbeats 4000000 in
set_option maxRecDepth 100000 in
theorem t_X5_isShown {w : zs_V} (p : Int) (hp : 0 ≤ p ∧ p < 200) (hS : x_S w) (hW : m_W w) : zs_R mX5_isShown 0 0 shM (zs_X (zb (m_sh w p)) w) w 0 [some (.inr 0), some (.inl (p))] [] := by
  have hz := m_W_z hS hW (p := p) (by omega) (by omega)
  refine zs_aload_n dX5_isShown_0 rfl ?_
  refine zs_getr (j := 6) dX5_isShown_1 rfl rfl rfl (by decide) nX5_isShown_X5 fX5_isShown_25 ?_
  refine zs_iload_n dX5_isShown_4 rfl ?_
  refine zs_iaload dX5_isShown_5 rfl (by decide) (by omega) (by omega) ?_
  refine zs_ldc (x := -99999999) dX5_isShown_6 kX5_isShown_55 (by decide) ?_
  refine zs_icmp_eq (tgt := 29) dX5_isShown_8 (by decide) (by omega) (by omega) (fun h8 => ?_) (fun h8 => ?_)
  · refine zs_iconst (x := 0) dX5_isShown_29 (by decide) ?_
    refine zs_zret dX5_isShown_30 rfl (by first | omega | (split <;> omega)) ?_
    exact ⟨(zb_n (fun z => by have z1 := z.1; have z2 := z.2; omega)).symm, rfl⟩
  · have hP := (hW p (by omega) (by omega)).resolve_left h8
    have hf := m_P_f hS hP
    refine zs_aload_n dX5_isShown_11 rfl ?_
    refine zs_iload_n dX5_isShown_12 rfl ?_
    refine zs_eV (As := [.inl (p)]) (rest := []) (q := 0) dX5_isShown_13 rfl (Nat.le_of_ble_eq_true rfl) rfl rfl YX5_clockOf rfl rfl (Nat.le_of_ble_eq_true rfl) gX5_isShown_X5_clockOf (by decide) ⟨Nat.zero_le _, Nat.zero_le _⟩ rfl (t_X5_clockOf (w := w) (p) (by omega) hS hP) ?_
    refine zs_aload_n dX5_isShown_16 rfl ?_
    refine zs_getr (j := 11) dX5_isShown_17 rfl rfl rfl (by decide) nX5_isShown_X5 fX5_isShown_40 ?_
    refine zs_iload_n dX5_isShown_20 rfl ?_
    refine zs_iaload dX5_isShown_21 rfl (by decide) (by omega) (by omega) ?_
    refine zs_icmp_ge (tgt := 29) dX5_isShown_22 (by decide) (by omega) (by omega) (fun h22 => ?_) (fun h22 => ?_)
    · refine zs_iconst (x := 0) dX5_isShown_29 (by decide) ?_
      refine zs_zret dX5_isShown_30 rfl (by first | omega | (split <;> omega)) ?_
      exact ⟨(zb_n (fun z => by have z1 := z.1; have z2 := z.2; omega)).symm, rfl⟩
    · refine zs_iconst (x := 1) dX5_isShown_25 (by decide) ?_
      refine zs_goto (tgt := 30) dX5_isShown_26 (by decide) ?_
      refine zs_zret dX5_isShown_30 rfl (by first | omega | (split <;> omega)) ?_
      exact ⟨(zb_p ⟨by omega, by omega⟩).symm, rfl⟩
set_option maxHeartbeats 4000000 in
set_option maxRecDepth 100000 in
theorem t_X5_isOver {w : zs_V} (p : Int) (hp : 0 ≤ p ∧ p < 200) (hS : x_S w) (hW : m_W w) : zs_R mX5_isOver 0 0 shM (zs_X (zb (m_ov w p)) w) w 0 [some (.inr 0), some (.inl (p))] [] := by
  have hz := m_W_z hS hW (p := p) (by omega) (by omega)
  refine zs_aload_n dX5_isOver_0 rfl ?_
  refine zs_getr (j := 6) dX5_isOver_1 rfl rfl rfl (by decide) nX5_isOver_X5 fX5_isOver_25 ?_
  refine zs_iload_n dX5_isOver_4 rfl ?_
  refine zs_iaload dX5_isOver_5 rfl (by decide) (by omega) (by omega) ?_
  refine zs_ldc (x := -99999999) dX5_isOver_6 kX5_isOver_55 (by decide) ?_
  refine zs_icmp_eq (tgt := 29) dX5_isOver_8 (by decide) (by omega) (by omega) (fun h8 => ?_) (fun h8 => ?_)
  · refine zs_iconst (x := 0) dX5_isOver_29 (by decide) ?_
    refine zs_zret dX5_isOver_30 rfl (by first | omega | (split <;> omega)) ?_
    exact ⟨(zb_n (fun z => by have z1 := z.1; have z2 := z.2; omega)).symm, rfl⟩
  · have hP := (hW p (by omega) (by omega)).resolve_left h8
    have hf := m_P_f hS hP
    refine zs_aload_n dX5_isOver_11 rfl ?_
    refine zs_iload_n dX5_isOver_12 rfl ?_
    refine zs_eV (As := [.inl (p)]) (rest := []) (q := 0) dX5_isOver_13 rfl (Nat.le_of_ble_eq_true rfl) rfl rfl YX5_clockOf rfl rfl (Nat.le_of_ble_eq_true rfl) gX5_isOver_X5_clockOf (by decide) ⟨Nat.zero_le _, Nat.zero_le _⟩ rfl (t_X5_clockOf (w := w) (p) (by omega) hS hP) ?_
    refine zs_aload_n dX5_isOver_16 rfl ?_
    refine zs_getr (j := 11) dX5_isOver_17 rfl rfl rfl (by decide) nX5_isOver_X5 fX5_isOver_40 ?_
    refine zs_iload_n dX5_isOver_20 rfl ?_
    refine zs_iaload dX5_isOver_21 rfl (by decide) (by omega) (by omega) ?_
    refine zs_icmp_lt (tgt := 29) dX5_isOver_22 (by decide) (by omega) (by omega) (fun h22 => ?_) (fun h22 => ?_)
    · refine zs_iconst (x := 0) dX5_isOver_29 (by decide) ?_
      refine zs_zret dX5_isOver_30 rfl (by first | omega | (split <;> omega)) ?_
      exact ⟨(zb_n (fun z => by have z1 := z.1; have z2 := z.2; omega)).symm, rfl⟩
    · refine zs_iconst (x := 1) dX5_isOver_25 (by decide) ?_
      refine zs_goto (tgt := 30) dX5_isOver_26 (by decide) ?_
      refine zs_zret dX5_isOver_30 rfl (by first | omega | (split <;> omega)) ?_
      exact ⟨(zb_p ⟨by omega, by omega⟩).symm, rfl⟩
set_option maxHeartbeats 4000000 in
set_option maxRecDepth 100000 in
theorem l_X5_free {w : zs_V} {r0 : Int} (hS : x_S w) (hW : m_W w) : ∀ (n : Nat) (p : Int), 0 ≤ p → p + n = 200 → m_fr w (z_fr p n) = r0 → zs_R mX5_free 0 0 shM (zs_X r0 w) w 2 [some (.inr 0), some (.inl (p))] [] := by
  intro n
  induction n using Nat.strongRecOn with
  | ind n ih =>
    intro p h0 hn hr
    refine zs_iload_n dX5_free_2 rfl ?_
    refine zs_sipush (x := 200) dX5_free_3 (by decide) ?_
    refine zs_icmp_ge (tgt := 28) dX5_free_6 (by decide) (by omega) (by omega) (fun h6 => ?_) (fun h6 => ?_)
    · refine zs_ldc (x := -99999999) dX5_free_28 kX5_free_55 (by decide) ?_
      refine zs_iret dX5_free_30 rfl ?_
      obtain rfl : n = 0 := by omega
      exact ⟨hr, rfl⟩
    · obtain ⟨n', rfl⟩ : ∃ n', n = n' + 1 := ⟨n - 1, by omega⟩
      have hz := m_W_z hS hW (p := p) (by omega) (by omega)
      refine zs_aload_n dX5_free_9 rfl ?_
      refine zs_getr (j := 6) dX5_free_10 rfl rfl rfl (by decide) nX5_free_X5 fX5_free_25 ?_
      refine zs_iload_n dX5_free_13 rfl ?_
      refine zs_iaload dX5_free_14 rfl (by decide) (by omega) (by omega) ?_
      refine zs_ldc (x := -99999999) dX5_free_15 kX5_free_55 (by decide) ?_
      refine zs_icmp_ne (tgt := 22) dX5_free_17 (by decide) (by omega) (by omega) (fun h17 => ?_) (fun h17 => ?_)
      · refine zs_iinc (lv' := [some (.inr 0), some (.inl (p + 1))]) dX5_free_22 rfl (by decide) rfl ?_
        refine zs_goto (tgt := 2) dX5_free_25 (by decide) ?_
        simp only [z_fr, m_fr] at hr
        rw [if_neg h17] at hr
        exact ih n' (by omega) (p + 1) (by omega) (by omega) hr
      · refine zs_iload_n dX5_free_20 rfl ?_
        refine zs_iret dX5_free_21 rfl ?_
        simp only [z_fr, m_fr] at hr
        rw [if_pos h17] at hr
        exact ⟨hr, rfl⟩
set_option maxHeartbeats 4000000 in
set_option maxRecDepth 100000 in
theorem t_X5_free {w : zs_V} (hS : x_S w) (hW : m_W w) : zs_R mX5_free 0 0 shM (zs_X (m_fr w z_Z) w) w 0 [some (.inr 0), none] [] := by
  refine zs_iconst (x := 0) dX5_free_0 (by decide) ?_
  refine zs_istore_n (lv' := [some (.inr 0), some (.inl (0))]) dX5_free_1 (by decide) rfl ?_
  exact l_X5_free hS hW 200 0 (by omega) (by omega) rfl
set_option maxHeartbeats 4000000 in
set_option maxRecDepth 100000 in
theorem l_X5_find {w : zs_V} {s k b r0 : Int} (hS : x_S w) (hW : m_W w) (hs : zn s ∧ ¬ s = -99999999) (hk : zn k) (hb : zn b) : ∀ (n : Nat) (p : Int), 0 ≤ p → p + n = 200 → m_fd w s k b (z_fr p n) = r0 → zs_R mX5_find 0 0 shM (zs_X r0 w) w 3 [some (.inr 0), some (.inl (s)), some (.inl (k)), some (.inl (b)), some (.inl (p))] [] := by
  intro n
  induction n using Nat.strongRecOn with
  | ind n ih =>
    intro p h0 hn hr
    refine zs_iload dX5_find_3 rfl ?_
    refine zs_sipush (x := 200) dX5_find_5 (by decide) ?_
    refine zs_icmp_ge (tgt := 53) dX5_find_8 (by decide) (by omega) (by omega) (fun h8 => ?_) (fun h8 => ?_)
    · refine zs_ldc (x := -99999999) dX5_find_53 kX5_find_55 (by decide) ?_
      refine zs_iret dX5_find_55 rfl ?_
      obtain rfl : n = 0 := by omega
      exact ⟨hr, rfl⟩
    · obtain ⟨n', rfl⟩ : ∃ n', n = n' + 1 := ⟨n - 1, by omega⟩
      have hz := m_W_z hS hW (p := p) (by omega) (by omega)
      refine zs_aload_n dX5_find_11 rfl ?_
      refine zs_getr (j := 6) dX5_find_12 rfl rfl rfl (by decide) nX5_find_X5 fX5_find_25 ?_
      refine zs_iload dX5_find_15 rfl ?_
      refine zs_iaload dX5_find_17 rfl (by decide) (by omega) (by omega) ?_
      refine zs_iload_n dX5_find_18 rfl ?_
      refine zs_icmp_ne (tgt := 47) dX5_find_19 (by decide) (by omega) (by omega) (fun h19 => ?_) (fun h19 => ?_)
      · refine zs_iinc (lv' := [some (.inr 0), some (.inl (s)), some (.inl (k)), some (.inl (b)), some (.inl (p + 1))]) dX5_find_47 rfl (by decide) rfl ?_
        refine zs_goto (tgt := 3) dX5_find_50 (by decide) ?_
        simp only [z_fr, m_fd] at hr
        rw [if_neg (fun q => h19 q.1)] at hr
        exact ih n' (by omega) (p + 1) (by omega) (by omega) hr
      · have hP := (hW p (by omega) (by omega)).resolve_left (by omega)
        have hk1 := hP.2.1
        have hb1 := hP.2.2.1
        refine zs_aload_n dX5_find_22 rfl ?_
        refine zs_getr (j := 7) dX5_find_23 rfl rfl rfl (by decide) nX5_find_X5 fX5_find_28 ?_
        refine zs_iload dX5_find_26 rfl ?_
        refine zs_iaload dX5_find_28 rfl (by decide) (by omega) (by omega) ?_
        refine zs_iload_n dX5_find_29 rfl ?_
        refine zs_icmp_ne (tgt := 47) dX5_find_30 (by decide) (by omega) (by omega) (fun h30 => ?_) (fun h30 => ?_)
        · refine zs_iinc (lv' := [some (.inr 0), some (.inl (s)), some (.inl (k)), some (.inl (b)), some (.inl (p + 1))]) dX5_find_47 rfl (by decide) rfl ?_
          refine zs_goto (tgt := 3) dX5_find_50 (by decide) ?_
          simp only [z_fr, m_fd] at hr
          rw [if_neg (fun q => h30 q.2.1)] at hr
          exact ih n' (by omega) (p + 1) (by omega) (by omega) hr
        · refine zs_aload_n dX5_find_33 rfl ?_
          refine zs_getr (j := 8) dX5_find_34 rfl rfl rfl (by decide) nX5_find_X5 fX5_find_31 ?_
          refine zs_iload dX5_find_37 rfl ?_
          refine zs_iaload dX5_find_39 rfl (by decide) (by omega) (by omega) ?_
          refine zs_iload_n dX5_find_40 rfl ?_
          refine zs_icmp_ne (tgt := 47) dX5_find_41 (by decide) (by omega) (by omega) (fun h41 => ?_) (fun h41 => ?_)
          · refine zs_iinc (lv' := [some (.inr 0), some (.inl (s)), some (.inl (k)), some (.inl (b)), some (.inl (p + 1))]) dX5_find_47 rfl (by decide) rfl ?_
            refine zs_goto (tgt := 3) dX5_find_50 (by decide) ?_
            simp only [z_fr, m_fd] at hr
            rw [if_neg (fun q => h41 q.2.2)] at hr
            exact ih n' (by omega) (p + 1) (by omega) (by omega) hr
          · refine zs_iload dX5_find_44 rfl ?_
            refine zs_iret dX5_find_46 rfl ?_
            simp only [z_fr, m_fd] at hr
            rw [if_pos ⟨h19, h30, h41⟩] at hr
            exact ⟨hr, rfl⟩
set_option maxHeartbeats 4000000 in
set_option maxRecDepth 100000 in
theorem t_X5_find {w : zs_V} (s k b : Int) (hS : x_S w) (hW : m_W w) (hs : zn s ∧ ¬ s = -99999999) (hk : zn k) (hb : zn b) : zs_R mX5_find 0 0 shM (zs_X (m_fd w s k b z_Z) w) w 0 [some (.inr 0), some (.inl (s)), some (.inl (k)), some (.inl (b)), none] [] := by
  refine zs_iconst (x := 0) dX5_find_0 (by decide) ?_
  refine zs_istore (lv' := [some (.inr 0), some (.inl (s)), some (.inl (k)), some (.inl (b)), some (.inl (0))]) dX5_find_1 (by decide) rfl ?_
  exact l_X5_find hS hW hs hk hb 200 0 (by omega) (by omega) rfl
set_option maxHeartbeats 4000000 in
set_option maxRecDepth 100000 in
theorem t_X5_stamps {w : zs_V} (p : Int) (hp : 0 ≤ p ∧ p < 200) (hS : x_S w) (hs : 0 ≤ w 5 p ∧ w 5 p < w 15 0) : zs_R mX5_stamps 0 0 shM (zs_X 0 (m_stamp w p)) w 0 [some (.inr 0), some (.inl (p)), none] [] := by
  have hs1 := x_S_at hS hs.1 hs.2
  refine zs_aload_n dX5_stamps_0 rfl ?_
  refine zs_getr (j := 6) dX5_stamps_1 rfl rfl rfl (by decide) nX5_stamps_X5 fX5_stamps_25 ?_
  refine zs_iload_n dX5_stamps_4 rfl ?_
  refine zs_iaload dX5_stamps_5 rfl (by decide) (by omega) (by omega) ?_
  refine zs_istore_n (lv' := [some (.inr 0), some (.inl (p)), some (.inl (w 5 (p)))]) dX5_stamps_6 (by decide) rfl ?_
  refine zs_aload_n dX5_stamps_7 rfl ?_
  refine zs_getr (j := 10) dX5_stamps_8 rfl rfl rfl (by decide) nX5_stamps_X5 fX5_stamps_37 ?_
  refine zs_iload_n dX5_stamps_11 rfl ?_
  refine zs_aload_n dX5_stamps_12 rfl ?_
  refine zs_getr (j := 5) dX5_stamps_13 rfl rfl rfl (by decide) nX5_stamps_X5 fX5_stamps_22 ?_
  refine zs_aload_n dX5_stamps_16 rfl ?_
  refine zs_getr (j := 2) dX5_stamps_17 rfl rfl rfl (by decide) nX5_stamps_X5 fX5_stamps_13 ?_
  refine zs_iload_n dX5_stamps_20 rfl ?_
  refine zs_iaload dX5_stamps_21 rfl (by decide) (by omega) (by omega) ?_
  refine zs_iaload dX5_stamps_22 rfl (by decide) (by omega) (by omega) ?_
  refine zs_iastore dX5_stamps_23 rfl (by decide) (by decide) (by omega) (by omega) ?_
  refine zs_aload_n dX5_stamps_24 rfl ?_
  refine zs_getr (j := 11) dX5_stamps_25 rfl rfl rfl (by decide) nX5_stamps_X5 fX5_stamps_40 ?_
  refine zs_iload_n dX5_stamps_28 rfl ?_
  refine zs_aload_n dX5_stamps_29 rfl ?_
  refine zs_getr (j := 10) dX5_stamps_30 rfl rfl rfl (by decide) nX5_stamps_X5 fX5_stamps_37 ?_
  refine zs_iload_n dX5_stamps_33 rfl ?_
  refine zs_iaload dX5_stamps_34 rfl (by decide) (by omega) (by omega) ?_
  refine zs_aload_n dX5_stamps_35 rfl ?_
  refine zs_getr (j := 3) dX5_stamps_36 rfl rfl rfl (by decide) nX5_stamps_X5 fX5_stamps_16 ?_
  refine zs_iload_n dX5_stamps_39 rfl ?_
  refine zs_iaload dX5_stamps_40 rfl (by decide) (by omega) (by omega) ?_
  refine zs_iadd dX5_stamps_41 ?_
  refine zs_iastore dX5_stamps_42 rfl (by decide) (by decide) (by omega) (by omega) ?_
  refine zs_vret dX5_stamps_43 rfl ?_
  refine ⟨rfl, ?_⟩
  unfold m_stamp
  rw [zs_put_s]
  rfl
set_option maxHeartbeats 4000000 in
set_option maxRecDepth 100000 in
theorem t_X5_writes {w : zs_V} (p s k b x : Int) (hp : 0 ≤ p ∧ p < 200) (hS0 : x_S w) (hs0 : 0 ≤ s ∧ s < w 15 0) : zs_R mX5_writes 0 0 shM (zs_X 0 (m_wr w p s k b x)) w 0 [some (.inr 0), some (.inl (p)), some (.inl (s)), some (.inl (k)), some (.inl (b)), some (.inl (x))] [] := by
  refine zs_aload_n dX5_writes_0 rfl ?_
  refine zs_getr (j := 6) dX5_writes_1 rfl rfl rfl (by decide) nX5_writes_X5 fX5_writes_25 ?_
  refine zs_iload_n dX5_writes_4 rfl ?_
  refine zs_iload_n dX5_writes_5 rfl ?_
  refine zs_iastore dX5_writes_6 rfl (by decide) (by decide) (by omega) (by omega) ?_
  refine zs_aload_n dX5_writes_7 rfl ?_
  refine zs_getr (j := 7) dX5_writes_8 rfl rfl rfl (by decide) nX5_writes_X5 fX5_writes_28 ?_
  refine zs_iload_n dX5_writes_11 rfl ?_
  refine zs_iload_n dX5_writes_12 rfl ?_
  refine zs_iastore dX5_writes_13 rfl (by decide) (by decide) (by omega) (by omega) ?_
  refine zs_aload_n dX5_writes_14 rfl ?_
  refine zs_getr (j := 8) dX5_writes_15 rfl rfl rfl (by decide) nX5_writes_X5 fX5_writes_31 ?_
  refine zs_iload_n dX5_writes_18 rfl ?_
  refine zs_iload dX5_writes_19 rfl ?_
  refine zs_iastore dX5_writes_21 rfl (by decide) (by decide) (by omega) (by omega) ?_
  refine zs_aload_n dX5_writes_22 rfl ?_
  refine zs_getr (j := 9) dX5_writes_23 rfl rfl rfl (by decide) nX5_writes_X5 fX5_writes_34 ?_
  refine zs_iload_n dX5_writes_26 rfl ?_
  refine zs_iload dX5_writes_27 rfl ?_
  refine zs_iastore dX5_writes_29 rfl (by decide) (by decide) (by omega) (by omega) ?_
  refine zs_aload_n dX5_writes_30 rfl ?_
  refine zs_dup dX5_writes_31 ?_
  refine zs_geti (j := 13) dX5_writes_32 rfl rfl rfl (by decide) nX5_writes_X5 fX5_writes_76 ?_
  refine zs_iconst (x := 1) dX5_writes_35 (by decide) ?_
  refine zs_iadd dX5_writes_36 ?_
  refine zs_puti (j := 13) dX5_writes_37 rfl rfl (by decide) rfl (by decide) nX5_writes_X5 tyX5 tyX5_ok nmX5 rfl (by decide +kernel) fX5_writes_76 ?_
  refine zs_aload_n dX5_writes_40 rfl ?_
  refine zs_getr (j := 12) dX5_writes_41 rfl rfl rfl (by decide) nX5_writes_X5 fX5_writes_43 ?_
  refine zs_iload_n dX5_writes_44 rfl ?_
  refine zs_aload_n dX5_writes_45 rfl ?_
  refine zs_geti (j := 13) dX5_writes_46 rfl rfl rfl (by decide) nX5_writes_X5 fX5_writes_76 ?_
  refine zs_iastore dX5_writes_49 rfl (by decide) (by decide) (by omega) (by omega) ?_
  have hS : x_S (zs_put (zs_put (zs_put (zs_put (zs_put (zs_put w 5 (p) (s)) 6 (p) (k)) 7 (p) (b)) 8 (p) (x)) 16 0 (((zs_put (zs_put (zs_put (zs_put w 5 (p) (s)) 6 (p) (k)) 7 (p) (b)) 8 (p) (x)) 16 0) + (1))) 11 (p) ((zs_put (zs_put (zs_put (zs_put (zs_put w 5 (p) (s)) 6 (p) (k)) 7 (p) (b)) 8 (p) (x)) 16 0 (((zs_put (zs_put (zs_put (zs_put w 5 (p) (s)) 6 (p) (k)) 7 (p) (b)) 8 (p) (x)) 16 0) + (1))) 16 0)) := x_S_of rfl rfl rfl rfl rfl rfl hS0
  have hs : 0 ≤ (zs_put (zs_put (zs_put (zs_put (zs_put (zs_put w 5 (p) (s)) 6 (p) (k)) 7 (p) (b)) 8 (p) (x)) 16 0 (((zs_put (zs_put (zs_put (zs_put w 5 (p) (s)) 6 (p) (k)) 7 (p) (b)) 8 (p) (x)) 16 0) + (1))) 11 (p) ((zs_put (zs_put (zs_put (zs_put (zs_put w 5 (p) (s)) 6 (p) (k)) 7 (p) (b)) 8 (p) (x)) 16 0 (((zs_put (zs_put (zs_put (zs_put w 5 (p) (s)) 6 (p) (k)) 7 (p) (b)) 8 (p) (x)) 16 0) + (1))) 16 0)) 5 p ∧ (zs_put (zs_put (zs_put (zs_put (zs_put (zs_put w 5 (p) (s)) 6 (p) (k)) 7 (p) (b)) 8 (p) (x)) 16 0 (((zs_put (zs_put (zs_put (zs_put w 5 (p) (s)) 6 (p) (k)) 7 (p) (b)) 8 (p) (x)) 16 0) + (1))) 11 (p) ((zs_put (zs_put (zs_put (zs_put (zs_put w 5 (p) (s)) 6 (p) (k)) 7 (p) (b)) 8 (p) (x)) 16 0 (((zs_put (zs_put (zs_put (zs_put w 5 (p) (s)) 6 (p) (k)) 7 (p) (b)) 8 (p) (x)) 16 0) + (1))) 16 0)) 5 p < (zs_put (zs_put (zs_put (zs_put (zs_put (zs_put w 5 (p) (s)) 6 (p) (k)) 7 (p) (b)) 8 (p) (x)) 16 0 (((zs_put (zs_put (zs_put (zs_put w 5 (p) (s)) 6 (p) (k)) 7 (p) (b)) 8 (p) (x)) 16 0) + (1))) 11 (p) ((zs_put (zs_put (zs_put (zs_put (zs_put w 5 (p) (s)) 6 (p) (k)) 7 (p) (b)) 8 (p) (x)) 16 0 (((zs_put (zs_put (zs_put (zs_put w 5 (p) (s)) 6 (p) (k)) 7 (p) (b)) 8 (p) (x)) 16 0) + (1))) 16 0)) 15 0 := by
      rw [show (zs_put (zs_put (zs_put (zs_put (zs_put (zs_put w 5 (p) (s)) 6 (p) (k)) 7 (p) (b)) 8 (p) (x)) 16 0 (((zs_put (zs_put (zs_put (zs_put w 5 (p) (s)) 6 (p) (k)) 7 (p) (b)) 8 (p) (x)) 16 0) + (1))) 11 (p) ((zs_put (zs_put (zs_put (zs_put (zs_put w 5 (p) (s)) 6 (p) (k)) 7 (p) (b)) 8 (p) (x)) 16 0 (((zs_put (zs_put (zs_put (zs_put w 5 (p) (s)) 6 (p) (k)) 7 (p) (b)) 8 (p) (x)) 16 0) + (1))) 16 0)) 5 p = s from by show zs_put w 5 p s 5 p = s; exact zs_put_s _ _ _ _]
      exact hs0
  refine zs_aload_n dX5_writes_50 rfl ?_
  refine zs_iload_n dX5_writes_51 rfl ?_
  refine zs_eVv (As := [.inl (p)]) (rest := []) (q := 0) dX5_writes_52 rfl (Nat.le_of_ble_eq_true rfl) rfl rfl YX5_stamps rfl rfl (Nat.le_of_ble_eq_true rfl) gX5_writes_X5_stamps (by decide) ⟨Nat.zero_le _, Nat.zero_le _⟩ rfl (t_X5_stamps (w := (zs_put (zs_put (zs_put (zs_put (zs_put (zs_put w 5 (p) (s)) 6 (p) (k)) 7 (p) (b)) 8 (p) (x)) 16 0 (((zs_put (zs_put (zs_put (zs_put w 5 (p) (s)) 6 (p) (k)) 7 (p) (b)) 8 (p) (x)) 16 0) + (1))) 11 (p) ((zs_put (zs_put (zs_put (zs_put (zs_put w 5 (p) (s)) 6 (p) (k)) 7 (p) (b)) 8 (p) (x)) 16 0 (((zs_put (zs_put (zs_put (zs_put w 5 (p) (s)) 6 (p) (k)) 7 (p) (b)) 8 (p) (x)) 16 0) + (1))) 16 0))) (p) (by omega) hS hs) ?_
  refine zs_vret dX5_writes_55 rfl ?_
  exact ⟨rfl, rfl⟩
set_option maxHeartbeats 4000000 in
set_option maxRecDepth 100000 in
theorem t_X5_read {w : zs_V} (p : Int) (hp : 0 ≤ p ∧ p < 200) (hS : x_S w) (hs : 0 ≤ w 5 p ∧ w 5 p < w 15 0) : zs_R mX5_read 0 0 shM (zs_X (w 8 p) (m_read w p)) w 0 [some (.inr 0), some (.inl (p))] [] := by
  have hs1 := x_S_at hS hs.1 hs.2
  refine zs_aload_n dX5_read_0 rfl ?_
  refine zs_getr (j := 4) dX5_read_1 rfl rfl rfl (by decide) nX5_read_X5 fX5_read_19 ?_
  refine zs_aload_n dX5_read_4 rfl ?_
  refine zs_getr (j := 6) dX5_read_5 rfl rfl rfl (by decide) nX5_read_X5 fX5_read_25 ?_
  refine zs_iload_n dX5_read_8 rfl ?_
  refine zs_iaload dX5_read_9 rfl (by decide) (by omega) (by omega) ?_
  refine zs_iaload dX5_read_10 rfl (by decide) (by omega) (by omega) ?_
  refine zs_iconst (x := 1) dX5_read_11 (by decide) ?_
  refine zs_icmp_ne (tgt := 20) dX5_read_12 (by decide) (by omega) (by omega) (fun h12 => ?_) (fun h12 => ?_)
  · refine zs_aload_n dX5_read_20 rfl ?_
    refine zs_getr (j := 9) dX5_read_21 rfl rfl rfl (by decide) nX5_read_X5 fX5_read_34 ?_
    refine zs_iload_n dX5_read_24 rfl ?_
    refine zs_iaload dX5_read_25 rfl (by decide) (by omega) (by omega) ?_
    refine zs_iret dX5_read_26 rfl ?_
    exact ⟨rfl, by unfold m_read; rw [if_neg h12]⟩
  · refine zs_aload_n dX5_read_15 rfl ?_
    refine zs_iload_n dX5_read_16 rfl ?_
    refine zs_eVv (As := [.inl (p)]) (rest := []) (q := 0) dX5_read_17 rfl (Nat.le_of_ble_eq_true rfl) rfl rfl YX5_stamps rfl rfl (Nat.le_of_ble_eq_true rfl) gX5_read_X5_stamps (by decide) ⟨Nat.zero_le _, Nat.zero_le _⟩ rfl (t_X5_stamps (w := w) (p) (by omega) hS hs) ?_
    refine zs_aload_n dX5_read_20 rfl ?_
    refine zs_getr (j := 9) dX5_read_21 rfl rfl rfl (by decide) nX5_read_X5 fX5_read_34 ?_
    refine zs_iload_n dX5_read_24 rfl ?_
    refine zs_iaload dX5_read_25 rfl (by decide) (by omega) (by omega) ?_
    refine zs_iret dX5_read_26 rfl ?_
    exact ⟨rfl, by unfold m_read; rw [if_pos h12]⟩

theorem m_shift_step (w : zs_V) (n : Int) (h : 0 ≤ n) : zs_put (m_shift w n) 12 n ((m_shift w n) 12 (n + 6)) = m_shift w (n + 1) := by
  have e : (m_shift w n) 12 (n + 6) = w 12 (n + 6) := by
    unfold m_shift
    rw [if_neg (by omega)]
  rw [e]
  funext r j
  unfold zs_put m_shift
  by_cases h1 : r = 12
  · subst h1
    by_cases h2 : j = n
    · subst h2
      rw [if_pos rfl, if_pos rfl, if_pos ⟨rfl, h, by omega⟩]
    · rw [if_pos rfl, if_neg h2]
      by_cases h3 : 0 ≤ j ∧ j < n
      · rw [if_pos ⟨rfl, h3⟩, if_pos ⟨rfl, h3.1, by omega⟩]
      · rw [if_neg (fun z => h3 z.2), if_neg (fun z => h3 ⟨z.2.1, by have := z.2.2; omega⟩)]
  · rw [if_neg h1, if_neg (fun z => h1 z.1), if_neg (fun z => h1 z.1)]
theorem m_shift_0 (w : zs_V) : m_shift w 0 = w := by
  funext r j
  unfold m_shift
  rw [if_neg (by omega)]
theorem m_shift_r (w : zs_V) (n : Int) {r : Nat} (h : r ≠ 12) : m_shift w n r = w r := by
  funext j
  unfold m_shift
  rw [if_neg (fun z => h z.1)]
set_option maxHeartbeats 4000000 in
set_option maxRecDepth 100000 in
theorem l_X5_tellsB {u : zs_V} (p : Int) (x2 : Option zs_A) (hp : 0 ≤ p ∧ p < 200) (hr : 0 ≤ u 18 0 ∧ u 18 0 < 150) : zs_R mX5_tells 0 0 shM (zs_X 0 (m_tB u (6 * u 18 0) p)) u 47 [some (.inr 0), some (.inl (p)), x2] [] := by
  refine zs_bipush (x := 6) dX5_tells_47 (by decide) ?_
  refine zs_aload_n dX5_tells_49 rfl ?_
  refine zs_geti (j := 16) dX5_tells_50 rfl rfl rfl (by decide) nX5_tells_X5 fX5_tells_83 ?_
  refine zs_imul dX5_tells_53 ?_
  refine zs_istore_n (lv' := [some (.inr 0), some (.inl (p)), some (.inl ((6) * (u 18 0)))]) dX5_tells_54 (by decide) rfl ?_
  refine zs_aload_n dX5_tells_55 rfl ?_
  refine zs_getr (j := 15) dX5_tells_56 rfl rfl rfl (by decide) nX5_tells_X5 fX5_tells_46 ?_
  refine zs_iload_n dX5_tells_59 rfl ?_
  refine zs_aload_n dX5_tells_60 rfl ?_
  refine zs_getr (j := 6) dX5_tells_61 rfl rfl rfl (by decide) nX5_tells_X5 fX5_tells_25 ?_
  refine zs_iload_n dX5_tells_64 rfl ?_
  refine zs_iaload dX5_tells_65 rfl (by decide) (by omega) (by omega) ?_
  refine zs_iastore dX5_tells_66 rfl (by decide) (by decide) (by omega) (by omega) ?_
  refine zs_aload_n dX5_tells_67 rfl ?_
  refine zs_getr (j := 15) dX5_tells_68 rfl rfl rfl (by decide) nX5_tells_X5 fX5_tells_46 ?_
  refine zs_iload_n dX5_tells_71 rfl ?_
  refine zs_iconst (x := 1) dX5_tells_72 (by decide) ?_
  refine zs_iadd dX5_tells_73 ?_
  refine zs_aload_n dX5_tells_74 rfl ?_
  refine zs_getr (j := 7) dX5_tells_75 rfl rfl rfl (by decide) nX5_tells_X5 fX5_tells_28 ?_
  refine zs_iload_n dX5_tells_78 rfl ?_
  refine zs_iaload dX5_tells_79 rfl (by decide) (by omega) (by omega) ?_
  refine zs_iastore dX5_tells_80 rfl (by decide) (by decide) (by omega) (by omega) ?_
  refine zs_aload_n dX5_tells_81 rfl ?_
  refine zs_getr (j := 15) dX5_tells_82 rfl rfl rfl (by decide) nX5_tells_X5 fX5_tells_46 ?_
  refine zs_iload_n dX5_tells_85 rfl ?_
  refine zs_iconst (x := 2) dX5_tells_86 (by decide) ?_
  refine zs_iadd dX5_tells_87 ?_
  refine zs_aload_n dX5_tells_88 rfl ?_
  refine zs_getr (j := 8) dX5_tells_89 rfl rfl rfl (by decide) nX5_tells_X5 fX5_tells_31 ?_
  refine zs_iload_n dX5_tells_92 rfl ?_
  refine zs_iaload dX5_tells_93 rfl (by decide) (by omega) (by omega) ?_
  refine zs_iastore dX5_tells_94 rfl (by decide) (by decide) (by omega) (by omega) ?_
  refine zs_aload_n dX5_tells_95 rfl ?_
  refine zs_getr (j := 15) dX5_tells_96 rfl rfl rfl (by decide) nX5_tells_X5 fX5_tells_46 ?_
  refine zs_iload_n dX5_tells_99 rfl ?_
  refine zs_iconst (x := 3) dX5_tells_100 (by decide) ?_
  refine zs_iadd dX5_tells_101 ?_
  refine zs_aload_n dX5_tells_102 rfl ?_
  refine zs_getr (j := 9) dX5_tells_103 rfl rfl rfl (by decide) nX5_tells_X5 fX5_tells_34 ?_
  refine zs_iload_n dX5_tells_106 rfl ?_
  refine zs_iaload dX5_tells_107 rfl (by decide) (by omega) (by omega) ?_
  refine zs_iastore dX5_tells_108 rfl (by decide) (by decide) (by omega) (by omega) ?_
  refine zs_aload_n dX5_tells_109 rfl ?_
  refine zs_getr (j := 15) dX5_tells_110 rfl rfl rfl (by decide) nX5_tells_X5 fX5_tells_46 ?_
  refine zs_iload_n dX5_tells_113 rfl ?_
  refine zs_iconst (x := 4) dX5_tells_114 (by decide) ?_
  refine zs_iadd dX5_tells_115 ?_
  refine zs_aload_n dX5_tells_116 rfl ?_
  refine zs_getr (j := 11) dX5_tells_117 rfl rfl rfl (by decide) nX5_tells_X5 fX5_tells_40 ?_
  refine zs_iload_n dX5_tells_120 rfl ?_
  refine zs_iaload dX5_tells_121 rfl (by decide) (by omega) (by omega) ?_
  refine zs_iastore dX5_tells_122 rfl (by decide) (by decide) (by omega) (by omega) ?_
  refine zs_aload_n dX5_tells_123 rfl ?_
  refine zs_getr (j := 15) dX5_tells_124 rfl rfl rfl (by decide) nX5_tells_X5 fX5_tells_46 ?_
  refine zs_iload_n dX5_tells_127 rfl ?_
  refine zs_iconst (x := 5) dX5_tells_128 (by decide) ?_
  refine zs_iadd dX5_tells_129 ?_
  refine zs_aload_n dX5_tells_130 rfl ?_
  refine zs_getr (j := 5) dX5_tells_131 rfl rfl rfl (by decide) nX5_tells_X5 fX5_tells_22 ?_
  refine zs_iconst (x := 0) dX5_tells_134 (by decide) ?_
  refine zs_iaload dX5_tells_135 rfl (by decide) (by omega) (by omega) ?_
  refine zs_iastore dX5_tells_136 rfl (by decide) (by decide) (by omega) (by omega) ?_
  refine zs_aload_n dX5_tells_137 rfl ?_
  refine zs_dup dX5_tells_138 ?_
  refine zs_geti (j := 16) dX5_tells_139 rfl rfl rfl (by decide) nX5_tells_X5 fX5_tells_83 ?_
  refine zs_iconst (x := 1) dX5_tells_142 (by decide) ?_
  refine zs_iadd dX5_tells_143 ?_
  refine zs_puti (j := 16) dX5_tells_144 rfl rfl (by decide) rfl (by decide) nX5_tells_X5 tyX5 tyX5_ok nmX5 rfl (by decide +kernel) fX5_tells_83 ?_
  refine zs_aload_n dX5_tells_147 rfl ?_
  refine zs_dup dX5_tells_148 ?_
  refine zs_geti (j := 17) dX5_tells_149 rfl rfl rfl (by decide) nX5_tells_X5 fX5_tells_86 ?_
  refine zs_iconst (x := 1) dX5_tells_152 (by decide) ?_
  refine zs_iadd dX5_tells_153 ?_
  refine zs_puti (j := 17) dX5_tells_154 rfl rfl (by decide) rfl (by decide) nX5_tells_X5 tyX5 tyX5_ok nmX5 rfl (by decide +kernel) fX5_tells_86 ?_
  refine zs_vret dX5_tells_157 rfl ?_
  exact ⟨rfl, rfl⟩
set_option maxHeartbeats 4000000 in
set_option maxRecDepth 100000 in
theorem l_X5_tellsA {w : zs_V} (p : Int) (hp : 0 ≤ p ∧ p < 200) : ∀ (n : Nat) (i : Int), 0 ≤ i → i + n = 894 → zs_R mX5_tells 0 0 shM (zs_X 0 (m_tB (zs_put (m_shift w 894) 18 0 149) (6 * 149) p)) (m_shift w i) 12 [some (.inr 0), some (.inl (p)), some (.inl (i))] [] := by
  intro n
  induction n using Nat.strongRecOn with
  | ind n ih =>
    intro i h0 hn
    refine zs_iload_n dX5_tells_12 rfl ?_
    refine zs_sipush (x := 894) dX5_tells_13 (by decide) ?_
    refine zs_icmp_ge (tgt := 40) dX5_tells_16 (by decide) (by omega) (by omega) (fun h16 => ?_) (fun h16 => ?_)
    · refine zs_aload_n dX5_tells_40 rfl ?_
      refine zs_sipush (x := 149) dX5_tells_41 (by decide) ?_
      refine zs_puti (j := 16) dX5_tells_44 rfl rfl (by decide) rfl (by decide) nX5_tells_X5 tyX5 tyX5_ok nmX5 rfl (by decide +kernel) fX5_tells_83 ?_
      obtain rfl : i = 894 := by omega
      exact l_X5_tellsB (u := zs_put (m_shift w 894) 18 0 149) p _ hp (by rw [zs_put_s]; omega)
    · refine zs_aload_n dX5_tells_19 rfl ?_
      refine zs_getr (j := 15) dX5_tells_20 rfl rfl rfl (by decide) nX5_tells_X5 fX5_tells_46 ?_
      refine zs_iload_n dX5_tells_23 rfl ?_
      refine zs_aload_n dX5_tells_24 rfl ?_
      refine zs_getr (j := 15) dX5_tells_25 rfl rfl rfl (by decide) nX5_tells_X5 fX5_tells_46 ?_
      refine zs_iload_n dX5_tells_28 rfl ?_
      refine zs_bipush (x := 6) dX5_tells_29 (by decide) ?_
      refine zs_iadd dX5_tells_31 ?_
      refine zs_iaload dX5_tells_32 rfl (by decide) (by omega) (by omega) ?_
      refine zs_iastore dX5_tells_33 rfl (by decide) (by decide) (by omega) (by omega) ?_
      refine zs_iinc (lv' := [some (.inr 0), some (.inl (p)), some (.inl (i + 1))]) dX5_tells_34 rfl (by decide) rfl ?_
      refine zs_goto (tgt := 12) dX5_tells_37 (by decide) ?_
      rw [m_shift_step w i h0]
      exact ih (n - 1) (by omega) (i + 1) (by omega) (by omega)
set_option maxHeartbeats 4000000 in
set_option maxRecDepth 100000 in
theorem t_X5_tells {w : zs_V} (p : Int) (hp : 0 ≤ p ∧ p < 200) (hr : 0 ≤ w 18 0 ∧ w 18 0 ≤ 150) : zs_R mX5_tells 0 0 shM (zs_X 0 (m_tell w p)) w 0 [some (.inr 0), some (.inl (p)), none] [] := by
  refine zs_aload_n dX5_tells_0 rfl ?_
  refine zs_geti (j := 16) dX5_tells_1 rfl rfl rfl (by decide) nX5_tells_X5 fX5_tells_83 ?_
  refine zs_sipush (x := 150) dX5_tells_4 (by decide) ?_
  refine zs_icmp_ne (tgt := 47) dX5_tells_7 (by decide) (by omega) (by omega) (fun h7 => ?_) (fun h7 => ?_)
  · have e : m_tell w p = m_tB w (6 * w 18 0) p := by unfold m_tell m_ts; rw [if_neg h7]
    rw [e]
    exact l_X5_tellsB p _ hp (by omega)
  · refine zs_iconst (x := 0) dX5_tells_10 (by decide) ?_
    refine zs_istore_n (lv' := [some (.inr 0), some (.inl (p)), some (.inl (0))]) dX5_tells_11 (by decide) rfl ?_
    have e : m_tell w p = m_tB (zs_put (m_shift w 894) 18 0 149) (6 * 149) p := by unfold m_tell m_ts; rw [if_pos h7, zs_put_s]
    rw [e]
    have h := l_X5_tellsA (w := w) p hp 894 0 (by omega) (by omega)
    rw [m_shift_0] at h
    exact h
