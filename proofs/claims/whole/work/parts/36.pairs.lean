
/-! restore -/
def m_rsI (w : zs_V) (m : Int) (u : zs_V) (p : Int) : Prop := (∀ r, r ≠ 5 → r ≠ 6 → r ≠ 7 → r ≠ 8 → r ≠ 9 → r ≠ 10 → r ≠ 11 → r ≠ 16 → u r = w r) ∧ u 16 0 = w 16 0 + p ∧ (∀ q : Int, 0 ≤ q → q < 200 → u 5 q = if q < p then w 14 (1000 * m + 5 * q) else -99999999) ∧ ∀ q : Int, 0 ≤ q → q < p → u 6 q = w 14 (1000 * m + 5 * q + 1) ∧ u 7 q = w 14 (1000 * m + 5 * q + 2) ∧ u 8 q = w 14 (1000 * m + 5 * q + 3) ∧ u 9 q = w 4 (w 1 (w 14 (1000 * m + 5 * q))) ∧ u 10 q = w 4 (w 1 (w 14 (1000 * m + 5 * q))) + w 14 (1000 * m + 5 * q + 4) ∧ u 11 q = w 16 0 + q + 1
theorem m_rs_step {w u : zs_V} {m p : Int} (h : m_rsI w m u p) (hp : 0 ≤ p) : m_rsI w m (m_re u m p) (p + 1) := by
  obtain ⟨i1, i2, i3, i4⟩ := h
  have e14 := i1 14 (by decide) (by decide) (by decide) (by decide) (by decide) (by decide) (by decide) (by decide)
  have e4 := i1 4 (by decide) (by decide) (by decide) (by decide) (by decide) (by decide) (by decide) (by decide)
  have e1 := i1 1 (by decide) (by decide) (by decide) (by decide) (by decide) (by decide) (by decide) (by decide)
  unfold m_re
  rw [e14]
  have hs : (m_wr u p (w 14 (1000 * m + 5 * p)) (w 14 (1000 * m + 5 * p + 1)) (w 14 (1000 * m + 5 * p + 2)) (w 14 (1000 * m + 5 * p + 3))) 9 p = w 4 (w 1 (w 14 (1000 * m + 5 * p))) := by
    rw [m_wr_9, if_pos rfl, e4, e1]
  rw [hs]
  refine ⟨fun r a b c d e f g k => ?_, ?_, fun q q0 q1 => ?_, fun q q0 q1 => ?_⟩
  · rw [zs_put_r _ _ _ _ f, m_wr_r u p _ _ _ _ a b c d e f g k]
    exact i1 r a b c d e f g k
  · show u 16 0 + 1 = w 16 0 + (p + 1)
    omega
  · rw [zs_put_r _ _ _ _ (by decide), m_wr_5]
    by_cases e : q = p
    · rw [if_pos e, if_pos (by omega), e]
    · rw [if_neg e, i3 q q0 q1]
      by_cases c : q < p
      · rw [if_pos c, if_pos (by omega)]
      · rw [if_neg c, if_neg (by omega)]
  · rw [zs_put_r _ _ _ _ (by decide : 6 ≠ 10), zs_put_r _ _ _ _ (by decide : 7 ≠ 10), zs_put_r _ _ _ _ (by decide : 8 ≠ 10), zs_put_r _ _ _ _ (by decide : 9 ≠ 10), zs_put_r _ _ _ _ (by decide : 11 ≠ 10), zs_put_e, m_wr_6, m_wr_7, m_wr_8, m_wr_9, m_wr_10, m_wr_11]
    by_cases e : q = p
    · subst e
      rw [if_pos rfl, if_pos rfl, if_pos rfl, if_pos rfl, if_pos rfl, if_pos rfl, e4, e1]
      exact ⟨rfl, rfl, rfl, rfl, rfl, by omega⟩
    · rw [if_neg e, if_neg e, if_neg e, if_neg e, if_neg e, if_neg e, if_neg e]
      exact i4 q q0 (by omega)
theorem m_rs_c {w : zs_V} {m : Int} (n : Nat) : ∀ {u : zs_V} {p : Int}, m_rsI w m u p → 0 ≤ p → m_rsI w m (m_rs m n p u) (p + n) := by
  induction n with
  | zero =>
    intro u p h _
    show m_rsI w m u (p + 0)
    rw [show p + 0 = p by omega]
    exact h
  | succ n ih =>
    intro u p h h0
    have := ih (m_rs_step h h0) (by omega)
    rw [show p + 1 + (n : Int) = p + ((n + 1 : Nat) : Int) by omega] at this
    exact this
theorem m_rs_0 (w : zs_V) (m : Int) : m_rsI w m (zs_fill w 5 0 200 (-99999999)) 0 := by
  refine ⟨fun r a b c d e f g k => ?_, ?_, fun q q0 q1 => ?_, fun q q0 q1 => absurd q1 (by omega)⟩
  · funext j
    unfold zs_fill
    rw [if_neg (fun z => a z.1)]
  · unfold zs_fill
    rw [if_neg (fun z => absurd z.1 (by decide))]
    omega
  · rw [if_neg (by omega)]
    unfold zs_fill
    rw [if_pos ⟨rfl, q0, q1⟩]
theorem z_up_i {n : Nat} {q : Int} : q ∈ z_up n ↔ 0 ≤ q ∧ q < n := by
  refine ⟨z_up_m, fun h => ?_⟩
  induction n with
  | zero => omega
  | succ n ih =>
    simp only [z_up, List.mem_append, List.mem_singleton]
    by_cases e : q = n
    · exact Or.inr e
    · exact Or.inl (ih (by omega))
theorem z_up_p (n : Nat) : (z_up n).Pairwise (fun a b => a < b) := by
  induction n with
  | zero => exact List.Pairwise.nil
  | succ n ih =>
    simp only [z_up]
    refine List.pairwise_append.mpr ⟨ih, List.pairwise_singleton _ _, fun a ha b hb => ?_⟩
    have := z_up_m ha
    rw [List.mem_singleton.mp hb]
    omega
theorem RR_restore {c : Int} {v w v' : zs_V} (h : RR c v w) {m r : Int} (hX : x_Res v m r v') : RR (c + 200) v' (m_resS w m) ∧ r = m_resR w m := by
  unfold m_resS m_resR
  rcases hX with ⟨c1, rfl, rfl⟩ | ⟨c1, c2, rfl, rfl⟩ | ⟨c1, c2, rfl, u, hu, rfl⟩
  · rw [if_neg c1, if_neg c1]
    exact ⟨RR_le h (by omega), rfl⟩
  · have hn : w 13 m = -99999999 := by
      rcases h.2.2.2.2.2.1 m c1.1 c1.2 with z | z
      · exact z.2
      · omega
    rw [if_pos c1, if_pos c1, if_pos hn, if_pos hn]
    exact ⟨RR_le h (by omega), rfl⟩
  · obtain ⟨hA, hB, hL, hQ, hR, hK, hE, hc⟩ := h
    obtain ⟨z1, z2, z3, z4⟩ := (hK m c1.1 c1.2).resolve_left (fun z => c2 z.1)
    have hn : ¬ w 13 m = -99999999 := by omega
    rw [if_pos c1, if_pos c1, if_neg hn, if_neg hn, z2]
    refine ⟨?_, rfl⟩
    have hi := m_rs_c (v 14 m).toNat (m_rs_0 w m) (by omega)
    rw [show (0 : Int) + ((v 14 m).toNat : Int) = v 14 m by omega] at hi
    generalize m_rs m (v 14 m).toNat 0 (zs_fill w 5 0 200 (-99999999)) = t at hi ⊢
    obtain ⟨b, b16, b5, bq⟩ := hi
    obtain ⟨a, a16, aL, a5, aq⟩ := hu
    have hAu : r_A u t := r_A_of hA (a 0 (by decide) (by decide) (by decide) (by decide) (by decide) (by decide)) (a 1 (by decide) (by decide) (by decide) (by decide) (by decide) (by decide)) (a 2 (by decide) (by decide) (by decide) (by decide) (by decide) (by decide)) (a 3 (by decide) (by decide) (by decide) (by decide) (by decide) (by decide)) (a 4 (by decide) (by decide) (by decide) (by decide) (by decide) (by decide)) (a 15 (by decide) (by decide) (by decide) (by decide) (by decide) (by decide)) (b 0 (by decide) (by decide) (by decide) (by decide) (by decide) (by decide) (by decide) (by decide)) (b 1 (by decide) (by decide) (by decide) (by decide) (by decide) (by decide) (by decide) (by decide)) (b 2 (by decide) (by decide) (by decide) (by decide) (by decide) (by decide) (by decide) (by decide)) (b 3 (by decide) (by decide) (by decide) (by decide) (by decide) (by decide) (by decide) (by decide)) (b 4 (by decide) (by decide) (by decide) (by decide) (by decide) (by decide) (by decide) (by decide)) (b 15 (by decide) (by decide) (by decide) (by decide) (by decide) (by decide) (by decide) (by decide))
    have exL : x_L (zs_put u 20 0 0) = z_up (v 14 m).toNat := by
      rw [x_L_of (u := zs_put u 20 0 0) (v := u) rfl rfl]
      exact aL
    have hsl : ∀ q : Int, 0 ≤ q → q < v 14 m → u 5 q = v 11 (m * 200 + q) := fun q q0 q1 => by
      rw [a5 q q0 (by omega), if_pos q1]
    have hst : ∀ q : Int, 0 ≤ q → q < v 14 m → t 5 q = w 14 (1000 * m + 5 * q) := fun q q0 q1 => by
      rw [b5 q q0 (by omega), if_pos q1]
    have key : ∀ q1 q2 : Int, 0 ≤ q1 → q1 < q2 → q2 < v 14 m → u 5 q1 = u 5 q2 → ¬ w 0 (t 5 q1) = 0 := fun q1 q2 h0 h1 h2 e hf => by
      rw [hsl q1 h0 (by omega), hsl q2 (by omega) h2] at e
      rw [hst q1 h0 (by omega)] at hf
      rcases z4 q1 q2 h0 h1 h2 with y | y
      · omega
      · omega
    refine ⟨r_A_of hAu rfl rfl rfl rfl rfl rfl rfl rfl rfl rfl rfl rfl, fun q q0 q1 => ?_, ⟨?_, fun q => ?_, ?_⟩, fun q1 q2 m1 m2 e hf => ?_, r_R_of hR (a 10 (by decide) (by decide) (by decide) (by decide) (by decide) (by decide)) (a 17 (by decide) (by decide) (by decide) (by decide) (by decide) (by decide)) (a 18 (by decide) (by decide) (by decide) (by decide) (by decide) (by decide)) (a 19 (by decide) (by decide) (by decide) (by decide) (by decide) (by decide)) (b 12 (by decide) (by decide) (by decide) (by decide) (by decide) (by decide) (by decide) (by decide)) (b 18 (by decide) (by decide) (by decide) (by decide) (by decide) (by decide) (by decide) (by decide)) (b 19 (by decide) (by decide) (by decide) (by decide) (by decide) (by decide) (by decide) (by decide)), r_K_of hK (a 11 (by decide) (by decide) (by decide) (by decide) (by decide) (by decide)) (a 12 (by decide) (by decide) (by decide) (by decide) (by decide) (by decide)) (a 13 (by decide) (by decide) (by decide) (by decide) (by decide) (by decide)) (a 14 (by decide) (by decide) (by decide) (by decide) (by decide) (by decide)) (b 0 (by decide) (by decide) (by decide) (by decide) (by decide) (by decide) (by decide) (by decide)) (b 13 (by decide) (by decide) (by decide) (by decide) (by decide) (by decide) (by decide) (by decide)) (b 14 (by decide) (by decide) (by decide) (by decide) (by decide) (by decide) (by decide) (by decide)) (b 15 (by decide) (by decide) (by decide) (by decide) (by decide) (by decide) (by decide) (by decide)), ⟨?_, ?_⟩, ?_⟩
    · show (u 5 q = -1 ∧ t 5 q = -99999999) ∨ _
      by_cases e : q < v 14 m
      · right
        obtain ⟨m1, m2, m3, m4, m5, m6, m7, m8⟩ := z3 q q0 e
        obtain ⟨k1, k2, k3⟩ := aq q q0 e
        obtain ⟨l1, l2, l3, l4, l5, l6⟩ := bq q q0 e
        have hs := x_S_at (r_A_w hA) m1.1 m1.2
        have et : x_tq v m q = w 4 (w 1 (w 14 (1000 * m + 5 * q))) := by
          unfold x_tq
          have hd : v 11 (m * 200 + q) / 1000 = w 14 (1000 * m + 5 * q) := by omega
          rw [hd, hA.2.2.1, hA.2.2.2.2.2.1]
        have ec : m_clk t q = w 4 (w 1 (w 14 (1000 * m + 5 * q))) := by
          unfold m_clk
          rw [hst q q0 e, b 4 (by decide) (by decide) (by decide) (by decide) (by decide) (by decide) (by decide) (by decide), b 1 (by decide) (by decide) (by decide) (by decide) (by decide) (by decide) (by decide) (by decide)]
        have e15 : t 15 0 = w 15 0 := by rw [b 15 (by decide) (by decide) (by decide) (by decide) (by decide) (by decide) (by decide) (by decide)]
        show u 5 q = t 5 q * 1000 + t 6 q * 10 + t 7 q ∧ (0 ≤ t 5 q ∧ t 5 q < t 15 0) ∧ (0 ≤ t 6 q ∧ t 6 q < 100) ∧ (0 ≤ t 7 q ∧ t 7 q < 10) ∧ (t 0 (t 5 q) = 1 → t 7 q = 0) ∧ u 6 q = t 8 q ∧ u 7 q = t 9 q ∧ u 8 q = t 10 q ∧ (0 ≤ t 9 q ∧ t 9 q ≤ m_clk t q) ∧ (0 ≤ t 10 q ∧ t 10 q ≤ m_clk t q + 100000) ∧ 0 ≤ t 11 q ∧ t 11 q ≤ t 16 0
        rw [ec, hsl q q0 e, hst q q0 e, l1, l2, l3, l4, l5, l6, k1, k2, k3, et, e15, b16, b 0 (by decide) (by decide) (by decide) (by decide) (by decide) (by decide) (by decide) (by decide)]
        refine ⟨m5, m1, m2, m3, m4, m6, rfl, by omega, ?_, ?_, ?_, ?_⟩ <;> omega
      · left
        rw [a5 q q0 q1, if_neg e, b5 q q0 q1, if_neg e]
        exact ⟨rfl, rfl⟩
    · show 0 ≤ u 16 0 ∧ u 16 0 ≤ 200
      rw [a16]
      exact z1
    · rw [exL, z_up_i]
      show _ ↔ (0 ≤ q ∧ q < 200 ∧ ¬ u 5 q = -1)
      constructor
      · rintro ⟨y1, y2⟩
        refine ⟨y1, by omega, ?_⟩
        rw [hsl q y1 (by omega)]
        have := (z3 q y1 (by omega)).2.2.2.2.1
        obtain ⟨m1, m2, m3, -⟩ := z3 q y1 (by omega)
        omega
      · rintro ⟨y1, y2, y3⟩
        rw [a5 q y1 y2] at y3
        by_cases e : q < v 14 m
        · exact ⟨y1, by omega⟩
        · rw [if_neg e] at y3
          exact absurd rfl y3
    · rw [exL]
      refine List.Pairwise.imp_of_mem (fun {x y} hx hy z => ?_) (z_up_p (v 14 m).toNat)
      have h1 := z_up_m hx
      have h2 := z_up_m hy
      show u 5 x < u 5 y ∨ (u 5 x = u 5 y ∧ t 11 x < t 11 y)
      obtain ⟨-, -, -, -, -, l6⟩ := bq x h1.1 (by omega)
      obtain ⟨-, -, -, -, -, l7⟩ := bq y h2.1 (by omega)
      rw [hsl x h1.1 (by omega), hsl y h2.1 (by omega), l6, l7]
      rcases z4 x y h1.1 z (by omega) with q | q
      · exact Or.inl q
      · exact Or.inr ⟨q.1, by omega⟩
    · rw [exL] at m1 m2
      have h1 := z_up_m m1
      have h2 := z_up_m m2
      have e : u 5 q1 = u 5 q2 := e
      have hf : t 0 (t 5 q1) = 0 := hf
      rw [b 0 (by decide) (by decide) (by decide) (by decide) (by decide) (by decide) (by decide) (by decide)] at hf
      rcases (show q1 < q2 ∨ q1 = q2 ∨ q2 < q1 by omega) with y | y | y
      · exact absurd hf (key q1 q2 h1.1 y (by omega) e)
      · exact y
      · exfalso
        have hst1 := hst q1 h1.1 (by omega)
        have hst2 := hst q2 h2.1 (by omega)
        have es1 := hsl q1 h1.1 (by omega)
        have es2 := hsl q2 h2.1 (by omega)
        obtain ⟨m1, m2, m3, m4, m5, -⟩ := z3 q1 h1.1 (by omega)
        obtain ⟨n1, n2, n3, n4, n5, -⟩ := z3 q2 h2.1 (by omega)
        have hss : t 5 q1 = t 5 q2 := by omega
        rw [hss] at hf
        exact key q2 q1 h2.1 y (by omega) e.symm hf
    · rw [zs_put_s, zs_put_s]
    · rw [zs_put_s]
      exact ⟨by omega, by omega⟩
    · show 0 ≤ t 16 0 ∧ t 16 0 ≤ c + 200
      rw [b16]
      omega
/-! the methods, class and reference side by side -/
theorem r_nu {v w : zs_V} (hA : r_A v w) (s k m : Int) : (((0 ≤ s ∧ s < v 15 0) ∧ 0 ≤ k ∧ k < 100) ∧ ¬ v 0 s = 1 ∧ 0 ≤ m ∧ m < 10) ↔ (((0 ≤ s ∧ s < w 15 0) ∧ 0 ≤ k ∧ k < 100) ∧ ¬ w 0 s = 1 ∧ 0 ≤ m ∧ m < 10) := by rw [hA.2.1, hA.2.2.2.2.2.2]
theorem r_nu0 {w : zs_V} (hS : x_S w) {s k m : Int} (h : (((0 ≤ s ∧ s < w 15 0) ∧ 0 ≤ k ∧ k < 100) ∧ ¬ w 0 s = 1 ∧ 0 ≤ m ∧ m < 10)) : w 0 s = 0 := by
  have := (x_S_at hS h.1.1.1 h.1.1.2).2.1
  omega
theorem RR_put {c : Int} {v w v' : zs_V} (h : RR c v w) {s k m x r : Int} (hX : x_Put v s k m x r v') : RR (c + 1) v' (m_putS w s k m x) ∧ r = m_putR w s k m := by
  have hA := h.1
  have hB := h.2.1
  have hL := h.2.2.1
  have hQ := h.2.2.2.1
  have hnu := r_nu hA s k m
  unfold m_putS m_putR
  rcases hX with ⟨c1, rfl, rfl⟩ | ⟨c1, c2, hX⟩ | ⟨c1, c2, hX⟩
  · have c1 : ¬ (((0 ≤ s ∧ s < w 15 0) ∧ 0 ≤ k ∧ k < 100) ∧ ¬ w 0 s = 1 ∧ 0 ≤ m ∧ m < 10) := fun z => c1 (hnu.mpr z)
    rw [if_neg c1, if_neg c1]
    exact ⟨RR_le h (by omega), rfl⟩
  · have c1 := hnu.mp c1
    have hf0 := r_nu0 (r_A_w hA) c1
    rw [if_pos c1, if_pos c1]
    rcases r_find hA hB hL hQ c1.1.1 c1.1.2 c1.2.2 hf0 with ⟨z1, z2⟩ | ⟨z1, z2, z3, z4, z5, z6, z7, z8⟩
    · rw [if_pos z1, if_pos z1]
      rcases hX with ⟨d1, rfl, rfl⟩ | ⟨d1, rfl, u, hu, rfl⟩
      · rcases r_free hA hB with e | e
        · rw [if_pos e.2, if_pos e.2]
          exact ⟨RR_le h (by omega), rfl⟩
        · exact absurd d1 e.1
      · rcases r_free hA hB with e | e
        · exact absurd e.1 d1
        · rw [if_neg e.2.2, if_neg e.2.2, ← e.2.1]
          have hq := (x_lf_c v 200 0 (by omega)).resolve_left d1
          refine ⟨RR_new h x (by omega) hq.2.2 c1.1.1 c1.1.2 c1.2.2 (fun z => absurd z c1.2.1) hu (fun _ q hq2 e2 => ?_) ((r_full hL).resolve_left d1), rfl⟩
          have ht := r_L_t hB hL hq2
          have hb := (hL.2.1 q).mp hq2
          have := m_fd_none w s k m z_Z z_Z_n z1 q (z_Z_m.mpr ⟨hb.1, hb.2.1⟩)
          obtain ⟨g1, g2, g3, g4, -⟩ := ht
          omega
    · rw [z7] at c2
      omega
  · have c1 := hnu.mp c1
    have hf0 := r_nu0 (r_A_w hA) c1
    rw [if_pos c1, if_pos c1]
    rcases r_find hA hB hL hQ c1.1.1 c1.1.2 c1.2.2 hf0 with ⟨z1, z2⟩ | ⟨z1, z2, z3, z4, z5, z6, z7, z8⟩
    · exact absurd (z2 1) c2
    · rw [if_neg z1, if_neg z1]
      rw [z7] at hX
      have hsh := r_T_sh hA z3
      rcases hX with ⟨d1, rfl, rfl⟩ | ⟨d1, rfl, rfl⟩
      · have d2 := hsh.mp d1
        rw [if_pos d2, if_pos d2]
        exact ⟨RR_over h x z2 z3 z4 z5 z6 hf0, rfl⟩
      · have d2 : ¬ m_sh w (m_fd w s k m z_Z) := fun z => d1 (hsh.mpr z)
        rw [if_neg d2, if_neg d2]
        have h1 := RR_tell h z3
        have t1 := x_tell_T1 z3
        have e5 := m_tell_r w (m_fd w s k m z_Z) (r := 5) (by decide) (by decide) (by decide)
        have e6 := m_tell_r w (m_fd w s k m z_Z) (r := 6) (by decide) (by decide) (by decide)
        have e7 := m_tell_r w (m_fd w s k m z_Z) (r := 7) (by decide) (by decide) (by decide)
        have e0 := m_tell_r w (m_fd w s k m z_Z) (r := 0) (by decide) (by decide) (by decide)
        exact ⟨RR_over h1 x z2 t1 (by rw [e5]; exact z4) (by rw [e6]; exact z5) (by rw [e7]; exact z6) (by rw [e0]; exact hf0), rfl⟩
theorem RR_get {c : Int} {v w : zs_V} (h : RR c v w) (s k m : Int) : RR c (x_getS v s k m) (m_getS w s k m) ∧ x_getR v s k m = m_getR w s k m := by
  have hA := h.1
  have hB := h.2.1
  have hL := h.2.2.1
  have hQ := h.2.2.2.1
  have hnu := r_nu hA s k m
  unfold x_getS m_getS x_getR m_getR
  by_cases c1 : (((0 ≤ s ∧ s < w 15 0) ∧ 0 ≤ k ∧ k < 100) ∧ ¬ w 0 s = 1 ∧ 0 ≤ m ∧ m < 10)
  · have hf0 := r_nu0 (r_A_w hA) c1
    rw [if_pos c1, if_pos c1, if_pos (hnu.mpr c1), if_pos (hnu.mpr c1)]
    rcases r_find hA hB hL hQ c1.1.1 c1.1.2 c1.2.2 hf0 with ⟨z1, z2⟩ | ⟨z1, z2, z3, z4, z5, z6, z7, z8, z9⟩
    · have hn : ¬ (¬ m_F w s k m = -99999999 ∧ m_sh w (m_F w s k m)) := fun z => z.1 z1
      rw [z2 0, if_neg hn, if_neg hn, if_pos (rfl : (-1 : Int) = -1)]
      unfold x_read
      rw [if_pos rfl]
      exact ⟨h, rfl⟩
    · by_cases d : m_sh w (m_fd w s k m z_Z)
      · have hn : (¬ m_F w s k m = -99999999 ∧ m_sh w (m_F w s k m)) := ⟨z1, d⟩
        have hp : ¬ m_fd w s k m z_Z = -1 := by omega
        rw [z8 d, if_pos hn, if_pos hn, if_neg hp]
        exact ⟨RR_read h z2.1 z3, z3.2.2.2.2.2.1⟩
      · have hn : ¬ (¬ m_F w s k m = -99999999 ∧ m_sh w (m_F w s k m)) := fun z => d z.2
        rw [z9 d, if_neg hn, if_neg hn, if_pos (rfl : (-1 : Int) = -1)]
        unfold x_read
        rw [if_pos rfl]
        exact ⟨h, rfl⟩
  · rw [if_neg c1, if_neg c1, if_neg (fun z => c1 (hnu.mp z)), if_neg (fun z => c1 (hnu.mp z))]
    exact ⟨h, rfl⟩
theorem RR_remove {c : Int} {v w v' : zs_V} (h : RR c v w) {s k m r : Int} (hX : x_Rem v s k m r v') : RR c v' (m_remS w s k m) ∧ r = m_remR w s k m := by
  have hA := h.1
  have hB := h.2.1
  have hL := h.2.2.1
  have hQ := h.2.2.2.1
  have hnu := r_nu hA s k m
  unfold m_remS m_remR
  rcases hX with ⟨c1, rfl, rfl⟩ | ⟨c1, c2, rfl, rfl⟩ | ⟨c1, c2, rfl, hV⟩
  · have c1 : ¬ (((0 ≤ s ∧ s < w 15 0) ∧ 0 ≤ k ∧ k < 100) ∧ ¬ w 0 s = 1 ∧ 0 ≤ m ∧ m < 10) := fun z => c1 (hnu.mpr z)
    rw [if_neg c1, if_neg c1]
    exact ⟨h, rfl⟩
  · have c1 := hnu.mp c1
    have hf0 := r_nu0 (r_A_w hA) c1
    rw [if_pos c1, if_pos c1]
    rcases r_find hA hB hL hQ c1.1.1 c1.1.2 c1.2.2 hf0 with ⟨z1, z2⟩ | ⟨z1, z2, z3, z4, z5, z6, z7, z8⟩
    · rw [if_pos z1, if_pos z1]
      exact ⟨h, rfl⟩
    · rw [z7] at c2
      omega
  · have c1 := hnu.mp c1
    have hf0 := r_nu0 (r_A_w hA) c1
    rw [if_pos c1, if_pos c1]
    rcases r_find hA hB hL hQ c1.1.1 c1.1.2 c1.2.2 hf0 with ⟨z1, z2⟩ | ⟨z1, z2, z3, z4, z5, z6, z7, z8⟩
    · exact absurd (z2 1) c2
    · rw [if_neg z1, if_neg z1]
      rw [z7] at hV ⊢
      refine ⟨RR_vac h hV, ?_⟩
      rw [zb_c (r_T_sh hA z3), zb_if]
theorem r_li {v w : zs_V} (hA : r_A v w) (s k : Int) : (((0 ≤ s ∧ s < v 15 0) ∧ 0 ≤ k ∧ k < 100) ∧ v 0 s = 1) ↔ (((0 ≤ s ∧ s < w 15 0) ∧ 0 ≤ k ∧ k < 100) ∧ w 0 s = 1) := by rw [hA.2.1, hA.2.2.2.2.2.2]
theorem RR_add {c : Int} {v w v' : zs_V} (h : RR c v w) {s k x r : Int} (hX : x_Add v s k x r v') : RR (c + 1) v' (m_addS w s k x) ∧ r = m_addR w s k x := by
  have hA := h.1
  have hB := h.2.1
  have hL := h.2.2.1
  have hli := r_li hA s k
  unfold m_addS m_addR
  rcases hX with ⟨c1, rfl, rfl⟩ | ⟨c1, hX⟩
  · have c1 : ¬ (((0 ≤ s ∧ s < w 15 0) ∧ 0 ≤ k ∧ k < 100) ∧ w 0 s = 1) := fun z => c1 (hli.mpr z)
    rw [if_neg c1, if_neg c1]
    exact ⟨RR_le h (by omega), rfl⟩
  · have c1 := hli.mp c1
    rw [if_pos c1, if_pos c1]
    rcases hX with ⟨d1, rfl, rfl⟩ | ⟨d1, rfl, u, hu, rfl⟩
    · rcases r_free hA hB with e | e
      · rw [if_pos e.2, if_pos e.2]
        exact ⟨RR_le h (by omega), rfl⟩
      · exact absurd d1 e.1
    · rcases r_free hA hB with e | e
      · exact absurd e.1 d1
      · rw [if_neg e.2.2, if_neg e.2.2, ← e.2.1]
        have hq := (x_lf_c v 200 0 (by omega)).resolve_left d1
        have hn := RR_new h x (by omega) hq.2.2 c1.1.1 c1.1.2 (b := 0) (by omega) (fun _ => rfl) hu (fun z => absurd z (by omega)) ((r_full hL).resolve_left d1)
        refine ⟨hn, ?_⟩
        have hm := r_hm hn.1 hn.2.1 hn.2.2.1 (s := s) (k := k) (o := 0) c1.1.1 (Or.inl rfl)
        rw [if_pos rfl] at hm
        unfold m_heldR
        have hcc : (0 ≤ s ∧ s < (m_wr w (x_lf v 200 0) s k 0 x) 15 0) ∧ 0 ≤ k ∧ k < 100 := c1.1
        rw [if_pos hcc]
        exact hm
theorem RR_at {c : Int} {v w : zs_V} (h : RR c v w) (s k i : Int) : RR c (x_atS v s k i) (m_atS w s k i) ∧ x_atR v s k i = m_atR w s k i := by
  have hA := h.1
  have hB := h.2.1
  have hL := h.2.2.1
  have hli := r_li hA s k
  unfold x_atS m_atS x_atR m_atR
  by_cases c1 : (((0 ≤ s ∧ s < w 15 0) ∧ 0 ≤ k ∧ k < 100) ∧ w 0 s = 1)
  · rw [if_pos c1, if_pos c1, if_pos (hli.mpr c1), if_pos (hli.mpr c1)]
    have key : (x_pl v (s * 1000 + k * 10 + 0) i 0 (x_L v) 0 = -1 ∧ m_atP w s k i = -99999999) ∨ (¬ x_pl v (s * 1000 + k * 10 + 0) i 0 (x_L v) 0 = -1 ∧ x_pl v (s * 1000 + k * 10 + 0) i 0 (x_L v) 0 = m_atP w s k i ∧ x_pl v (s * 1000 + k * 10 + 0) i 0 (x_L v) 0 ∈ x_L v) := by
      unfold m_atP
      by_cases hi : 0 ≤ i
      · rcases r_list hA hB hL c1.1.1 c1.1.2 c1.2 hi (ov := 0) (sh := 1) (Or.inl ⟨rfl, rfl⟩) with ⟨z1, z2⟩ | ⟨z1, z2, z3, z4, z5⟩
        · left
          refine ⟨z1, ?_⟩
          by_cases h2 : i < 200
          · rw [if_pos ⟨hi, h2⟩]
            exact z2 h2
          · rw [if_neg (fun z => h2 z.2)]
        · right
          rw [if_pos ⟨hi, z1⟩]
          exact ⟨z2, z3, z4⟩
      · left
        rw [if_neg (fun z => hi z.1)]
        exact ⟨x_pl_neg v _ i 0 _ 0 (by omega), rfl⟩
    rcases key with ⟨z1, z2⟩ | ⟨z1, z2, z3⟩
    · rw [z1, if_pos z2, if_pos z2, if_pos (rfl : (-1 : Int) = -1)]
      unfold x_read
      rw [if_pos rfl]
      exact ⟨h, rfl⟩
    · have ht := r_L_t hB hL z3
      have hb := (hL.2.1 _).mp z3
      rw [z2] at z1 ht hb
      have hne : ¬ m_atP w s k i = -99999999 := by omega
      rw [z2, if_neg hne, if_neg hne, if_neg z1]
      exact ⟨RR_read h hb.1 ht, ht.2.2.2.2.2.1⟩
  · rw [if_neg c1, if_neg c1, if_neg (fun z => c1 (hli.mp z)), if_neg (fun z => c1 (hli.mp z))]
    exact ⟨h, rfl⟩
theorem r_mi {v w : zs_V} (hA : r_A v w) (s k m : Int) : (((0 ≤ s ∧ s < v 15 0) ∧ 0 ≤ k ∧ k < 100) ∧ 0 ≤ m ∧ (v 0 s = 1 ∨ m < 10)) ↔ (((0 ≤ s ∧ s < w 15 0) ∧ 0 ≤ k ∧ k < 100) ∧ 0 ≤ m ∧ (w 0 s = 1 ∨ m < 10)) := by rw [hA.2.1, hA.2.2.2.2.2.2]
theorem r_left {c : Int} {v w : zs_V} (h : RR c v w) (s k m : Int) : x_leftR v s k m = m_leftR w s k m := by
  have hA := h.1
  have hB := h.2.1
  have hL := h.2.2.1
  have hQ := h.2.2.2.1
  have hmi := r_mi hA s k m
  unfold x_leftR m_leftR
  by_cases c1 : (((0 ≤ s ∧ s < w 15 0) ∧ 0 ≤ k ∧ k < 100) ∧ 0 ≤ m ∧ (w 0 s = 1 ∨ m < 10))
  · rw [if_pos c1, if_pos (hmi.mpr c1)]
    have hs := (x_S_at (r_A_w hA) c1.1.1.1 c1.1.1.2).2.1
    have e0 : v 0 = w 0 := hA.2.1
    unfold x_ask m_ask
    rw [e0]
    by_cases f1 : w 0 s = 1
    · have f0n : ¬ w 0 s = 0 := by omega
      rw [if_pos f1, if_pos f1, if_neg f0n]
      rcases r_list hA hB hL c1.1.1 c1.1.2 f1 c1.2.1 (ov := 0) (sh := 1) (Or.inl ⟨rfl, rfl⟩) with ⟨z1, z2⟩ | ⟨z1, z2, z3, z4, z5⟩
      · rw [if_pos z1]
        by_cases h2 : m < 200
        · have hn : ¬ (¬ m_fo w s k 1 (m + 1).toNat (-1) (-99999999) = -99999999 ∧ m_sh w (m_fo w s k 1 (m + 1).toNat (-1) (-99999999))) := fun z => z.1 (z2 h2)
          rw [if_pos h2, if_neg hn]
        · have hn : ¬ (¬ (-99999999 : Int) = -99999999 ∧ m_sh w (-99999999)) := fun z => z.1 rfl
          rw [if_neg h2, if_neg hn]
      · rw [if_pos z1, if_neg z2]
        have ht := r_L_t hB hL z4
        have hb := (hL.2.1 _).mp z4
        have hf := r_T_f hA ht
        have hsh := (r_T_sh hA ht).mp (z5.2.resolve_left (fun z => z rfl))
        rw [z3] at hb hf hsh ⊢
        have hn : ¬ m_fo w s k 1 (m + 1).toNat (-1) (-99999999) = -99999999 ∧ m_sh w (m_fo w s k 1 (m + 1).toNat (-1) (-99999999)) := ⟨by omega, hsh⟩
        rw [if_pos hn]
        exact hf.2.2.2.2.2.1
    · have f0 : w 0 s = 0 := by omega
      rw [if_neg f1, if_neg f1, if_pos f0]
      rcases r_find hA hB hL hQ c1.1.1 c1.1.2 (b := m) (by omega) f0 with ⟨z1, z2⟩ | ⟨z1, z2, z3, z4, z5, z6, z7, z8, z9⟩
      · have hn : ¬ (¬ m_fd w s k m z_Z = -99999999 ∧ m_sh w (m_fd w s k m z_Z)) := fun z => z.1 z1
        rw [z2 0, if_neg hn, if_pos (rfl : (-1 : Int) = -1)]
      · by_cases d : m_sh w (m_fd w s k m z_Z)
        · have hn : ¬ m_fd w s k m z_Z = -99999999 ∧ m_sh w (m_fd w s k m z_Z) := ⟨z1, d⟩
          have hp : ¬ m_fd w s k m z_Z = -1 := by omega
          rw [z8 d, if_pos hn, if_neg hp]
          exact (r_T_f hA z3).2.2.2.2.2.1
        · have hn : ¬ (¬ m_fd w s k m z_Z = -99999999 ∧ m_sh w (m_fd w s k m z_Z)) := fun z => d z.2
          rw [z9 d, if_neg hn, if_pos (rfl : (-1 : Int) = -1)]
  · rw [if_neg c1, if_neg (fun z => c1 (hmi.mp z))]
theorem r_place {c : Int} {v w : zs_V} (h : RR c v w) (s k m : Int) : x_placeR v s k m = m_placeR w s k m := by
  have hA := h.1
  have hB := h.2.1
  have hL := h.2.2.1
  have hQ := h.2.2.2.1
  have hmi := r_mi hA s k m
  unfold x_placeR m_placeR
  by_cases c1 : (((0 ≤ s ∧ s < w 15 0) ∧ 0 ≤ k ∧ k < 100) ∧ 0 ≤ m ∧ (w 0 s = 1 ∨ m < 10))
  · rw [if_pos c1, if_pos (hmi.mpr c1)]
    have hs := (x_S_at (r_A_w hA) c1.1.1.1 c1.1.1.2).2.1
    have e0 : v 0 = w 0 := hA.2.1
    unfold x_ask m_ask
    rw [e0]
    by_cases f1 : w 0 s = 1
    · have f0n : ¬ w 0 s = 0 := by omega
      rw [if_pos f1, if_pos f1, if_neg f0n]
      rcases r_list hA hB hL c1.1.1 c1.1.2 f1 c1.2.1 (ov := 1) (sh := 0) (Or.inr ⟨rfl, rfl⟩) with ⟨z1, z2⟩ | ⟨z1, z2, z3, z4, z5⟩
      · rw [if_pos z1]
        by_cases h2 : m < 200
        · rw [if_pos h2, z2 h2]
        · rw [if_neg h2]
      · rw [if_pos z1, if_neg z2]
        exact z3
    · have f0 : w 0 s = 0 := by omega
      rw [if_neg f1, if_neg f1, if_pos f0]
      rcases r_find hA hB hL hQ c1.1.1 c1.1.2 (b := m) (by omega) f0 with ⟨z1, z2⟩ | ⟨z1, z2, z3, z4, z5, z6, z7, z8⟩
      · rw [z2 1, if_pos rfl, z1]
      · rw [z7, if_neg (by omega)]
  · rw [if_neg c1, if_neg (fun z => c1 (hmi.mp z))]
theorem RR_tick {c : Int} {v w : zs_V} (h : RR c v w) (n : Int) : RR c (x_tickS v n) (x_tickS w n) ∧ x_tickR v n = m_tickR w n := by
  have hA := h.1
  have e4 : v 4 0 = w 4 0 := by rw [hA.2.2.2.2.2.1]
  unfold x_tickS x_tickR m_tickR
  rw [e4]
  by_cases c1 : 1 ≤ n ∧ n ≤ 100000
  · rw [if_pos c1, if_pos c1, if_pos c1, if_pos c1]
    by_cases c2 : w 4 0 + n ≤ 1000000000
    · rw [if_pos c2, if_pos c2, if_pos c2, if_pos c2]
      have hn := hA.1.2.2.2.1
      have h2 := RR_clock h (cl := 0) (t := w 4 0 + n) (Or.inl rfl) (by omega) (by omega)
      refine ⟨h2, ?_⟩
      have k1 := r_hs hA h.2.1 h.2.2.1
      have k2 := r_hs h2.1 h2.2.1 h2.2.2.1
      rw [x_L_of (u := zs_put v 4 0 (w 4 0 + n)) (v := v) rfl rfl] at k2
      rw [k1, k2, m_os_ca, m_os_ca, m_ca_of (u := zs_put w 4 0 (w 4 0 + n)) (w := w) rfl]
      omega
    · rw [if_neg c2, if_neg c2, if_neg c2, if_neg c2]
      exact ⟨h, rfl⟩
  · rw [if_neg c1, if_neg c1, if_neg c1, if_neg c1]
    exact ⟨h, rfl⟩
theorem RR_wm {c : Int} {v w : zs_V} (h : RR c v w) (t : Int) : RR c (x_wmS v t) (x_wmS w t) ∧ x_wmR v t = m_wmR w t := by
  have hA := h.1
  have e4 : v 4 1 = w 4 1 := by rw [hA.2.2.2.2.2.1]
  unfold x_wmS x_wmR m_wmR
  rw [e4]
  by_cases c1 : 0 ≤ t ∧ t ≤ 1000000000
  · rw [if_pos c1, if_pos c1, if_pos c1, if_pos c1]
    by_cases c2 : w 4 1 ≤ t
    · rw [if_pos c2, if_pos c2, if_pos c2, if_pos c2]
      have h2 := RR_clock h (cl := 1) (t := t) (Or.inr rfl) c2 c1
      refine ⟨h2, ?_⟩
      have k1 := r_hs hA h.2.1 h.2.2.1
      have k2 := r_hs h2.1 h2.2.1 h2.2.2.1
      rw [x_L_of (u := zs_put v 4 1 t) (v := v) rfl rfl] at k2
      rw [k1, k2, m_os_ca, m_os_ca, m_ca_of (u := zs_put w 4 1 t) (w := w) rfl]
      omega
    · rw [if_neg c2, if_neg c2, if_neg c2, if_neg c2]
      exact ⟨h, rfl⟩
  · rw [if_neg c1, if_neg c1, if_neg c1, if_neg c1]
    exact ⟨h, rfl⟩
