
/-! parts of the relation over other states -/
theorem r_A_of {v w v' w' : zs_V} (h : r_A v w) (a0 : v' 0 = v 0) (a1 : v' 1 = v 1) (a2 : v' 2 = v 2) (a3 : v' 3 = v 3) (a4 : v' 4 = v 4) (a15 : v' 15 = v 15) (b0 : w' 0 = w 0) (b1 : w' 1 = w 1) (b2 : w' 2 = w 2) (b3 : w' 3 = w 3) (b4 : w' 4 = w 4) (b15 : w' 15 = w 15) : r_A v' w' := by
  obtain ⟨hS, h0, h1, h2, h3, h4, h15⟩ := h
  exact ⟨x_S_of a0 a1 a2 a3 a4 a15 hS, by rw [a0, b0, h0], by rw [a1, b1, h1], by rw [a2, b2, h2], by rw [a3, b3, h3], by rw [a4, b4, h4], by rw [a15, b15, h15]⟩
theorem r_T_of {v w v' w' : zs_V} {p : Int} (h : r_T v w p) (a5 : v' 5 p = v 5 p) (a6 : v' 6 p = v 6 p) (a7 : v' 7 p = v 7 p) (a8 : v' 8 p = v 8 p) (b5 : w' 5 p = w 5 p) (b6 : w' 6 p = w 6 p) (b7 : w' 7 p = w 7 p) (b8 : w' 8 p = w 8 p) (b9 : w' 9 p = w 9 p) (b10 : w' 10 p = w 10 p) (b11 : w' 11 p = w 11 p) (b0 : w' 0 = w 0) (b1 : w' 1 = w 1) (b4 : w' 4 = w 4) (b15 : w' 15 = w 15) (b16 : w 16 0 ≤ w' 16 0) : r_T v' w' p := by
  obtain ⟨g1, g2, g3, g4, g5, g6, g7, g8, g9, g10, g11⟩ := h
  unfold r_T m_clk at *
  rw [a5, a6, a7, a8, b5, b6, b7, b8, b9, b10, b11, b0, b1, b4, b15]
  exact ⟨g1, g2, g3, g4, g5, g6, g7, g8, g9, g10, g11.1, Int.le_trans g11.2 b16⟩
theorem r_R_of {v w v' w' : zs_V} (h : r_R v w) (a10 : v' 10 = v 10) (a17 : v' 17 = v 17) (a18 : v' 18 = v 18) (a19 : v' 19 = v 19) (b12 : w' 12 = w 12) (b18 : w' 18 = w 18) (b19 : w' 19 = w 19) : r_R v' w' := by
  unfold r_R x_ri at *
  rw [a10, a17, a18, a19, b12, b18, b19]
  exact h
theorem r_K_of {v w v' w' : zs_V} (h : r_K v w) (a11 : v' 11 = v 11) (a12 : v' 12 = v 12) (a13 : v' 13 = v 13) (a14 : v' 14 = v 14) (b0 : w' 0 = w 0) (b13 : w' 13 = w 13) (b14 : w' 14 = w 14) (b15 : w' 15 = w 15) : r_K v' w' := by
  unfold r_K r_K1 r_M at *
  rw [a11, a12, a13, a14, b0, b13, b14, b15]
  exact h
theorem r_E_of {v w v' w' : zs_V} (h : r_E v w) (a20 : v' 20 = v 20) (b17 : w' 17 = w 17) : r_E v' w' := by
  unfold r_E at *
  rw [a20, b17]
  exact h
theorem r_L_of {v w v' w' : zs_V} (h : r_L v w) (a5 : v' 5 = v 5) (a9 : v' 9 = v 9) (a16 : v' 16 = v 16) (b11 : w' 11 = w 11) : r_L v' w' := by
  unfold r_L r_lt at *
  rw [x_L_of a9 a16, a5, a16, b11]
  exact h
theorem r_Q_of {v w v' w' : zs_V} (h : r_Q v w) (a5 : v' 5 = v 5) (a9 : v' 9 = v 9) (a16 : v' 16 = v 16) (b0 : w' 0 = w 0) (b5 : w' 5 = w 5) : r_Q v' w' := by
  unfold r_Q at *
  rw [x_L_of a9 a16, a5, b0, b5]
  exact h
theorem RR_le {c d : Int} {v w : zs_V} (h : RR c v w) (hd : c ≤ d) : RR d v w := by
  obtain ⟨h1, h2, h3, h4, h5, h6, h7, h8, h9⟩ := h
  exact ⟨h1, h2, h3, h4, h5, h6, h7, h8, by omega⟩
/-! a row is told -/
theorem x_tell_at (v : zs_V) (p : Int) (j : Int) : (x_tell v p) 10 j = (if j = x_ri (x_rb v) ((x_rb v) 18 0 - 1) + 5 then v 4 0 else if j = x_ri (x_rb v) ((x_rb v) 18 0 - 1) + 4 then v 8 p else if j = x_ri (x_rb v) ((x_rb v) 18 0 - 1) + 3 then v 6 p else if j = x_ri (x_rb v) ((x_rb v) 18 0 - 1) + 2 then v 5 p % 10 else if j = x_ri (x_rb v) ((x_rb v) 18 0 - 1) + 1 then v 5 p / 10 % 100 else if j = x_ri (x_rb v) ((x_rb v) 18 0 - 1) then v 5 p / 1000 else v 10 j) := by
  unfold x_tell x_tellA
  rw [zs_put_e, zs_put_e, zs_put_e, zs_put_e, zs_put_e, zs_put_e, x_rb_r v (by decide : 4 ≠ 17) (by decide) (by decide), x_rb_r v (by decide : 8 ≠ 17) (by decide) (by decide), x_rb_r v (by decide : 6 ≠ 17) (by decide) (by decide), x_rb_r v (by decide : 5 ≠ 17) (by decide) (by decide), x_rb_r v (by decide : 10 ≠ 17) (by decide) (by decide)]
theorem x_tell_h (v : zs_V) (p : Int) : (x_tell v p) 17 0 = (x_rb v) 17 0 ∧ (x_tell v p) 18 0 = (x_rb v) 18 0 ∧ (x_tell v p) 19 0 = v 19 0 + 1 := by
  refine ⟨rfl, rfl, ?_⟩
  show (x_rb v) 19 0 = _
  unfold x_rb
  rw [zs_put_s]
theorem m_tell_at (w : zs_V) (p : Int) (j : Int) : (m_tell w p) 12 j = (if j = 6 * (m_ts w) 18 0 + 5 then w 4 0 else if j = 6 * (m_ts w) 18 0 + 4 then w 10 p else if j = 6 * (m_ts w) 18 0 + 3 then w 8 p else if j = 6 * (m_ts w) 18 0 + 2 then w 7 p else if j = 6 * (m_ts w) 18 0 + 1 then w 6 p else if j = 6 * (m_ts w) 18 0 then w 5 p else (m_ts w) 12 j) := by
  unfold m_tell m_tB m_tA
  rw [zs_put_r _ _ _ _ (by decide : 12 ≠ 19), zs_put_r _ _ _ _ (by decide : 12 ≠ 18), zs_put_e, zs_put_e, zs_put_e, zs_put_e, zs_put_e, zs_put_e, m_ts_r w (by decide : 4 ≠ 12) (by decide), m_ts_r w (by decide : 10 ≠ 12) (by decide), m_ts_r w (by decide : 8 ≠ 12) (by decide), m_ts_r w (by decide : 7 ≠ 12) (by decide), m_ts_r w (by decide : 6 ≠ 12) (by decide), m_ts_r w (by decide : 5 ≠ 12) (by decide)]
theorem m_tell_h (w : zs_V) (p : Int) : (m_tell w p) 18 0 = (m_ts w) 18 0 + 1 ∧ (m_tell w p) 19 0 = w 19 0 + 1 := by
  unfold m_tell m_tB
  rw [zs_put_r _ _ _ _ (by decide : 18 ≠ 19), zs_put_s, zs_put_s, m_ts_r w (by decide : 19 ≠ 12) (by decide)]
  exact ⟨rfl, rfl⟩
theorem r_R_tell {v w : zs_V} (hA : r_A v w) (hR : r_R v w) {p : Int} (ht : r_T v w p) : r_R (x_tell v p) (m_tell w p) := by
  have hf := r_T_f hA ht
  obtain ⟨g1, g2, g3, g4, g5, g6, g7, g8, g9, g10, g11⟩ := ht
  obtain ⟨r1, r2, r3, r4, r5⟩ := hR
  obtain ⟨e1, e2, e3⟩ := x_tell_h v p
  obtain ⟨f1, f2⟩ := m_tell_h w p
  have et : v 4 0 = w 4 0 := by rw [hA.2.2.2.2.2.1]
  have hk := x_rb_k r3 r4
  unfold r_R
  rw [f1, f2, e3, e2, e1]
  have hx : ∀ i, x_ri (x_tell v p) i = x_ri (x_rb v) i := fun i => rfl
  by_cases c : v 18 0 = 150
  · have ek : (x_rb v) 18 0 = 150 := by
      unfold x_rb
      rw [if_pos c]
      exact c
    have ef : (x_rb v) 17 0 = (v 17 0 + 1) % 150 := by
      unfold x_rb
      rw [if_pos c]
      rfl
    have em : (m_ts w) 18 0 = 149 := by
      unfold m_ts
      rw [if_pos (by omega)]
      rfl
    refine ⟨by omega, by omega, by omega, by omega, fun i d h1 h2 h3 h4 => ?_⟩
    rw [x_tell_at, m_tell_at, em, ek, hx, hf.1, hf.2.1, hf.2.2.1, g6, g8, et]
    have hri : ∀ i, x_ri (x_rb v) i = ((v 17 0 + 1) % 150 + i) % 150 * 6 := fun i => by unfold x_ri; rw [ef]
    rw [hri, hri]
    by_cases ci : i = 149
    · subst ci
      rcases (show d = 0 ∨ d = 1 ∨ d = 2 ∨ d = 3 ∨ d = 4 ∨ d = 5 by omega) with rfl | rfl | rfl | rfl | rfl | rfl <;> simp <;> omega
    · have hne : ((v 17 0 + 1) % 150 + i) % 150 ≠ ((v 17 0 + 1) % 150 + (150 - 1)) % 150 := by omega
      have hsh : (m_ts w) 12 (6 * i + d) = w 12 (6 * (i + 1) + d) := by
        unfold m_ts
        rw [if_pos (by omega), zs_put_r _ _ _ _ (by decide)]
        unfold m_shift
        rw [if_pos ⟨rfl, by omega, by omega⟩]
        congr 1
        omega
      have hold := r5 (i + 1) d (by omega) (by omega) h3 h4
      have hidx : x_ri v (i + 1) = ((v 17 0 + 1) % 150 + i) % 150 * 6 := by unfold x_ri; omega
      rw [hidx] at hold
      rw [if_neg (by omega), if_neg (by omega), if_neg (by omega), if_neg (by omega), if_neg (by omega), if_neg (by omega), if_neg (by omega), if_neg (by omega), if_neg (by omega), if_neg (by omega), if_neg (by omega), if_neg (by omega), hsh]
      exact hold
  · have ek : (x_rb v) 18 0 = v 18 0 + 1 := by
      unfold x_rb
      rw [if_neg c]
      rfl
    have ef : (x_rb v) 17 0 = v 17 0 := by
      unfold x_rb
      rw [if_neg c]
      rfl
    have em : m_ts w = w := by
      unfold m_ts
      rw [if_neg (by omega)]
    rw [em]
    refine ⟨by omega, by omega, by omega, by omega, fun i d h1 h2 h3 h4 => ?_⟩
    rw [x_tell_at, m_tell_at, em, ek, hx, hf.1, hf.2.1, hf.2.2.1, g6, g8, et]
    have hri : ∀ i, x_ri (x_rb v) i = (v 17 0 + i) % 150 * 6 := fun i => by unfold x_ri; rw [ef]
    rw [hri, hri]
    by_cases ci : i = v 18 0
    · subst ci
      rw [show v 18 0 + 1 - 1 = v 18 0 by omega, ← r1]
      rcases (show d = 0 ∨ d = 1 ∨ d = 2 ∨ d = 3 ∨ d = 4 ∨ d = 5 by omega) with rfl | rfl | rfl | rfl | rfl | rfl <;> simp <;> omega
    · have hne : (v 17 0 + i) % 150 ≠ (v 17 0 + (v 18 0 + 1 - 1)) % 150 := by omega
      have hold := r5 i d h1 (by omega) h3 h4
      have hidx : x_ri v i = (v 17 0 + i) % 150 * 6 := rfl
      rw [hidx] at hold
      rw [if_neg (by omega), if_neg (by omega), if_neg (by omega), if_neg (by omega), if_neg (by omega), if_neg (by omega), if_neg (by omega), if_neg (by omega), if_neg (by omega), if_neg (by omega), if_neg (by omega), if_neg (by omega)]
      exact hold
theorem RR_tell {c : Int} {v w : zs_V} (h : RR c v w) {p : Int} (ht : r_T v w p) : RR c (x_tell v p) (m_tell w p) := by
  obtain ⟨hA, hB, hL, hQ, hR, hK, hE, hc⟩ := h
  have a : ∀ r, r ≠ 10 → r ≠ 17 → r ≠ 18 → r ≠ 19 → x_tell v p r = v r := fun r h1 h2 h3 h4 => x_tell_r v p h1 h2 h3 h4
  have b : ∀ r, r ≠ 12 → r ≠ 18 → r ≠ 19 → m_tell w p r = w r := fun r h1 h2 h3 => m_tell_r w p h1 h2 h3
  refine ⟨?_, fun q q0 q1 => ?_, ?_, ?_, r_R_tell hA hR ht, ?_, ?_, ?_⟩
  · exact r_A_of hA (a 0 (by decide) (by decide) (by decide) (by decide)) (a 1 (by decide) (by decide) (by decide) (by decide)) (a 2 (by decide) (by decide) (by decide) (by decide)) (a 3 (by decide) (by decide) (by decide) (by decide)) (a 4 (by decide) (by decide) (by decide) (by decide)) (a 15 (by decide) (by decide) (by decide) (by decide)) (b 0 (by decide) (by decide) (by decide)) (b 1 (by decide) (by decide) (by decide)) (b 2 (by decide) (by decide) (by decide)) (b 3 (by decide) (by decide) (by decide)) (b 4 (by decide) (by decide) (by decide)) (b 15 (by decide) (by decide) (by decide))
  · rw [a 5 (by decide) (by decide) (by decide) (by decide), b 5 (by decide) (by decide) (by decide)]
    refine (hB q q0 q1).imp id (fun z => ?_)
    exact r_T_of z (by rw [a 5 (by decide) (by decide) (by decide) (by decide)]) (by rw [a 6 (by decide) (by decide) (by decide) (by decide)]) (by rw [a 7 (by decide) (by decide) (by decide) (by decide)]) (by rw [a 8 (by decide) (by decide) (by decide) (by decide)]) (by rw [b 5 (by decide) (by decide) (by decide)]) (by rw [b 6 (by decide) (by decide) (by decide)]) (by rw [b 7 (by decide) (by decide) (by decide)]) (by rw [b 8 (by decide) (by decide) (by decide)]) (by rw [b 9 (by decide) (by decide) (by decide)]) (by rw [b 10 (by decide) (by decide) (by decide)]) (by rw [b 11 (by decide) (by decide) (by decide)]) (b 0 (by decide) (by decide) (by decide)) (b 1 (by decide) (by decide) (by decide)) (b 4 (by decide) (by decide) (by decide)) (b 15 (by decide) (by decide) (by decide)) (by rw [b 16 (by decide) (by decide) (by decide)]; exact Int.le_refl _)
  · exact r_L_of hL (a 5 (by decide) (by decide) (by decide) (by decide)) (a 9 (by decide) (by decide) (by decide) (by decide)) (a 16 (by decide) (by decide) (by decide) (by decide)) (b 11 (by decide) (by decide) (by decide))
  · exact r_Q_of hQ (a 5 (by decide) (by decide) (by decide) (by decide)) (a 9 (by decide) (by decide) (by decide) (by decide)) (a 16 (by decide) (by decide) (by decide) (by decide)) (b 0 (by decide) (by decide) (by decide)) (b 5 (by decide) (by decide) (by decide))
  · exact r_K_of hK (a 11 (by decide) (by decide) (by decide) (by decide)) (a 12 (by decide) (by decide) (by decide) (by decide)) (a 13 (by decide) (by decide) (by decide) (by decide)) (a 14 (by decide) (by decide) (by decide) (by decide)) (b 0 (by decide) (by decide) (by decide)) (b 13 (by decide) (by decide) (by decide)) (b 14 (by decide) (by decide) (by decide)) (b 15 (by decide) (by decide) (by decide))
  · exact r_E_of hE (a 20 (by decide) (by decide) (by decide) (by decide)) (b 17 (by decide) (by decide) (by decide))
  · rw [b 16 (by decide) (by decide) (by decide)]
    exact hc
theorem x_tell_T1 {v w : zs_V} {p : Int} (ht : r_T v w p) : r_T (x_tell v p) (m_tell w p) p := by
  have a : ∀ r, r ≠ 10 → r ≠ 17 → r ≠ 18 → r ≠ 19 → x_tell v p r = v r := fun r h1 h2 h3 h4 => x_tell_r v p h1 h2 h3 h4
  have b : ∀ r, r ≠ 12 → r ≠ 18 → r ≠ 19 → m_tell w p r = w r := fun r h1 h2 h3 => m_tell_r w p h1 h2 h3
  exact r_T_of ht (by rw [a 5 (by decide) (by decide) (by decide) (by decide)]) (by rw [a 6 (by decide) (by decide) (by decide) (by decide)]) (by rw [a 7 (by decide) (by decide) (by decide) (by decide)]) (by rw [a 8 (by decide) (by decide) (by decide) (by decide)]) (by rw [b 5 (by decide) (by decide) (by decide)]) (by rw [b 6 (by decide) (by decide) (by decide)]) (by rw [b 7 (by decide) (by decide) (by decide)]) (by rw [b 8 (by decide) (by decide) (by decide)]) (by rw [b 9 (by decide) (by decide) (by decide)]) (by rw [b 10 (by decide) (by decide) (by decide)]) (by rw [b 11 (by decide) (by decide) (by decide)]) (b 0 (by decide) (by decide) (by decide)) (b 1 (by decide) (by decide) (by decide)) (b 4 (by decide) (by decide) (by decide)) (b 15 (by decide) (by decide) (by decide)) (by rw [b 16 (by decide) (by decide) (by decide)]; exact Int.le_refl _)
/-! a place goes -/
theorem RR_vac {c : Int} {v w v' : zs_V} (h : RR c v w) {p : Int} (hV : x_Vac v p v') : RR c v' (zs_put w 5 p (-99999999)) := by
  obtain ⟨hA, hB, hL, hQ, hR, hK, hE, hc⟩ := h
  obtain ⟨f, s5, t1, t2, hx⟩ := hV
  have hmem : ∀ q, q ∈ x_L v' ↔ q ∈ x_L v ∧ q ≠ p := fun q => by
    rw [hx, List.mem_filter]
    simp
  refine ⟨r_A_of hA (f 0 (by decide) (by decide) (by decide)) (f 1 (by decide) (by decide) (by decide)) (f 2 (by decide) (by decide) (by decide)) (f 3 (by decide) (by decide) (by decide)) (f 4 (by decide) (by decide) (by decide)) (f 15 (by decide) (by decide) (by decide)) rfl rfl rfl rfl rfl rfl, fun q q0 q1 => ?_, ⟨⟨t1, by have := hL.1.2; omega⟩, fun q => ?_, ?_⟩, fun q1 q2 m1 m2 e hf => ?_, r_R_of hR (f 10 (by decide) (by decide) (by decide)) (f 17 (by decide) (by decide) (by decide)) (f 18 (by decide) (by decide) (by decide)) (f 19 (by decide) (by decide) (by decide)) rfl rfl rfl, r_K_of hK (f 11 (by decide) (by decide) (by decide)) (f 12 (by decide) (by decide) (by decide)) (f 13 (by decide) (by decide) (by decide)) (f 14 (by decide) (by decide) (by decide)) rfl rfl rfl rfl, r_E_of hE (f 20 (by decide) (by decide) (by decide)) rfl, hc⟩
  · rw [s5 q, zs_put_e]
    by_cases e : q = p
    · rw [if_pos e, if_pos e]
      exact Or.inl ⟨rfl, rfl⟩
    · rw [if_neg e, if_neg e]
      refine (hB q q0 q1).imp id (fun z => ?_)
      exact r_T_of z (by rw [s5 q, if_neg e]) (by rw [f 6 (by decide) (by decide) (by decide)]) (by rw [f 7 (by decide) (by decide) (by decide)]) (by rw [f 8 (by decide) (by decide) (by decide)]) (zs_put_k _ _ _ _ e) rfl rfl rfl rfl rfl rfl rfl rfl rfl rfl (Int.le_refl _)
  · rw [hmem q, hL.2.1 q, s5 q]
    by_cases e : q = p
    · rw [if_pos e]
      constructor
      · intro z; exact absurd e z.2
      · intro z; exact absurd rfl z.2.2
    · rw [if_neg e]
      constructor
      · intro z; exact z.1
      · intro z; exact ⟨z, e⟩
  · have h1 : (x_L v').Pairwise (r_lt v w) := by
      rw [hx]
      exact List.Pairwise.sublist List.filter_sublist hL.2.2
    refine List.Pairwise.imp_of_mem (fun {a b} ha hb z => ?_) h1
    have e1 := ((hmem a).mp ha).2
    have e2 := ((hmem b).mp hb).2
    show v' 5 a < v' 5 b ∨ (v' 5 a = v' 5 b ∧ w 11 a < w 11 b)
    rw [s5 a, s5 b, if_neg e1, if_neg e2]
    exact z
  · have e1 := (hmem q1).mp m1
    have e2 := (hmem q2).mp m2
    rw [s5 q1, s5 q2, if_neg e1.2, if_neg e2.2] at e
    rw [zs_put_k _ _ _ _ e1.2] at hf
    exact hQ q1 q2 e1.1 e2.1 e hf
