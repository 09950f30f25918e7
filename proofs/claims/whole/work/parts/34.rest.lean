
/-- a new state -/
theorem RR_state {c : Int} {v w : zs_V} (h : RR c v w) (f cl s y : Int) : RR c (x_stS v f cl s y) (x_stS w f cl s y) := by
  have e15 : v 15 0 = w 15 0 := by rw [h.1.2.2.2.2.2.2]
  unfold x_stS
  by_cases c1 : (f = 0 ∨ f = 1) ∧ (cl = 0 ∨ cl = 1) ∧ (y = 0 ∨ y = 1) ∧ 1 ≤ s ∧ s ≤ 100000
  · rw [if_pos c1, if_pos c1]
    by_cases c2 : w 15 0 < 6
    · rw [if_pos (by omega), if_pos c2, e15]
      obtain ⟨hA, hB, hL, hQ, hR, hK, hE, hc⟩ := h
      obtain ⟨hS, h0, h1, h2, h3, h4, h15⟩ := hA
      have fo : ∀ q : Int, q < w 15 0 → (zs_put (zs_put (zs_put (zs_put (zs_put w 0 (w 15 0) f) 1 (w 15 0) cl) 2 (w 15 0) s) 3 (w 15 0) y) 15 0 (w 15 0 + 1)) 0 q = w 0 q := fun q hq => by
        show (zs_put w 0 (w 15 0) f) 0 q = _
        rw [zs_put_k _ _ _ _ (by omega)]
      have fc : ∀ q : Int, q < w 15 0 → (zs_put (zs_put (zs_put (zs_put (zs_put w 0 (w 15 0) f) 1 (w 15 0) cl) 2 (w 15 0) s) 3 (w 15 0) y) 15 0 (w 15 0 + 1)) 1 q = w 1 q := fun q hq => by
        show (zs_put w 1 (w 15 0) cl) 1 q = _
        rw [zs_put_k _ _ _ _ (by omega)]
      refine ⟨⟨?_, ?_, ?_, ?_, ?_, h4, ?_⟩, fun q q0 q1 => ?_, r_L_of hL rfl rfl rfl rfl, fun q1 q2 m1 m2 e hf => ?_, r_R_of hR rfl rfl rfl rfl rfl rfl rfl, fun m m0 m1 => ?_, r_E_of hE rfl rfl, hc⟩
      · obtain ⟨g1, g2, g3, g4⟩ := hS
        refine ⟨?_, ?_, fun q q0 q1 => ?_, g4⟩
        · show 0 ≤ w 15 0 + 1
          omega
        · show w 15 0 + 1 ≤ 6
          omega
        · have q1 : q < w 15 0 + 1 := q1
          show ((zs_put v 0 (w 15 0) f) 0 q = 0 ∨ (zs_put v 0 (w 15 0) f) 0 q = 1) ∧ ((zs_put v 1 (w 15 0) cl) 1 q = 0 ∨ (zs_put v 1 (w 15 0) cl) 1 q = 1) ∧ 1 ≤ (zs_put v 2 (w 15 0) s) 2 q ∧ (zs_put v 2 (w 15 0) s) 2 q ≤ 100000 ∧ ((zs_put v 3 (w 15 0) y) 3 q = 0 ∨ (zs_put v 3 (w 15 0) y) 3 q = 1)
          rw [zs_put_e, zs_put_e, zs_put_e, zs_put_e]
          by_cases e : q = w 15 0
          · rw [if_pos e, if_pos e, if_pos e, if_pos e]
            exact ⟨c1.1, c1.2.1, c1.2.2.2.1, c1.2.2.2.2, c1.2.2.1⟩
          · rw [if_neg e, if_neg e, if_neg e, if_neg e]
            exact g3 q q0 (by omega)
      · funext q
        show (zs_put v 0 (w 15 0) f) 0 q = (zs_put w 0 (w 15 0) f) 0 q
        rw [zs_put_e, zs_put_e, h0]
      · funext q
        show (zs_put v 1 (w 15 0) cl) 1 q = (zs_put w 1 (w 15 0) cl) 1 q
        rw [zs_put_e, zs_put_e, h1]
      · funext q
        show (zs_put v 2 (w 15 0) s) 2 q = (zs_put w 2 (w 15 0) s) 2 q
        rw [zs_put_e, zs_put_e, h2]
      · funext q
        show (zs_put v 3 (w 15 0) y) 3 q = (zs_put w 3 (w 15 0) y) 3 q
        rw [zs_put_e, zs_put_e, h3]
      · funext q
        show (zs_put v 15 0 (w 15 0 + 1)) 15 q = (zs_put w 15 0 (w 15 0 + 1)) 15 q
        rw [zs_put_e, zs_put_e, h15]
      · refine (hB q q0 q1).imp id (fun z => ?_)
        obtain ⟨g1, g2, g3, g4, g5, g6, g7, g8, g9, g10, g11⟩ := z
        have e1 := fo (w 5 q) g2.2
        have e2 := fc (w 5 q) g2.2
        refine ⟨g1, ⟨g2.1, ?_⟩, g3, g4, fun z => g5 (e1 ▸ z), g6, g7, g8, ?_, ?_, g11⟩
        · show w 5 q < w 15 0 + 1
          omega
        · show 0 ≤ w 9 q ∧ w 9 q ≤ w 4 ((zs_put (zs_put (zs_put (zs_put (zs_put w 0 (w 15 0) f) 1 (w 15 0) cl) 2 (w 15 0) s) 3 (w 15 0) y) 15 0 (w 15 0 + 1)) 1 (w 5 q))
          rw [e2]
          exact g9
        · show 0 ≤ w 10 q ∧ w 10 q ≤ w 4 ((zs_put (zs_put (zs_put (zs_put (zs_put w 0 (w 15 0) f) 1 (w 15 0) cl) 2 (w 15 0) s) 3 (w 15 0) y) 15 0 (w 15 0 + 1)) 1 (w 5 q)) + 100000
          rw [e2]
          exact g10
      · have exL : x_L (zs_put (zs_put (zs_put (zs_put (zs_put v 0 (w 15 0) f) 1 (w 15 0) cl) 2 (w 15 0) s) 3 (w 15 0) y) 15 0 (w 15 0 + 1)) = x_L v := x_L_of rfl rfl
        rw [exL] at m1 m2
        have ht := r_L_t hB hL m1
        refine hQ q1 q2 m1 m2 e ?_
        rw [← fo (w 5 q1) ht.2.1.2]
        exact hf
      · refine (hK m m0 m1).imp id (fun z => ?_)
        obtain ⟨z1, z2, z3, z4⟩ := z
        refine ⟨z1, z2, fun i a b => ?_, fun i j a b d => ?_⟩
        · obtain ⟨g1, g2, g3, g4, g5, g6, g7, g8⟩ := z3 i a b
          refine ⟨⟨g1.1, ?_⟩, g2, g3, fun z => g4 ((fo _ g1.2) ▸ z), g5, g6, g7, g8⟩
          show w 14 (1000 * m + 5 * i) < w 15 0 + 1
          omega
        · have b2 : j < v 14 m := d
          have g1 := (z3 i a (by omega)).1
          refine (z4 i j a b d).imp id (fun z => ⟨z.1, ?_⟩)
          show (zs_put (zs_put (zs_put (zs_put (zs_put w 0 (w 15 0) f) 1 (w 15 0) cl) 2 (w 15 0) s) 3 (w 15 0) y) 15 0 (w 15 0 + 1)) 0 (w 14 (1000 * m + 5 * i)) = 1
          rw [fo _ g1.2]
          exact z.2
    · rw [if_neg (by omega), if_neg c2]
      exact h
  · rw [if_neg c1, if_neg c1]
    exact h
theorem r_stR {v w : zs_V} (hA : r_A v w) (f cl s y : Int) : x_stR v f cl s y = x_stR w f cl s y := by
  unfold x_stR
  rw [hA.2.2.2.2.2.2]
/-! settings -/
theorem RR_span {c : Int} {v w : zs_V} (h : RR c v w) (s : Int) {l : Int} (hl : 1 ≤ l ∧ l ≤ 100000) : RR c (zs_put v 2 s l) (zs_put w 2 s l) := by
  obtain ⟨hA, hB, hL, hQ, hR, hK, hE, hc⟩ := h
  refine ⟨⟨x_set_S hA.1 hl, hA.2.1, hA.2.2.1, ?_, hA.2.2.2.2⟩, fun q q0 q1 => (hB q q0 q1).imp id (fun z => r_T_of z rfl rfl rfl rfl rfl rfl rfl rfl rfl rfl rfl rfl rfl rfl rfl (Int.le_refl _)), r_L_of hL rfl rfl rfl rfl, r_Q_of hQ rfl rfl rfl rfl rfl, r_R_of hR rfl rfl rfl rfl rfl rfl rfl, r_K_of hK rfl rfl rfl rfl rfl rfl rfl rfl, r_E_of hE rfl rfl, hc⟩
  funext j
  rw [zs_put_e, zs_put_e, hA.2.2.2.1]
theorem x_sa_c (s : Int) (L : List Int) : ∀ v : zs_V, L.Nodup → (∀ r, r ≠ 8 → x_sa s L v r = v r) ∧ ∀ q, (x_sa s L v) 8 q = if q ∈ L ∧ v 5 q / 1000 = s ∧ 0 < x_left v q then v 7 q + v 2 s else v 8 q := by
  induction L with
  | nil =>
    intro v _
    exact ⟨fun r _ => rfl, fun q => by rw [if_neg (fun z => by simp at z)]; rfl⟩
  | cons p ps ih =>
    intro v hn
    obtain ⟨hn1, hn2⟩ := List.nodup_cons.mp hn
    simp only [x_sa]
    obtain ⟨i1, i2⟩ := ih (if v 5 p / 1000 = s ∧ 0 < x_left v p then zs_put v 8 p (v 7 p + v 2 s) else v) hn2
    have hr : ∀ r, r ≠ 8 → (if v 5 p / 1000 = s ∧ 0 < x_left v p then zs_put v 8 p (v 7 p + v 2 s) else v) r = v r := fun r h => by
      split
      · exact zs_put_r _ _ _ _ h
      · rfl
    have h8 : ∀ q, q ≠ p → (if v 5 p / 1000 = s ∧ 0 < x_left v p then zs_put v 8 p (v 7 p + v 2 s) else v) 8 q = v 8 q := fun q h => by
      split
      · exact zs_put_k _ _ _ _ h
      · rfl
    refine ⟨fun r h => (i1 r h).trans (hr r h), fun q => ?_⟩
    rw [i2 q]
    have hx : q ≠ p → x_left (if v 5 p / 1000 = s ∧ 0 < x_left v p then zs_put v 8 p (v 7 p + v 2 s) else v) q = x_left v q := fun h => by
      have e := h8 q h
      have e5 := hr 5 (by decide)
      have e4 := hr 4 (by decide)
      have e1 := hr 1 (by decide)
      generalize (if v 5 p / 1000 = s ∧ 0 < x_left v p then zs_put v 8 p (v 7 p + v 2 s) else v) = u at *
      unfold x_left
      rw [e, e5, e4, e1]
    rw [hr 5 (by decide), hr 7 (by decide), hr 2 (by decide)]
    by_cases e : q = p
    · subst e
      rw [if_neg (fun z => hn1 z.1)]
      by_cases cc : v 5 q / 1000 = s ∧ 0 < x_left v q
      · rw [if_pos cc, if_pos ⟨List.mem_cons_self, cc⟩, zs_put_s]
      · rw [if_neg cc, if_neg (fun z => cc z.2)]
    · rw [hx e, h8 q e]
      by_cases cc : q ∈ ps ∧ v 5 q / 1000 = s ∧ 0 < x_left v q
      · rw [if_pos cc, if_pos ⟨List.mem_cons_of_mem _ cc.1, cc.2⟩]
      · rw [if_neg cc, if_neg (fun z => cc ⟨(List.mem_cons.mp z.1).resolve_left e, z.2⟩)]
theorem m_sa_c (s l : Int) (L : List Int) : ∀ w : zs_V, L.Nodup → (∀ r, r ≠ 10 → m_sa s l L w r = w r) ∧ ∀ q, (m_sa s l L w) 10 q = if q ∈ L ∧ w 5 q = s ∧ m_sh w q then w 9 q + l else w 10 q := by
  induction L with
  | nil =>
    intro w _
    exact ⟨fun r _ => rfl, fun q => by rw [if_neg (fun z => by simp at z)]; rfl⟩
  | cons p ps ih =>
    intro w hn
    obtain ⟨hn1, hn2⟩ := List.nodup_cons.mp hn
    simp only [m_sa]
    obtain ⟨i1, i2⟩ := ih (if w 5 p = s ∧ m_sh w p then zs_put w 10 p (w 9 p + l) else w) hn2
    have hr : ∀ r, r ≠ 10 → (if w 5 p = s ∧ m_sh w p then zs_put w 10 p (w 9 p + l) else w) r = w r := fun r h => by
      split
      · exact zs_put_r _ _ _ _ h
      · rfl
    have h8 : ∀ q, q ≠ p → (if w 5 p = s ∧ m_sh w p then zs_put w 10 p (w 9 p + l) else w) 10 q = w 10 q := fun q h => by
      split
      · exact zs_put_k _ _ _ _ h
      · rfl
    have hp10 : (if w 5 p = s ∧ m_sh w p then zs_put w 10 p (w 9 p + l) else w) 10 p = if w 5 p = s ∧ m_sh w p then w 9 p + l else w 10 p := by
      split
      · exact zs_put_s _ _ _ _
      · rfl
    refine ⟨fun r h => (i1 r h).trans (hr r h), fun q => ?_⟩
    rw [i2 q]
    generalize (if w 5 p = s ∧ m_sh w p then zs_put w 10 p (w 9 p + l) else w) = u at *
    have e5 := hr 5 (by decide)
    have e4 := hr 4 (by decide)
    have e1 := hr 1 (by decide)
    have e9 := hr 9 (by decide)
    by_cases e : q = p
    · subst e
      rw [if_neg (fun z => hn1 z.1), hp10]
      by_cases cc : w 5 q = s ∧ m_sh w q
      · rw [if_pos cc, if_pos ⟨List.mem_cons_self, cc⟩]
      · rw [if_neg cc, if_neg (fun z => cc z.2)]
    · have em : m_sh u q = m_sh w q := by
        unfold m_sh m_clk
        rw [h8 q e, e5, e4, e1]
      by_cases cc : q ∈ ps ∧ w 5 q = s ∧ m_sh w q
      · rw [if_pos ⟨cc.1, by rw [e5]; exact cc.2.1, by rw [em]; exact cc.2.2⟩, if_pos ⟨List.mem_cons_of_mem _ cc.1, cc.2⟩, e9]
      · rw [if_neg (fun z => cc ⟨z.1, by rw [← e5]; exact z.2.1, by rw [← em]; exact z.2.2⟩), if_neg (fun z => cc ⟨(List.mem_cons.mp z.1).resolve_left e, z.2⟩), h8 q e]
theorem RR_all {c : Int} {v w : zs_V} (h : RR c v w) {s l : Int} (hl : 1 ≤ l ∧ l ≤ 100000) (hsp : w 2 s = l) : RR c (x_sa s (x_L v) v) (m_sa s l z_Z w) := by
  obtain ⟨hA, hB, hL, hQ, hR, hK, hE, hc⟩ := h
  obtain ⟨a, a8⟩ := x_sa_c s (x_L v) v (r_L_nd hL)
  obtain ⟨b, b10⟩ := m_sa_c s l z_Z w z_Z_nd
  refine ⟨r_A_of hA (a 0 (by decide)) (a 1 (by decide)) (a 2 (by decide)) (a 3 (by decide)) (a 4 (by decide)) (a 15 (by decide)) (b 0 (by decide)) (b 1 (by decide)) (b 2 (by decide)) (b 3 (by decide)) (b 4 (by decide)) (b 15 (by decide)), fun q q0 q1 => ?_, r_L_of hL (a 5 (by decide)) (a 9 (by decide)) (a 16 (by decide)) (b 11 (by decide)), r_Q_of hQ (a 5 (by decide)) (a 9 (by decide)) (a 16 (by decide)) (b 0 (by decide)) (b 5 (by decide)), r_R_of hR (a 10 (by decide)) (a 17 (by decide)) (a 18 (by decide)) (a 19 (by decide)) (b 12 (by decide)) (b 18 (by decide)) (b 19 (by decide)), r_K_of hK (a 11 (by decide)) (a 12 (by decide)) (a 13 (by decide)) (a 14 (by decide)) (b 0 (by decide)) (b 13 (by decide)) (b 14 (by decide)) (b 15 (by decide)), r_E_of hE (a 20 (by decide)) (b 17 (by decide)), ?_⟩
  · rw [a 5 (by decide), b 5 (by decide)]
    refine (hB q q0 q1).imp id (fun z => ?_)
    have hf := r_T_f hA z
    have hsh := r_T_sh hA z
    have hm := r_L_m hA hL q0 q1 z
    have hz : q ∈ z_Z := z_Z_m.mpr ⟨q0, q1⟩
    obtain ⟨g1, g2, g3, g4, g5, g6, g7, g8, g9, g10, g11⟩ := z
    have es : v 2 s = l := by rw [hA.2.2.2.1]; exact hsp
    have bc : m_clk (m_sa s l z_Z w) q = m_clk w q := by
      unfold m_clk
      rw [b 5 (by decide), b 4 (by decide), b 1 (by decide)]
    unfold r_T
    rw [bc, a8 q, b10 q, a 5 (by decide), a 6 (by decide), a 7 (by decide), b 5 (by decide), b 6 (by decide), b 7 (by decide), b 8 (by decide), b 9 (by decide), b 11 (by decide), b 15 (by decide), b 16 (by decide), b 0 (by decide), hf.1, es, g7]
    by_cases cc : w 5 q = s ∧ m_sh w q
    · rw [if_pos ⟨hm, cc.1, hsh.mpr cc.2⟩, if_pos ⟨hz, cc⟩]
      refine ⟨g1, g2, g3, g4, g5, g6, rfl, rfl, g9, ?_, g11⟩
      omega
    · rw [if_neg (fun z => cc ⟨z.2.1, hsh.mp z.2.2⟩), if_neg (fun z => cc z.2)]
      exact ⟨g1, g2, g3, g4, g5, g6, rfl, g8, g9, g10, g11⟩
  · rw [b 16 (by decide)]
    exact hc
theorem RR_setting {c : Int} {v w : zs_V} (h : RR c v w) (s l a : Int) : RR c (x_setS v s l a) (m_setS w s l a) ∧ x_setR v s l = x_setR w s l := by
  have e15 : v 15 0 = w 15 0 := by rw [h.1.2.2.2.2.2.2]
  have e2 : v 2 = w 2 := h.1.2.2.2.1
  constructor
  · unfold x_setS m_setS
    rw [e15]
    by_cases c1 : (0 ≤ s ∧ s < w 15 0) ∧ 1 ≤ l ∧ l ≤ 100000
    · rw [if_pos c1, if_pos c1]
      have h1 := RR_span h s c1.2
      by_cases c2 : a = 0
      · rw [if_pos c2, if_pos c2]
        exact h1
      · rw [if_neg c2, if_neg c2]
        have h2 := RR_all h1 c1.2 (s := s) (zs_put_s _ _ _ _)
        rw [x_L_of (u := zs_put v 2 s l) (v := v) rfl rfl] at h2
        exact h2
    · rw [if_neg c1, if_neg c1]
      exact h
  · unfold x_setR
    rw [e15, e2]
/-! clear -/
theorem m_clS_c (s k : Int) (hs : ¬ s = -99999999) (L : List Int) : ∀ w : zs_V, L.Nodup → (∀ r, r ≠ 5 → m_clS s k L w r = w r) ∧ (∀ q, (m_clS s k L w) 5 q = if q ∈ L ∧ w 5 q = s ∧ w 6 q = k then -99999999 else w 5 q) ∧ m_clR s k L w = z_sum (fun p => if (w 5 p = s ∧ w 6 p = k) ∧ m_sh w p then 1 else 0) L := by
  induction L with
  | nil =>
    intro w _
    exact ⟨fun r _ => rfl, fun q => by rw [if_neg (fun z => by simp at z)]; rfl, rfl⟩
  | cons p ps ih =>
    intro w hn
    obtain ⟨hn1, hn2⟩ := List.nodup_cons.mp hn
    simp only [m_clS, m_clR, z_sum]
    obtain ⟨i1, i2, i3⟩ := ih (if w 5 p = s ∧ w 6 p = k then zs_put w 5 p (-99999999) else w) hn2
    have hr : ∀ r, r ≠ 5 → (if w 5 p = s ∧ w 6 p = k then zs_put w 5 p (-99999999) else w) r = w r := fun r h => by
      split
      · exact zs_put_r _ _ _ _ h
      · rfl
    have h5 : ∀ q, q ≠ p → (if w 5 p = s ∧ w 6 p = k then zs_put w 5 p (-99999999) else w) 5 q = w 5 q := fun q h => by
      split
      · exact zs_put_k _ _ _ _ h
      · rfl
    refine ⟨fun r h => (i1 r h).trans (hr r h), fun q => ?_, ?_⟩
    · rw [i2 q, hr 6 (by decide)]
      by_cases e : q = p
      · subst e
        rw [if_neg (fun z => hn1 z.1)]
        by_cases cc : w 5 q = s ∧ w 6 q = k
        · rw [if_pos cc, if_pos ⟨List.mem_cons_self, cc⟩, zs_put_s]
        · rw [if_neg cc, if_neg (fun z => cc z.2)]
      · rw [h5 q e]
        by_cases cc : q ∈ ps ∧ w 5 q = s ∧ w 6 q = k
        · rw [if_pos cc, if_pos ⟨List.mem_cons_of_mem _ cc.1, cc.2⟩]
        · rw [if_neg cc, if_neg (fun z => cc ⟨(List.mem_cons.mp z.1).resolve_left e, z.2⟩)]
    · rw [i3]
      congr 1
      apply z_sum_congr
      intro q hq
      have e : q ≠ p := fun z => hn1 (z ▸ hq)
      have e5 := h5 q e
      have e6 := hr 6 (by decide)
      have e10 := hr 10 (by decide)
      have e4 := hr 4 (by decide)
      have e1 := hr 1 (by decide)
      generalize (if w 5 p = s ∧ w 6 p = k then zs_put w 5 p (-99999999) else w) = u at *
      have em : m_sh u q = m_sh w q := by
        unfold m_sh m_clk
        rw [e5, e10, e4, e1]
      simp only [e5, e6, em]
theorem RR_clear {c : Int} {v w v' : zs_V} (h : RR c v w) {s k r : Int} (hC : x_Cle v s k r v') : RR c v' (m_cleS w s k) ∧ r = m_cleR w s k := by
  have e15 : v 15 0 = w 15 0 := by rw [h.1.2.2.2.2.2.2]
  unfold x_Cle at hC
  unfold m_cleS m_cleR
  rw [e15] at hC
  rcases hC with ⟨c1, rfl, rfl⟩ | ⟨c1, rfl, hC⟩
  · rw [if_neg c1, if_neg c1]
    exact ⟨h, rfl⟩
  · rw [if_pos c1, if_pos c1]
    obtain ⟨hA, hB, hL, hQ, hR, hK, hE, hc⟩ := h
    obtain ⟨b, b5, br⟩ := m_clS_c s k (by omega) z_Z w z_Z_nd
    obtain ⟨f, s5, t1, t2, hx⟩ := hC
    have hofk : ∀ q, r_T v w q → ((v 5 q / 1000 = s ∧ v 5 q / 10 % 100 = k) ↔ (w 5 q = s ∧ w 6 q = k)) := fun q z => by
      have hf := r_T_f hA z
      rw [hf.1, hf.2.1]
    have hmem : ∀ q, q ∈ x_L v' ↔ q ∈ x_L v ∧ ¬ (w 5 q = s ∧ w 6 q = k) := fun q => by
      rw [hx, List.mem_filter]
      constructor
      · rintro ⟨a, z⟩
        refine ⟨a, fun y => ?_⟩
        have := (hofk q (r_L_t hB hL a)).mpr y
        simp [this] at z
      · rintro ⟨a, z⟩
        refine ⟨a, ?_⟩
        have : ¬ (v 5 q / 1000 = s ∧ v 5 q / 10 % 100 = k) := fun y => z ((hofk q (r_L_t hB hL a)).mp y)
        simp only [this, decide_false, Bool.not_false]
    have s5n : ∀ q, q ∈ x_L v' → v' 5 q = v 5 q := fun q hq => by
      have hm := (hmem q).mp hq
      have hb := (hL.2.1 q).mp hm.1
      rw [s5 q hb.1 hb.2.1, if_neg (fun z => hm.2 ((hofk q (r_L_t hB hL hm.1)).mp z.2))]
    refine ⟨⟨r_A_of hA (f 0 (by decide) (by decide) (by decide)) (f 1 (by decide) (by decide) (by decide)) (f 2 (by decide) (by decide) (by decide)) (f 3 (by decide) (by decide) (by decide)) (f 4 (by decide) (by decide) (by decide)) (f 15 (by decide) (by decide) (by decide)) (b 0 (by decide)) (b 1 (by decide)) (b 2 (by decide)) (b 3 (by decide)) (b 4 (by decide)) (b 15 (by decide)), fun q q0 q1 => ?_, ⟨⟨t1, by have := hL.1.2; omega⟩, fun q => ?_, ?_⟩, fun q1 q2 m1 m2 e hf => ?_, r_R_of hR (f 10 (by decide) (by decide) (by decide)) (f 17 (by decide) (by decide) (by decide)) (f 18 (by decide) (by decide) (by decide)) (f 19 (by decide) (by decide) (by decide)) (b 12 (by decide)) (b 18 (by decide)) (b 19 (by decide)), r_K_of hK (f 11 (by decide) (by decide) (by decide)) (f 12 (by decide) (by decide) (by decide)) (f 13 (by decide) (by decide) (by decide)) (f 14 (by decide) (by decide) (by decide)) (b 0 (by decide)) (b 13 (by decide)) (b 14 (by decide)) (b 15 (by decide)), r_E_of hE (f 20 (by decide) (by decide) (by decide)) (b 17 (by decide)), by rw [b 16 (by decide)]; exact hc⟩, ?_⟩
    · rw [s5 q q0 q1, b5 q]
      have hz : q ∈ z_Z := z_Z_m.mpr ⟨q0, q1⟩
      rcases hB q q0 q1 with z | z
      · rw [if_neg (fun y => y.1 z.1), if_neg (fun y => by have := y.2.1; omega)]
        exact Or.inl z
      · have hn := r_T_n hA z
        by_cases cc : w 5 q = s ∧ w 6 q = k
        · rw [if_pos ⟨hn.1, (hofk q z).mpr cc⟩, if_pos ⟨hz, cc⟩]
          exact Or.inl ⟨rfl, rfl⟩
        · rw [if_neg (fun y => cc ((hofk q z).mp y.2)), if_neg (fun y => cc y.2)]
          right
          exact r_T_of z (by rw [s5 q q0 q1, if_neg (fun y => cc ((hofk q z).mp y.2))]) (by rw [f 6 (by decide) (by decide) (by decide)]) (by rw [f 7 (by decide) (by decide) (by decide)]) (by rw [f 8 (by decide) (by decide) (by decide)]) (by rw [b5 q, if_neg (fun y => cc y.2)]) (by rw [b 6 (by decide)]) (by rw [b 7 (by decide)]) (by rw [b 8 (by decide)]) (by rw [b 9 (by decide)]) (by rw [b 10 (by decide)]) (by rw [b 11 (by decide)]) (b 0 (by decide)) (b 1 (by decide)) (b 4 (by decide)) (b 15 (by decide)) (by rw [b 16 (by decide)]; exact Int.le_refl _)
    · rw [hmem q]
      constructor
      · rintro ⟨a, z⟩
        have hb := (hL.2.1 q).mp a
        refine ⟨hb.1, hb.2.1, ?_⟩
        rw [s5 q hb.1 hb.2.1, if_neg (fun y => z ((hofk q (r_L_t hB hL a)).mp y.2))]
        exact hb.2.2
      · rintro ⟨a1, a2, z⟩
        rw [s5 q a1 a2] at z
        by_cases cc : ¬ v 5 q = -1 ∧ v 5 q / 1000 = s ∧ v 5 q / 10 % 100 = k
        · rw [if_pos cc] at z
          exact absurd rfl z
        · rw [if_neg cc] at z
          have ht := r_B_t hB a1 a2 z
          exact ⟨r_L_m hA hL a1 a2 ht, fun y => cc ⟨z, (hofk q ht).mpr y⟩⟩
    · have h1 : (x_L v').Pairwise (r_lt v w) := by
        rw [hx]
        exact List.Pairwise.sublist List.filter_sublist hL.2.2
      refine List.Pairwise.imp_of_mem (fun {a d} ha hd z => ?_) h1
      show v' 5 a < v' 5 d ∨ (v' 5 a = v' 5 d ∧ (m_clS s k z_Z w) 11 a < (m_clS s k z_Z w) 11 d)
      rw [s5n a ha, s5n d hd, b 11 (by decide)]
      exact z
    · have n1 := (hmem q1).mp m1
      have n2 := (hmem q2).mp m2
      rw [s5n q1 m1, s5n q2 m2] at e
      rw [b5 q1, if_neg (fun y => n1.2 y.2), b 0 (by decide)] at hf
      exact hQ q1 q2 n1.1 n2.1 e hf
    · rw [br, x_hm_sum]
      refine RR_sum hB hL (fun p ht _ _ => ?_) (fun p hn => if_neg (fun z => z.2.1 hn))
      have hsh := r_T_sh hA ht
      by_cases cc : (w 5 p = s ∧ w 6 p = k) ∧ m_sh w p
      · rw [if_pos ⟨(hofk p ht).mpr cc.1, zb_p (hsh.mpr cc.2)⟩, if_pos cc]
      · rw [if_neg (fun z => cc ⟨(hofk p ht).mp z.1, hsh.mp (zb_t (by rw [z.2]; decide))⟩), if_neg cc]
/-! sweeps -/
theorem RR_sw {c : Int} (n : Nat) : ∀ {v w v' : zs_V} {r : Int}, RR c v w → x_Sw n v r v' → RR c v' (m_swS n w) ∧ r = m_swR n w := by
  induction n with
  | zero =>
    intro v w v' r h hs
    obtain ⟨rfl, rfl⟩ := hs
    exact ⟨h, rfl⟩
  | succ n ih =>
    intro v w v' r h hs
    simp only [m_swS, m_swR]
    have hE := h.2.2.2.2.2.2.1
    have ef : v 20 0 = w 17 0 := hE.1
    have en : (v 20 0 + 1) % 200 = if w 17 0 = 199 then 0 else w 17 0 + 1 := by
      rw [ef]
      have := hE.2
      split <;> omega
    have hov : (¬ v 5 (v 20 0) = -1 ∧ ¬ 0 < x_left v (v 20 0)) ↔ m_ov w (w 17 0) := by
      rw [ef]
      rcases h.2.1 (w 17 0) hE.2.1 hE.2.2 with z | z
      · constructor
        · intro y; exact absurd z.1 y.1
        · intro y; exact absurd z.2 y.1
      · have hn := r_T_n h.1 z
        have hsh := r_T_sh h.1 z
        constructor
        · intro y
          refine ⟨hn.2, ?_⟩
          have := fun q => y.2 (hsh.mpr ⟨hn.2, q⟩)
          omega
        · intro y
          refine ⟨hn.1, fun q => ?_⟩
          have h1 := (hsh.mp q).2
          have h2 := y.2
          omega
    have put20 : ∀ {u z : zs_V} {x : Int}, RR c u z → 0 ≤ x → x < 200 → RR c (zs_put u 20 0 x) (zs_put z 17 0 x) := fun {u z x} hh x0 x1 => by
      obtain ⟨hA, hB, hL, hQ, hR, hK, hE, hc⟩ := hh
      refine ⟨r_A_of hA rfl rfl rfl rfl rfl rfl rfl rfl rfl rfl rfl rfl, fun q q0 q1 => (hB q q0 q1).imp id (fun y => r_T_of y rfl rfl rfl rfl rfl rfl rfl rfl rfl rfl rfl rfl rfl rfl rfl (Int.le_refl _)), r_L_of hL rfl rfl rfl rfl, r_Q_of hQ rfl rfl rfl rfl rfl, r_R_of hR rfl rfl rfl rfl rfl rfl rfl, r_K_of hK rfl rfl rfl rfl rfl rfl rfl rfl, ⟨?_, ?_⟩, hc⟩
      · rw [zs_put_s, zs_put_s]
      · rw [zs_put_s]; exact ⟨x0, x1⟩
    have hx : 0 ≤ (v 20 0 + 1) % 200 ∧ (v 20 0 + 1) % 200 < 200 := by omega
    rcases hs with ⟨hc1, u, hV, hs⟩ | ⟨hc1, hs⟩
    · have ho := hov.mp hc1
      have ht := r_B_w h.2.1 hE.2.1 hE.2.2 ho.1
      rw [← ef] at ht
      have h1 := RR_tell h ht
      have h2 := RR_vac h1 hV
      have h3 := put20 h2 hx.1 hx.2
      have es : m_s1 w = zs_put (zs_put (m_tell w (v 20 0)) 5 (v 20 0) (-99999999)) 17 0 ((v 20 0 + 1) % 200) := by
        unfold m_s1
        rw [if_pos ho, en, ef]
      rw [← es] at h3
      obtain ⟨g1, g2⟩ := ih h3 hs
      rw [if_pos ho]
      exact ⟨g1, by omega⟩
    · have ho : ¬ m_ov w (w 17 0) := fun z => hc1 (hov.mpr z)
      have h3 := put20 h hx.1 hx.2
      have es : m_s1 w = zs_put w 17 0 ((v 20 0 + 1) % 200) := by
        unfold m_s1
        rw [if_neg ho, en]
      rw [← es] at h3
      obtain ⟨g1, g2⟩ := ih h3 hs
      rw [if_neg ho]
      exact ⟨g1, by omega⟩
theorem RR_sweep {c : Int} {v w v' : zs_V} (h : RR c v w) {n r : Int} (hs : x_Swe v n r v') : RR c v' (m_sweS w n) ∧ r = m_sweR w n := by
  unfold m_sweS m_sweR
  rcases hs with ⟨c1, rfl, rfl⟩ | ⟨c1, hs⟩
  · rw [if_neg c1, if_neg c1]
    exact ⟨h, rfl⟩
  · rw [if_pos c1, if_pos c1]
    exact RR_sw n.toNat h hs
