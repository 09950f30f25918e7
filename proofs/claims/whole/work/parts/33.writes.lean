
theorem x_write_n (v : zs_V) (p x q : Int) : (x_write v p x) 6 q = if q = p then x else v 6 q := by
  show (zs_put v 6 p x) 6 q = _
  rw [zs_put_e]
theorem x_write_s (v : zs_V) (p x q : Int) : (x_write v p x) 7 q = if q = p then v 4 (v 1 (v 5 p / 1000)) else v 7 q := by
  show (zs_put (zs_put v 6 p x) 7 p (v 4 (v 1 (v 5 p / 1000)))) 7 q = _
  rw [zs_put_e]
  rfl
/-- it is read -/
theorem RR_stamp {c : Int} {v w : zs_V} (h : RR c v w) {p : Int} (ht : r_T v w p) : RR c (x_stamp v p (v 2 (v 5 p / 1000))) (m_stamp w p) := by
  obtain ⟨hA, hB, hL, hQ, hR, hK, hE, hc⟩ := h
  have hf := r_T_f hA ht
  have hs := x_S_at (r_A_w hA) ht.2.1.1 ht.2.1.2
  have ec : v 4 (v 1 (v 5 p / 1000)) = m_clk w p := by rw [hf.1, hA.2.2.1, hA.2.2.2.2.2.1]
  have es : v 2 (v 5 p / 1000) = w 2 (w 5 p) := by rw [hf.1, hA.2.2.2.1]
  refine ⟨r_A_of hA rfl rfl rfl rfl rfl rfl rfl rfl rfl rfl rfl rfl, fun q q0 q1 => ?_, r_L_of hL rfl rfl rfl rfl, r_Q_of hQ rfl rfl rfl rfl rfl, r_R_of hR rfl rfl rfl rfl rfl rfl rfl, r_K_of hK rfl rfl rfl rfl rfl rfl rfl rfl, r_E_of hE rfl rfl, hc⟩
  show (v 5 q = -1 ∧ w 5 q = -99999999) ∨ _
  refine (hB q q0 q1).imp id (fun z => ?_)
  by_cases e : q = p
  · subst e
    obtain ⟨g1, g2, g3, g4, g5, g6, g7, g8, g9, g10, g11⟩ := ht
    have a7 : (x_stamp v q (v 2 (v 5 q / 1000))) 7 q = m_clk w q := by
      unfold x_stamp
      rw [zs_put_r _ _ _ _ (by decide : 7 ≠ 8), zs_put_s, ec]
    have a8 : (x_stamp v q (v 2 (v 5 q / 1000))) 8 q = m_clk w q + w 2 (w 5 q) := by
      unfold x_stamp
      rw [zs_put_s, ec, es]
    have b9 : (m_stamp w q) 9 q = m_clk w q := by
      unfold m_stamp
      rw [zs_put_r _ _ _ _ (by decide : 9 ≠ 10), zs_put_s]
    have b10 : (m_stamp w q) 10 q = m_clk w q + w 2 (w 5 q) := by
      unfold m_stamp
      rw [zs_put_s]
    have bc : m_clk (m_stamp w q) q = m_clk w q := rfl
    have h7 := hf.2.2.2.2.2.2
    refine ⟨g1, g2, g3, g4, g5, g6, by rw [a7, b9], by rw [a8, b10], ?_, ?_, g11⟩
    · rw [b9, bc]; omega
    · rw [b10, bc]; omega
  · exact r_T_of z rfl rfl (by unfold x_stamp; rw [zs_put_r _ _ _ _ (by decide : 7 ≠ 8), zs_put_k _ _ _ _ e]) (by unfold x_stamp; rw [zs_put_k _ _ _ _ e, zs_put_r _ _ _ _ (by decide : 8 ≠ 7)]) rfl rfl rfl rfl (by unfold m_stamp; rw [zs_put_r _ _ _ _ (by decide : 9 ≠ 10), zs_put_k _ _ _ _ e]) (by unfold m_stamp; rw [zs_put_k _ _ _ _ e, zs_put_r _ _ _ _ (by decide : 10 ≠ 9)]) rfl rfl rfl rfl rfl (Int.le_refl _)
theorem RR_read {c : Int} {v w : zs_V} (h : RR c v w) {p : Int} (hp : 0 ≤ p) (ht : r_T v w p) : RR c (x_read v p) (m_read w p) := by
  have hf := r_T_f h.1 ht
  unfold x_read m_read
  rw [if_neg (by omega), hf.1, h.1.2.2.2.2.1]
  by_cases e : w 3 (w 5 p) = 1
  · rw [if_pos e, if_pos e]
    have := RR_stamp h ht
    rw [hf.1] at this
    exact this
  · rw [if_neg e, if_neg e]
    exact h
/-- what a written place is -/
theorem r_T_write {u w : zs_V} {p s k b : Int} (x : Int) (hAu : r_A u w) (hs : 0 ≤ s ∧ s < w 15 0) (hk : 0 ≤ k ∧ k < 100) (hb : 0 ≤ b ∧ b < 10) (hfb : w 0 s = 1 → b = 0) (hc : 0 ≤ w 16 0) (hsl : u 5 p = s * 1000 + k * 10 + b) : r_T (x_write u p x) (m_wr w p s k b x) p := by
  have hs1 := x_S_at (r_A_w hAu) hs.1 hs.2
  have hd : u 5 p / 1000 = s := by omega
  have ec : u 4 (u 1 s) = w 4 (w 1 s) := by rw [hAu.2.2.1, hAu.2.2.2.2.2.1]
  have es : u 2 s = w 2 s := by rw [hAu.2.2.2.1]
  have bc : m_clk (m_wr w p s k b x) p = w 4 (w 1 s) := by
    show w 4 (w 1 ((m_wr w p s k b x) 5 p)) = _
    rw [m_wr_5, if_pos rfl]
  unfold r_T
  rw [bc, m_wr_5, m_wr_6, m_wr_7, m_wr_8, m_wr_9, m_wr_10, m_wr_11, if_pos rfl, if_pos rfl, if_pos rfl, if_pos rfl, if_pos rfl, if_pos rfl, if_pos rfl, x_write_n, x_write_s, x_write_e, if_pos rfl, if_pos rfl, if_pos rfl, hd, ec, es]
  have e16 : (m_wr w p s k b x) 16 0 = w 16 0 + 1 := rfl
  have e15 : (m_wr w p s k b x) 15 0 = w 15 0 := rfl
  have e0 : (m_wr w p s k b x) 0 = w 0 := rfl
  have e5 : (x_write u p x) 5 p = u 5 p := rfl
  rw [e16, e15, e0, e5]
  refine ⟨hsl, hs, hk, hb, hfb, rfl, rfl, rfl, ?_, ?_, ?_, ?_⟩ <;> omega
/-- written over (form 0) -/
theorem RR_over {c : Int} {v w : zs_V} (h : RR c v w) {p s k b : Int} (x : Int) (hp : 0 ≤ p ∧ p < 200) (ht : r_T v w p) (e5 : w 5 p = s) (e6 : w 6 p = k) (e7 : w 7 p = b) (hf0 : w 0 s = 0) : RR (c + 1) (x_write v p x) (m_wr w p s k b x) := by
  obtain ⟨hA, hB, hL, hQ, hR, hK, hE, hc⟩ := h
  have hm := r_L_m hA hL hp.1 hp.2 ht
  have ht2 := ht
  obtain ⟨g1, g2, g3, g4, g5, g6, g7, g8, g9, g10, g11⟩ := ht2
  rw [e5] at g2 g5
  rw [e6] at g3
  rw [e7] at g4
  rw [e5] at g1
  rw [e6, e7] at g1
  have h5 : (m_wr w p s k b x) 5 = w 5 := by
    funext q
    rw [m_wr_5]
    by_cases e : q = p
    · rw [if_pos e, e, e5]
    · rw [if_neg e]
  have exL : x_L (x_write v p x) = x_L v := x_L_of rfl rfl
  refine ⟨r_A_of hA rfl rfl rfl rfl rfl rfl rfl rfl rfl rfl rfl rfl, fun q q0 q1 => ?_, ⟨hL.1, fun q => by rw [exL]; exact hL.2.1 q, ?_⟩, r_Q_of hQ rfl rfl rfl rfl h5, r_R_of hR rfl rfl rfl rfl rfl rfl rfl, r_K_of hK rfl rfl rfl rfl rfl rfl rfl rfl, r_E_of hE rfl rfl, ?_⟩
  · rw [h5]
    show (v 5 q = -1 ∧ w 5 q = -99999999) ∨ _
    refine (hB q q0 q1).imp id (fun z => ?_)
    by_cases e : q = p
    · subst e
      exact r_T_write x hA g2 g3 g4 (by rw [e7] at g5; exact g5) hc.1 g1
    · exact r_T_of z rfl (by rw [x_write_n, if_neg e]) (by rw [x_write_s, if_neg e]) (by rw [x_write_e, if_neg e]) (by rw [m_wr_5, if_neg e]) (by rw [m_wr_6, if_neg e]) (by rw [m_wr_7, if_neg e]) (by rw [m_wr_8, if_neg e]) (by rw [m_wr_9, if_neg e]) (by rw [m_wr_10, if_neg e]) (by rw [m_wr_11, if_neg e]) rfl rfl rfl rfl (by show w 16 0 ≤ w 16 0 + 1; omega)
  · rw [exL]
    refine List.Pairwise.imp_of_mem (fun {a d} ha hd z => ?_) hL.2.2
    show v 5 a < v 5 d ∨ (v 5 a = v 5 d ∧ (m_wr w p s k b x) 11 a < (m_wr w p s k b x) 11 d)
    rcases z with z | z
    · exact Or.inl z
    · by_cases ea : a = p
      · have := hQ p d hm hd (by rw [← ea]; exact z.1) (by rw [e5]; exact hf0)
        rw [ea, ← this] at z
        omega
      · by_cases ed : d = p
        · have := hQ p a hm ha (by rw [← ed]; exact z.1.symm) (by rw [e5]; exact hf0)
          exact absurd this.symm ea
        · rw [m_wr_11, m_wr_11, if_neg ea, if_neg ed]
          exact Or.inr z
  · show 0 ≤ w 16 0 + 1 ∧ w 16 0 + 1 ≤ c + 1
    omega
theorem z_last {R : Int → Int → Prop} {A : List Int} (hP : A.Pairwise R) {l a : Int} (hl : A.getLast? = some l) (ha : a ∈ A) : a = l ∨ R a l := by
  obtain ⟨ys, rfl⟩ := List.getLast?_eq_some_iff.mp hl
  rcases List.mem_append.mp ha with h | h
  · exact Or.inr ((List.pairwise_append.mp hP).2.2 a h l (List.mem_singleton.mpr rfl))
  · exact Or.inl (List.mem_singleton.mp h)
/-- a new one -/
theorem RR_new {c : Int} {v w u : zs_V} (h : RR c v w) {p s k b : Int} (x : Int) (hp : 0 ≤ p ∧ p < 200) (hfree : v 5 p = -1) (hs : 0 ≤ s ∧ s < w 15 0) (hk : 0 ≤ k ∧ k < 100) (hb : 0 ≤ b ∧ b < 10) (hfb : w 0 s = 1 → b = 0) (hu : x_Tak v p (s * 1000 + k * 10 + b) u) (huq : w 0 s = 0 → ∀ q ∈ x_L v, ¬ v 5 q = s * 1000 + k * 10 + b) (ht200 : v 16 0 < 200) : RR (c + 1) (x_write u p x) (m_wr w p s k b x) := by
  obtain ⟨hA, hB, hL, hQ, hR, hK, hE, hc⟩ := h
  obtain ⟨f, s5, t1, A, B, x1, x2, x3, x4⟩ := hu
  have hAu : r_A u w := r_A_of hA (f 0 (by decide) (by decide) (by decide)) (f 1 (by decide) (by decide) (by decide)) (f 2 (by decide) (by decide) (by decide)) (f 3 (by decide) (by decide) (by decide)) (f 4 (by decide) (by decide) (by decide)) (f 15 (by decide) (by decide) (by decide)) rfl rfl rfl rfl rfl rfl
  have hpn : p ∉ x_L v := fun z => ((hL.2.1 p).mp z).2.2 hfree
  have hmem : ∀ q, q ∈ x_L u ↔ q = p ∨ q ∈ x_L v := fun q => by
    rw [x2, x1]
    simp only [List.mem_append, List.mem_cons]
    constructor
    · rintro (z | z | z)
      · exact Or.inr (Or.inl z)
      · exact Or.inl z
      · exact Or.inr (Or.inr z)
    · rintro (z | z | z)
      · exact Or.inr (Or.inl z)
      · exact Or.inl z
      · exact Or.inr (Or.inr z)
  have exL : x_L (x_write u p x) = x_L u := x_L_of rfl rfl
  have hAv : (A ++ B).Pairwise (r_lt v w) := by rw [← x1]; exact hL.2.2
  have hAB := List.pairwise_append.mp hAv
  have hsA : ∀ a ∈ A, v 5 a ≤ s * 1000 + k * 10 + b := fun a ha => by
    cases hl : A.getLast? with
    | none =>
      rw [List.getLast?_eq_none_iff] at hl
      rw [hl] at ha
      simp at ha
    | some l =>
      have h1 := x4 l hl
      rcases z_last hAB.1 hl ha with e | e
      · rw [e]; exact h1
      · rcases e with e | e <;> omega
  have hcm : ∀ q ∈ x_L v, w 11 q ≤ w 16 0 := fun q hq => (r_L_t hB hL hq).2.2.2.2.2.2.2.2.2.2.2
  have hslw : ∀ q, (x_write u p x) 5 q = if q = p then s * 1000 + k * 10 + b else v 5 q := fun q => by
    show u 5 q = _
    exact s5 q
  have hsp : u 5 p = s * 1000 + k * 10 + b := by rw [s5 p, if_pos rfl]
  refine ⟨r_A_of hAu rfl rfl rfl rfl rfl rfl rfl rfl rfl rfl rfl rfl, fun q q0 q1 => ?_, ⟨?_, fun q => ?_, ?_⟩, fun q1 q2 m1 m2 e hf => ?_, r_R_of hR (f 10 (by decide) (by decide) (by decide)) (f 17 (by decide) (by decide) (by decide)) (f 18 (by decide) (by decide) (by decide)) (f 19 (by decide) (by decide) (by decide)) rfl rfl rfl, r_K_of hK (f 11 (by decide) (by decide) (by decide)) (f 12 (by decide) (by decide) (by decide)) (f 13 (by decide) (by decide) (by decide)) (f 14 (by decide) (by decide) (by decide)) rfl rfl rfl rfl, r_E_of hE (f 20 (by decide) (by decide) (by decide)) rfl, ?_⟩
  · rw [hslw q, m_wr_5]
    by_cases e : q = p
    · right
      subst e
      exact r_T_write x hAu hs hk hb hfb hc.1 hsp
    · rw [if_neg e, if_neg e]
      refine (hB q q0 q1).imp id (fun z => ?_)
      exact r_T_of z (by rw [hslw q, if_neg e]) (by rw [x_write_n, if_neg e, f 6 (by decide) (by decide) (by decide)]) (by rw [x_write_s, if_neg e, f 7 (by decide) (by decide) (by decide)]) (by rw [x_write_e, if_neg e, f 8 (by decide) (by decide) (by decide)]) (by rw [m_wr_5, if_neg e]) (by rw [m_wr_6, if_neg e]) (by rw [m_wr_7, if_neg e]) (by rw [m_wr_8, if_neg e]) (by rw [m_wr_9, if_neg e]) (by rw [m_wr_10, if_neg e]) (by rw [m_wr_11, if_neg e]) rfl rfl rfl rfl (by show w 16 0 ≤ w 16 0 + 1; omega)
  · show 0 ≤ u 16 0 ∧ u 16 0 ≤ 200
    rw [t1]
    have := hL.1.1
    omega
  · rw [exL, hmem q, hL.2.1 q, hslw q]
    by_cases e : q = p
    · rw [if_pos e]
      constructor
      · intro _
        exact ⟨by omega, by omega, by omega⟩
      · intro _
        exact Or.inl e
    · rw [if_neg e]
      constructor
      · rintro (z | z)
        · exact absurd z e
        · exact z
      · intro z
        exact Or.inr z
  · rw [exL, x2]
    have hne : ∀ q, q ∈ x_L v → q ≠ p := fun q hq e => hpn (e ▸ hq)
    have old : ∀ a d, a ∈ x_L v → d ∈ x_L v → r_lt v w a d → r_lt (x_write u p x) (m_wr w p s k b x) a d := fun a d ha hd z => by
      show (x_write u p x) 5 a < (x_write u p x) 5 d ∨ ((x_write u p x) 5 a = (x_write u p x) 5 d ∧ (m_wr w p s k b x) 11 a < (m_wr w p s k b x) 11 d)
      rw [hslw a, hslw d, m_wr_11, m_wr_11, if_neg (hne a ha), if_neg (hne d hd), if_neg (hne a ha), if_neg (hne d hd)]
      exact z
    have iA : ∀ a ∈ A, a ∈ x_L v := fun a ha => by rw [x1]; exact List.mem_append_left _ ha
    have iB : ∀ a ∈ B, a ∈ x_L v := fun a ha => by rw [x1]; exact List.mem_append_right _ ha
    refine List.pairwise_append.mpr ⟨List.Pairwise.imp_of_mem (fun {a d} ha hd z => old a d (iA a ha) (iA d hd) z) hAB.1, List.pairwise_cons.mpr ⟨fun d hd => ?_, List.Pairwise.imp_of_mem (fun {a d} ha hd z => old a d (iB a ha) (iB d hd) z) hAB.2.1⟩, fun a ha d hd => ?_⟩
    · left
      rw [hslw p, hslw d, if_pos rfl, if_neg (hne d (iB d hd))]
      exact x3 d hd
    · rcases List.mem_cons.mp hd with e | e
      · subst e
        have h1 := hsA a ha
        have h2 := hcm a (iA a ha)
        show (x_write u d x) 5 a < (x_write u d x) 5 d ∨ ((x_write u d x) 5 a = (x_write u d x) 5 d ∧ (m_wr w d s k b x) 11 a < (m_wr w d s k b x) 11 d)
        rw [hslw a, hslw d, m_wr_11, m_wr_11, if_neg (hne a (iA a ha)), if_pos rfl, if_neg (hne a (iA a ha)), if_pos rfl]
        omega
      · exact old a d (iA a ha) (iB d e) (hAB.2.2 a ha d e)
  · rw [exL] at m1 m2
    rw [hslw q1, hslw q2] at e
    rw [m_wr_5] at hf
    have hf : w 0 (if q1 = p then s else w 5 q1) = 0 := hf
    rcases (hmem q1).mp m1 with z1 | z1
    · rcases (hmem q2).mp m2 with z2 | z2
      · rw [z1, z2]
      · have hn2 : q2 ≠ p := fun y => hpn (y ▸ z2)
        rw [if_pos z1] at e hf
        rw [if_neg hn2] at e
        exact absurd e.symm (huq hf q2 z2)
    · have hn1 : q1 ≠ p := fun y => hpn (y ▸ z1)
      rw [if_neg hn1] at e hf
      rcases (hmem q2).mp m2 with z2 | z2
      · rw [if_pos z2] at e
        have ht1 := r_L_t hB hL z1
        have hst : w 5 q1 = s := by
          obtain ⟨g1, g2, g3, g4, -⟩ := ht1
          omega
        rw [hst] at hf
        exact absurd e (huq hf q1 z1)
      · have hn2 : q2 ≠ p := fun y => hpn (y ▸ z2)
        rw [if_neg hn2] at e
        exact hQ q1 q2 z1 z2 e hf
  · show 0 ≤ w 16 0 + 1 ∧ w 16 0 + 1 ≤ c + 1
    omega
/-- free places agree -/
theorem r_free {v w : zs_V} (hA : r_A v w) (hB : r_B v w) : (x_lf v 200 0 = -1 ∧ m_fr w z_Z = -99999999) ∨ (¬ x_lf v 200 0 = -1 ∧ x_lf v 200 0 = m_fr w z_Z ∧ ¬ m_fr w z_Z = -99999999) := by
  have key : ∀ (n : Nat) (p : Int), 0 ≤ p → p + n = 200 → (x_lf v n p = -1 ∧ m_fr w (z_fr p n) = -99999999) ∨ (¬ x_lf v n p = -1 ∧ x_lf v n p = m_fr w (z_fr p n) ∧ ¬ m_fr w (z_fr p n) = -99999999) := by
    intro n
    induction n with
    | zero => intro p _ _; exact Or.inl ⟨rfl, rfl⟩
    | succ n ih =>
      intro p h0 hn
      simp only [x_lf, z_fr, m_fr]
      rcases hB p h0 (by omega) with z | z
      · rw [if_pos z.1, if_pos z.2]
        exact Or.inr ⟨by omega, rfl, by omega⟩
      · have hn2 := r_T_n hA z
        rw [if_neg hn2.1, if_neg hn2.2]
        exact ih (p + 1) (by omega) (by omega)
  exact key 200 0 (by omega) (by omega)
/-- a clock moves on -/
theorem RR_clock {c : Int} {v w : zs_V} (h : RR c v w) {cl t : Int} (hcl : cl = 0 ∨ cl = 1) (h1 : w 4 cl ≤ t) (h2 : 0 ≤ t ∧ t ≤ 1000000000) : RR c (zs_put v 4 cl t) (zs_put w 4 cl t) := by
  obtain ⟨hA, hB, hL, hQ, hR, hK, hE, hc⟩ := h
  have hle : ∀ j : Int, w 4 j ≤ (zs_put w 4 cl t) 4 j := fun j => by
    rw [zs_put_e]
    split
    · next e => rw [e]; exact h1
    · exact Int.le_refl _
  refine ⟨⟨m_now_S hA.1 hcl h2, hA.2.1, hA.2.2.1, hA.2.2.2.1, hA.2.2.2.2.1, ?_, hA.2.2.2.2.2.2⟩, fun q q0 q1 => ?_, r_L_of hL rfl rfl rfl rfl, r_Q_of hQ rfl rfl rfl rfl rfl, r_R_of hR rfl rfl rfl rfl rfl rfl rfl, r_K_of hK rfl rfl rfl rfl rfl rfl rfl rfl, r_E_of hE rfl rfl, hc⟩
  · funext j
    rw [zs_put_e, zs_put_e, hA.2.2.2.2.2.1]
  · refine (hB q q0 q1).imp id (fun z => ?_)
    obtain ⟨g1, g2, g3, g4, g5, g6, g7, g8, g9, g10, g11⟩ := z
    have hl := hle (w 1 (w 5 q))
    have g9 : 0 ≤ w 9 q ∧ w 9 q ≤ w 4 (w 1 (w 5 q)) := g9
    have g10 : 0 ≤ w 10 q ∧ w 10 q ≤ w 4 (w 1 (w 5 q)) + 100000 := g10
    refine ⟨g1, g2, g3, g4, g5, g6, g7, g8, ?_, ?_, g11⟩
    · show 0 ≤ w 9 q ∧ w 9 q ≤ (zs_put w 4 cl t) 4 (w 1 (w 5 q))
      omega
    · show 0 ≤ w 10 q ∧ w 10 q ≤ (zs_put w 4 cl t) 4 (w 1 (w 5 q)) + 100000
      omega
