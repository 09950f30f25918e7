
/-! counts -/
theorem x_hm_sum (v : zs_V) (s k b : Int) (L : List Int) : x_hm v s k b L = z_sum (fun p => if (v 5 p / 1000 = s ∧ v 5 p / 10 % 100 = k) ∧ zb (0 < x_left v p) = b then 1 else 0) L := by
  induction L with
  | nil => rfl
  | cons p ps ih => simp only [x_hm, z_sum]; rw [ih]
theorem x_hs_sum (v : zs_V) (L : List Int) : x_hs v L = z_sum (fun p => if 0 < x_left v p then 1 else 0) L := by
  induction L with
  | nil => rfl
  | cons p ps ih => simp only [x_hs, z_sum]; rw [ih]
theorem m_hd_sum (w : zs_V) (s k o : Int) (L : List Int) : m_hd w s k o L = z_sum (fun p => if w 5 p = s ∧ w 6 p = k ∧ ¬ zb (m_sh w p) = o then 1 else 0) L := by
  induction L with
  | nil => rfl
  | cons p ps ih => simp only [m_hd, z_sum]; rw [ih]
theorem m_cs_sum (w : zs_V) (L : List Int) : m_cs w L = z_sum (fun p => if m_sh w p then 1 else 0) L := by
  induction L with
  | nil => rfl
  | cons p ps ih => simp only [m_cs, z_sum]; rw [ih]
theorem m_ca_sum (w : zs_V) (L : List Int) : m_ca w L = z_sum (fun p => if ¬ w 5 p = -99999999 then 1 else 0) L := by
  induction L with
  | nil => rfl
  | cons p ps ih => simp only [m_ca, z_sum]; rw [ih]
theorem m_os_ca (w : zs_V) (L : List Int) : m_os w L = m_ca w L - m_cs w L := by
  induction L with
  | nil => rfl
  | cons p ps ih =>
    simp only [m_os, m_ca, m_cs]
    rw [ih]
    by_cases h : w 5 p = -99999999
    · rw [if_neg (fun z => z.1 h), if_neg (fun z => z h), if_neg (fun z => z.1 h)]
      omega
    · by_cases h2 : m_clk w p < w 10 p
      · rw [if_neg (fun z => by have := z.2; omega), if_pos h, if_pos ⟨h, h2⟩]
        omega
      · rw [if_pos ⟨h, by omega⟩, if_pos h, if_neg (fun z => h2 z.2)]
        omega
theorem z_sum_1 (L : List Int) : z_sum (fun _ => 1) L = L.length := by
  induction L with
  | nil => rfl
  | cons p ps ih =>
    simp only [z_sum, List.length_cons]
    rw [ih]
    omega
theorem m_ca_of {u w : zs_V} (h : u 5 = w 5) (L : List Int) : m_ca u L = m_ca w L := by
  rw [m_ca_sum, m_ca_sum, h]
theorem r_hs {v w : zs_V} (hA : r_A v w) (hB : r_B v w) (hL : r_L v w) : x_hs v (x_L v) = m_cs w z_Z := by
  rw [x_hs_sum, m_cs_sum]
  refine RR_sum hB hL (fun p ht _ _ => ?_) (fun p hn => if_neg (fun z => z.1 hn))
  by_cases c : 0 < x_left v p
  · rw [if_pos c, if_pos ((r_T_sh hA ht).mp c)]
  · rw [if_neg c, if_neg (fun z => c ((r_T_sh hA ht).mpr z))]
theorem r_ca {v w : zs_V} (hA : r_A v w) (hB : r_B v w) (hL : r_L v w) : v 16 0 = m_ca w z_Z := by
  have hlen : (x_L v).length = (v 16 0).toNat := x_seg_len v 0 _
  have h1 := z_sum_1 (x_L v)
  rw [m_ca_sum, ← RR_sum (f := fun _ => 1) hB hL (fun p ht _ _ => (if_pos (r_T_n hA ht).2).symm) (fun p hn => if_neg (fun z => z hn)), h1, hlen]
  have := hL.1.1
  omega
theorem r_hm {v w : zs_V} (hA : r_A v w) (hB : r_B v w) (hL : r_L v w) {s k o : Int} (hs : 0 ≤ s ∧ s < w 15 0) (ho : o = 0 ∨ o = 1) : x_hm v s k (if o = 0 then 1 else 0) (x_L v) = m_hd w s k o z_Z := by
  rw [x_hm_sum, m_hd_sum]
  refine RR_sum hB hL (fun p ht _ _ => ?_) (fun p hn => if_neg (fun z => by have := z.1; omega))
  have hf := r_T_f hA ht
  rw [hf.1, hf.2.1, zb_c (r_T_sh hA ht)]
  have hb := zb_01 (m_sh w p)
  have e : (zb (m_sh w p) = if o = 0 then 1 else 0) ↔ ¬ zb (m_sh w p) = o := by
    rcases ho with rfl | rfl
    · simp; omega
    · simp; omega
  by_cases c : (w 5 p = s ∧ w 6 p = k) ∧ ¬ zb (m_sh w p) = o
  · rw [if_pos ⟨c.1, e.mpr c.2⟩, if_pos ⟨c.1.1, c.1.2, c.2⟩]
  · rw [if_neg (fun z => c ⟨z.1, e.mp z.2⟩), if_neg (fun z => c ⟨⟨z.1, z.2.1⟩, z.2.2⟩)]
theorem r_held {v w : zs_V} (hA : r_A v w) (hB : r_B v w) (hL : r_L v w) (s k : Int) {o : Int} (ho : o = 0 ∨ o = 1) : x_heldR v s k o = m_heldR w s k o := by
  unfold x_heldR m_heldR
  rw [hA.2.2.2.2.2.2]
  by_cases c : ((0 ≤ s ∧ s < w 15 0) ∧ 0 ≤ k ∧ k < 100)
  · rw [if_pos c, if_pos c]
    exact r_hm hA hB hL c.1 ho
  · rw [if_neg c, if_neg c]
theorem r_row {v w : zs_V} (hR : r_R v w) (i c : Int) : x_rowR v i c = m_rowR w i c := by
  unfold x_rowR m_rowR
  rw [← hR.1]
  by_cases h : (0 ≤ i ∧ i < v 18 0) ∧ 0 ≤ c ∧ c < 6
  · rw [if_pos h, if_pos h]
    exact hR.2.2.2.2 i c h.1.1 h.1.2 h.2.1 h.2.2
  · rw [if_neg h, if_neg h]
theorem r_count {v w : zs_V} (hA : r_A v w) (hB : r_B v w) (hL : r_L v w) (hR : r_R v w) (hE : r_E v w) (c : Int) : x_countR v c = m_countA w c (m_ca w z_Z) (m_cs w z_Z) := by
  unfold x_countR m_countA
  rw [r_hs hA hB hL, ← r_ca hA hB hL, hR.1, hR.2.1, hE.1, hA.2.2.2.2.2.1, hA.2.2.2.2.2.2]
/-! the least end -/
theorem x_nx_min (v : zs_V) (s : Int) (L : List Int) : (∀ p ∈ L, 0 ≤ v 8 p) → ∀ l, (x_nx v s L l = -99999999 → l = -99999999 ∧ ∀ p ∈ L, ¬ (v 5 p / 1000 = s ∧ 0 < x_left v p)) ∧ (¬ x_nx v s L l = -99999999 → (x_nx v s L l = l ∨ ∃ p ∈ L, (v 5 p / 1000 = s ∧ 0 < x_left v p) ∧ x_nx v s L l = v 8 p) ∧ (¬ l = -99999999 → x_nx v s L l ≤ l) ∧ ∀ p ∈ L, (v 5 p / 1000 = s ∧ 0 < x_left v p) → x_nx v s L l ≤ v 8 p) := by
  induction L with
  | nil =>
    intro _ l
    simp only [x_nx]
    exact ⟨fun h => ⟨h, fun p hp => by simp at hp⟩, fun h => ⟨Or.inl (by trivial), fun _ => Int.le_refl _, fun p hp => by simp at hp⟩⟩
  | cons p ps ih =>
    intro he l
    have hp0 := he p List.mem_cons_self
    have ih := ih (fun q hq => he q (List.mem_cons_of_mem _ hq))
    simp only [x_nx]
    by_cases c : v 5 p / 1000 = s ∧ 0 < x_left v p ∧ (l = -99999999 ∨ v 8 p < l)
    · rw [if_pos c]
      obtain ⟨i1, i2⟩ := ih (v 8 p)
      refine ⟨fun h => absurd (i1 h).1 (by omega), fun h => ?_⟩
      obtain ⟨j1, j2, j3⟩ := i2 h
      have j2 := j2 (by omega)
      refine ⟨Or.inr ?_, fun hl => ?_, fun q hq hg => ?_⟩
      · rcases j1 with j | ⟨q, hq, hg, e⟩
        · exact ⟨p, List.mem_cons_self, ⟨c.1, c.2.1⟩, j⟩
        · exact ⟨q, List.mem_cons_of_mem _ hq, hg, e⟩
      · rcases c.2.2 with d | d
        · exact absurd d hl
        · omega
      · rcases List.mem_cons.mp hq with e | e
        · rw [e]; exact j2
        · exact j3 q e hg
    · rw [if_neg c]
      obtain ⟨i1, i2⟩ := ih l
      refine ⟨fun h => ?_, fun h => ?_⟩
      · obtain ⟨a, b⟩ := i1 h
        refine ⟨a, fun q hq hg => ?_⟩
        rcases List.mem_cons.mp hq with e | e
        · rw [e] at hg; exact c ⟨hg.1, hg.2, Or.inl a⟩
        · exact b q e hg
      · obtain ⟨j1, j2, j3⟩ := i2 h
        refine ⟨?_, j2, fun q hq hg => ?_⟩
        · rcases j1 with j | ⟨q, hq, hg, e⟩
          · exact Or.inl j
          · exact Or.inr ⟨q, List.mem_cons_of_mem _ hq, hg, e⟩
        · rcases List.mem_cons.mp hq with e | e
          · rw [e] at hg ⊢
            have hl : ¬ l = -99999999 := fun z => c ⟨hg.1, hg.2, Or.inl z⟩
            have h1 := j2 hl
            have h2 : ¬ v 8 p < l := fun z => c ⟨hg.1, hg.2, Or.inr z⟩
            omega
          · exact j3 q e hg
theorem m_nx_min (w : zs_V) (s : Int) (hs : ¬ s = -99999999) (L : List Int) : (∀ p ∈ L, w 5 p = s → 0 ≤ w 10 p) → ∀ l, (m_nx w s L l = -99999999 → l = -99999999 ∧ ∀ p ∈ L, ¬ (w 5 p = s ∧ m_sh w p)) ∧ (¬ m_nx w s L l = -99999999 → (m_nx w s L l = l ∨ ∃ p ∈ L, (w 5 p = s ∧ m_sh w p) ∧ m_nx w s L l = w 10 p) ∧ (¬ l = -99999999 → m_nx w s L l ≤ l) ∧ ∀ p ∈ L, (w 5 p = s ∧ m_sh w p) → m_nx w s L l ≤ w 10 p) := by
  induction L with
  | nil =>
    intro _ l
    simp only [m_nx]
    exact ⟨fun h => ⟨h, fun p hp => by simp at hp⟩, fun h => ⟨Or.inl (by trivial), fun _ => Int.le_refl _, fun p hp => by simp at hp⟩⟩
  | cons p ps ih =>
    intro he l
    have hp0 := he p List.mem_cons_self
    have ih := ih (fun q hq => he q (List.mem_cons_of_mem _ hq))
    simp only [m_nx]
    by_cases c : w 5 p = s ∧ m_sh w p ∧ (l = -99999999 ∨ w 10 p < l)
    · rw [if_pos c]
      have hp0 := hp0 c.1
      obtain ⟨i1, i2⟩ := ih (w 10 p)
      refine ⟨fun h => absurd (i1 h).1 (by omega), fun h => ?_⟩
      obtain ⟨j1, j2, j3⟩ := i2 h
      have j2 := j2 (by omega)
      refine ⟨Or.inr ?_, fun hl => ?_, fun q hq hg => ?_⟩
      · rcases j1 with j | ⟨q, hq, hg, e⟩
        · exact ⟨p, List.mem_cons_self, ⟨c.1, c.2.1⟩, j⟩
        · exact ⟨q, List.mem_cons_of_mem _ hq, hg, e⟩
      · rcases c.2.2 with d | d
        · exact absurd d hl
        · omega
      · rcases List.mem_cons.mp hq with e | e
        · rw [e]; exact j2
        · exact j3 q e hg
    · rw [if_neg c]
      obtain ⟨i1, i2⟩ := ih l
      refine ⟨fun h => ?_, fun h => ?_⟩
      · obtain ⟨a, b⟩ := i1 h
        refine ⟨a, fun q hq hg => ?_⟩
        rcases List.mem_cons.mp hq with e | e
        · rw [e] at hg; exact c ⟨hg.1, hg.2, Or.inl a⟩
        · exact b q e hg
      · obtain ⟨j1, j2, j3⟩ := i2 h
        refine ⟨?_, j2, fun q hq hg => ?_⟩
        · rcases j1 with j | ⟨q, hq, hg, e⟩
          · exact Or.inl j
          · exact Or.inr ⟨q, List.mem_cons_of_mem _ hq, hg, e⟩
        · rcases List.mem_cons.mp hq with e | e
          · rw [e] at hg ⊢
            have hl : ¬ l = -99999999 := fun z => c ⟨hg.1, hg.2, Or.inl z⟩
            have h1 := j2 hl
            have h2 : ¬ w 10 p < l := fun z => c ⟨hg.1, hg.2, Or.inr z⟩
            omega
          · exact j3 q e hg
theorem r_next {v w : zs_V} (hA : r_A v w) (hB : r_B v w) (hL : r_L v w) (s : Int) : x_nextR v s = m_nextR w s := by
  unfold x_nextR m_nextR
  rw [hA.2.2.2.2.2.2]
  by_cases c : 0 ≤ s ∧ s < w 15 0
  · rw [if_pos c, if_pos c]
    have X := x_nx_min v s (x_L v) (fun p hp => by have ht := r_L_t hB hL hp; rw [ht.2.2.2.2.2.2.2.1]; exact ht.2.2.2.2.2.2.2.2.2.1.1) (-99999999)
    have Y := m_nx_min w s (by omega) z_Z (fun p hp hs => by have hb := z_Z_m.mp hp; exact (r_B_w hB hb.1 hb.2 (by omega)).2.2.2.2.2.2.2.2.2.1.1) (-99999999)
    have hxy : ∀ p, p ∈ x_L v → (v 5 p / 1000 = s ∧ 0 < x_left v p) → p ∈ z_Z ∧ (w 5 p = s ∧ m_sh w p) ∧ w 10 p = v 8 p := fun p hp hg => by
      have ht := r_L_t hB hL hp
      have hb := (hL.2.1 p).mp hp
      have hf := r_T_f hA ht
      exact ⟨z_Z_m.mpr ⟨hb.1, hb.2.1⟩, ⟨by omega, (r_T_sh hA ht).mp hg.2⟩, ht.2.2.2.2.2.2.2.1.symm⟩
    have hyx : ∀ p, p ∈ z_Z → (w 5 p = s ∧ m_sh w p) → p ∈ x_L v ∧ (v 5 p / 1000 = s ∧ 0 < x_left v p) ∧ w 10 p = v 8 p := fun p hp hg => by
      have hb := z_Z_m.mp hp
      have ht := r_B_w hB hb.1 hb.2 hg.2.1
      have hf := r_T_f hA ht
      exact ⟨r_L_m hA hL hb.1 hb.2 ht, ⟨by omega, (r_T_sh hA ht).mpr hg.2⟩, ht.2.2.2.2.2.2.2.1.symm⟩
    generalize x_nx v s (x_L v) (-99999999) = a at X ⊢
    generalize m_nx w s z_Z (-99999999) = b at Y ⊢
    by_cases ha : a = -99999999
    · by_cases hb : b = -99999999
      · omega
      · obtain ⟨j1, j2, j3⟩ := Y.2 hb
        rcases j1 with j | ⟨p, hp, hg, e⟩
        · omega
        · obtain ⟨q1, q2, q3⟩ := hyx p hp hg
          exact absurd q2 ((X.1 ha).2 p q1)
    · obtain ⟨i1, i2, i3⟩ := X.2 ha
      rcases i1 with i | ⟨p, hp, hg, e⟩
      · exact absurd i ha
      · obtain ⟨q1, q2, q3⟩ := hxy p hp hg
        by_cases hb : b = -99999999
        · exact absurd q2 ((Y.1 hb).2 p q1)
        · obtain ⟨j1, j2, j3⟩ := Y.2 hb
          have k1 := j3 p q1 q2
          rcases j1 with j | ⟨q, hq, hg2, e2⟩
          · omega
          · obtain ⟨t1, t2, t3⟩ := hyx q hq hg2
            have k2 := i3 q t1 t2
            omega
  · rw [if_neg c, if_neg c]
/-! searches -/
abbrev x_C (v : zs_V) (sl ov p : Int) : Prop := v 5 p = sl ∧ (¬ ov = 0 ∨ 0 < x_left v p)
theorem x_pl_fl (v : zs_V) (sl i ov : Int) (L : List Int) : ∀ b, b ≤ i → x_pl v sl i ov L b = ((L.filter (fun p => decide (x_C v sl ov p)))[(i - b).toNat]?).getD (-1) := by
  induction L with
  | nil => intro b _; rfl
  | cons p ps ih =>
    intro b hb
    simp only [x_pl]
    by_cases c : x_C v sl ov p
    · rw [if_pos c, List.filter_cons_of_pos (by simpa using c)]
      by_cases e : b = i
      · rw [if_pos e, e, show (i - i).toNat = 0 by omega]
        rfl
      · rw [if_neg e, ih (b + 1) (by omega), show (i - b).toNat = (i - (b + 1)).toNat + 1 by omega]
        rfl
    · rw [if_neg c, List.filter_cons_of_neg (by simpa using c)]
      exact ih b hb
theorem x_pl_neg (v : zs_V) (sl i ov : Int) (L : List Int) : ∀ b, i < b → x_pl v sl i ov L b = -1 := by
  induction L with
  | nil => intro b _; rfl
  | cons p ps ih =>
    intro b hb
    simp only [x_pl]
    split
    · rw [if_neg (by omega)]
      exact ih _ (by omega)
    · exact ih _ hb
theorem x_pl_one (v : zs_V) (sl ov : Int) (L : List Int) {p : Int} (hp : p ∈ L) (hc : x_C v sl ov p) (hu : ∀ q ∈ L, x_C v sl ov q → q = p) : x_pl v sl 0 ov L 0 = p := by
  rw [x_pl_fl v sl 0 ov L 0 (by omega)]
  have hm : p ∈ L.filter (fun p => decide (x_C v sl ov p)) := List.mem_filter.mpr ⟨hp, by simpa using hc⟩
  cases hF : L.filter (fun p => decide (x_C v sl ov p)) with
  | nil => rw [hF] at hm; simp at hm
  | cons q F =>
    have hq : q ∈ L.filter (fun p => decide (x_C v sl ov p)) := by rw [hF]; exact List.mem_cons_self
    have := List.mem_filter.mp hq
    have e := hu q this.1 (by simpa using this.2)
    rw [e]
    rfl
theorem x_pl_none (v : zs_V) (sl i ov : Int) (L : List Int) (hu : ∀ q ∈ L, ¬ x_C v sl ov q) : ∀ b, x_pl v sl i ov L b = -1 := by
  induction L with
  | nil => intro b; rfl
  | cons p ps ih =>
    intro b
    simp only [x_pl]
    rw [if_neg (hu p List.mem_cons_self)]
    exact ih (fun q hq => hu q (List.mem_cons_of_mem _ hq)) b
theorem m_fd_none (w : zs_V) (s k b : Int) (L : List Int) (h0 : ∀ p ∈ L, ¬ p = -99999999) (h : m_fd w s k b L = -99999999) : ∀ p ∈ L, ¬ (w 5 p = s ∧ w 6 p = k ∧ w 7 p = b) := by
  induction L with
  | nil => intro p hp; simp at hp
  | cons p ps ih =>
    simp only [m_fd] at h
    by_cases c : w 5 p = s ∧ w 6 p = k ∧ w 7 p = b
    · rw [if_pos c] at h
      exact absurd h (h0 p List.mem_cons_self)
    · rw [if_neg c] at h
      intro q hq
      rcases List.mem_cons.mp hq with e | e
      · rw [e]; exact c
      · exact ih (fun q hq => h0 q (List.mem_cons_of_mem _ hq)) h q e
theorem z_Z_n : ∀ p ∈ z_Z, ¬ p = -99999999 := fun p hp => by have := z_Z_m.mp hp; omega
/-- a number's place (form 0) -/
theorem r_find {v w : zs_V} (hA : r_A v w) (hB : r_B v w) (hL : r_L v w) (hQ : r_Q v w) {s k b : Int} (hs : 0 ≤ s ∧ s < w 15 0) (hk : 0 ≤ k ∧ k < 100) (hb : 0 ≤ b ∧ b < 10) (hf0 : w 0 s = 0) :
    (m_fd w s k b z_Z = -99999999 ∧ ∀ ov, x_pl v (s * 1000 + k * 10 + b) 0 ov (x_L v) 0 = -1) ∨ (¬ m_fd w s k b z_Z = -99999999 ∧ (0 ≤ m_fd w s k b z_Z ∧ m_fd w s k b z_Z < 200) ∧ r_T v w (m_fd w s k b z_Z) ∧ w 5 (m_fd w s k b z_Z) = s ∧ w 6 (m_fd w s k b z_Z) = k ∧ w 7 (m_fd w s k b z_Z) = b ∧ x_pl v (s * 1000 + k * 10 + b) 0 1 (x_L v) 0 = m_fd w s k b z_Z ∧ (m_sh w (m_fd w s k b z_Z) → x_pl v (s * 1000 + k * 10 + b) 0 0 (x_L v) 0 = m_fd w s k b z_Z) ∧ (¬ m_sh w (m_fd w s k b z_Z) → x_pl v (s * 1000 + k * 10 + b) 0 0 (x_L v) 0 = -1)) := by
  by_cases hn : m_fd w s k b z_Z = -99999999
  · left
    refine ⟨hn, fun ov => x_pl_none v _ 0 ov _ (fun q hq hc => ?_) 0⟩
    have ht := r_L_t hB hL hq
    have hbq := (hL.2.1 q).mp hq
    have hno := m_fd_none w s k b z_Z z_Z_n hn q (z_Z_m.mpr ⟨hbq.1, hbq.2.1⟩)
    obtain ⟨g1, g2, g3, g4, -⟩ := ht
    have := hc.1
    omega
  · right
    have hc := (m_fd_c w s k b z_Z).resolve_left hn
    have hbz := z_Z_m.mp hc.1
    obtain ⟨c1, c2, c3, c4⟩ := hc
    generalize m_fd w s k b z_Z = p at *
    have ht := r_B_w hB hbz.1 hbz.2 (by omega)
    have hm := r_L_m hA hL hbz.1 hbz.2 ht
    have hsl : v 5 p = s * 1000 + k * 10 + b := by rw [ht.1, c2, c3, c4]
    have hu : ∀ q ∈ x_L v, v 5 q = s * 1000 + k * 10 + b → q = p := fun q hq e => (hQ p q hm hq (by rw [hsl, e]) (by rw [c2]; exact hf0)).symm
    refine ⟨hn, hbz, ht, c2, c3, c4, x_pl_one v _ 1 _ hm ⟨hsl, Or.inl (by omega)⟩ (fun q hq z => hu q hq z.1), fun h => x_pl_one v _ 0 _ hm ⟨hsl, Or.inr ((r_T_sh hA ht).mpr h)⟩ (fun q hq z => hu q hq z.1), fun h => x_pl_none v _ 0 0 _ (fun q hq z => ?_) 0⟩
    have e := hu q hq z.1
    rw [e] at z
    exact h ((r_T_sh hA ht).mp (z.2.resolve_left (fun y => y rfl)))
theorem m_fi_min (w : zs_V) (s k last sh : Int) (L : List Int) : (∀ p ∈ L, ¬ p = -99999999) → ∀ a, (m_fi w s k last sh L a = -99999999 → a = -99999999 ∧ ∀ p ∈ L, ¬ m_is w s k last sh p) ∧ (¬ m_fi w s k last sh L a = -99999999 → (m_fi w s k last sh L a = a ∨ (m_fi w s k last sh L a ∈ L ∧ m_is w s k last sh (m_fi w s k last sh L a))) ∧ (¬ a = -99999999 → w 11 (m_fi w s k last sh L a) ≤ w 11 a) ∧ ∀ p ∈ L, m_is w s k last sh p → w 11 (m_fi w s k last sh L a) ≤ w 11 p) := by
  induction L with
  | nil =>
    intro _ a
    simp only [m_fi]
    exact ⟨fun h => ⟨h, fun p hp => by simp at hp⟩, fun h => ⟨Or.inl (by trivial), fun _ => Int.le_refl _, fun p hp => by simp at hp⟩⟩
  | cons p ps ih =>
    intro hn a
    have hpn := hn p List.mem_cons_self
    have ih := ih (fun q hq => hn q (List.mem_cons_of_mem _ hq))
    simp only [m_fi]
    by_cases c : m_is w s k last sh p ∧ (a = -99999999 ∨ w 11 p < w 11 a)
    · rw [if_pos c]
      obtain ⟨i1, i2⟩ := ih p
      refine ⟨fun h => absurd (i1 h).1 hpn, fun h => ?_⟩
      obtain ⟨j1, j2, j3⟩ := i2 h
      have j2 := j2 hpn
      refine ⟨Or.inr ?_, fun ha => ?_, fun q hq hg => ?_⟩
      · rcases j1 with j | j
        · rw [j]; exact ⟨List.mem_cons_self, c.1⟩
        · exact ⟨List.mem_cons_of_mem _ j.1, j.2⟩
      · rcases c.2 with d | d
        · exact absurd d ha
        · omega
      · rcases List.mem_cons.mp hq with e | e
        · rw [e]; exact j2
        · exact j3 q e hg
    · rw [if_neg c]
      obtain ⟨i1, i2⟩ := ih a
      refine ⟨fun h => ?_, fun h => ?_⟩
      · obtain ⟨d, e⟩ := i1 h
        refine ⟨d, fun q hq hg => ?_⟩
        rcases List.mem_cons.mp hq with z | z
        · rw [z] at hg; exact c ⟨hg, Or.inl d⟩
        · exact e q z hg
      · obtain ⟨j1, j2, j3⟩ := i2 h
        refine ⟨?_, j2, fun q hq hg => ?_⟩
        · rcases j1 with j | j
          · exact Or.inl j
          · exact Or.inr ⟨List.mem_cons_of_mem _ j.1, j.2⟩
        · rcases List.mem_cons.mp hq with z | z
          · rw [z] at hg ⊢
            have ha : ¬ a = -99999999 := fun y => c ⟨hg, Or.inl y⟩
            have h1 := j2 ha
            have h2 : ¬ w 11 p < w 11 a := fun y => c ⟨hg, Or.inr y⟩
            omega
          · exact j3 q z hg
theorem r_fi {w : zs_V} {s k last sh : Int} {B : List Int} (hB : ∀ p : Int, (0 ≤ p ∧ p < 200) ∧ m_is w s k last sh p ↔ p ∈ B) (hP : B.Pairwise (fun p q => w 11 p < w 11 q)) : m_fi w s k last sh z_Z (-99999999) = (B[0]?).getD (-99999999) := by
  obtain ⟨i1, i2⟩ := m_fi_min w s k last sh z_Z z_Z_n (-99999999)
  cases B with
  | nil =>
    by_cases h : m_fi w s k last sh z_Z (-99999999) = -99999999
    · rw [h]; rfl
    · rcases (i2 h).1 with j | j
      · exact absurd j h
      · exact absurd ((hB _).mp ⟨z_Z_m.mp j.1, j.2⟩) (by simp)
  | cons q B =>
    have hq := (hB q).mpr List.mem_cons_self
    show _ = q
    by_cases h : m_fi w s k last sh z_Z (-99999999) = -99999999
    · exact absurd hq.2 ((i1 h).2 q (z_Z_m.mpr hq.1))
    · obtain ⟨j1, j2, j3⟩ := i2 h
      have j := j1.resolve_left h
      have hm := (hB _).mp ⟨z_Z_m.mp j.1, j.2⟩
      have k1 := j3 q (z_Z_m.mpr hq.1) hq.2
      rcases List.mem_cons.mp hm with e | e
      · exact e
      · have := (List.pairwise_cons.mp hP).1 _ e
        omega
theorem r_fo {w : zs_V} {s k sh : Int} (n : Nat) : ∀ {B : List Int} {last a : Int}, (∀ p : Int, (0 ≤ p ∧ p < 200) ∧ m_is w s k last sh p ↔ p ∈ B) → B.Pairwise (fun p q => w 11 p < w 11 q) → m_fo w s k sh (n + 1) last a = (B[n]?).getD (-99999999) := by
  induction n with
  | zero =>
    intro B last a hB hP
    have h := r_fi hB hP
    simp only [m_fo]
    rw [h]
    split
    · next e => rw [e]
    · rfl
  | succ n ih =>
    intro B last a hB hP
    have h := r_fi hB hP
    rw [m_fo, h]
    cases B with
    | nil => rfl
    | cons q B =>
      have hq := (hB q).mpr List.mem_cons_self
      show (if q = -99999999 then -99999999 else m_fo w s k sh (n + 1) (w 11 q) q) = ((q :: B)[n + 1]?).getD (-99999999)
      rw [if_neg (by omega)]
      have hp := List.pairwise_cons.mp hP
      refine ih (B := B) (fun p => ?_) hp.2
      constructor
      · rintro ⟨h1, h2⟩
        have hm := (hB p).mp ⟨h1, ⟨h2.1, h2.2.1, by have := hq.2.2.2.1; have := h2.2.2.1; omega, h2.2.2.2⟩⟩
        rcases List.mem_cons.mp hm with e | e
        · have := h2.2.2.1
          rw [e] at this
          omega
        · exact e
      · intro hm
        have h1 := (hB p).mpr (List.mem_cons_of_mem _ hm)
        exact ⟨h1.1, h1.2.1, h1.2.2.1, hp.1 p hm, h1.2.2.2.2⟩
/-- the i-th of a list (form 1) -/
theorem r_list {v w : zs_V} (hA : r_A v w) (hB : r_B v w) (hL : r_L v w) {s k i ov sh : Int} (hs : 0 ≤ s ∧ s < w 15 0) (hk : 0 ≤ k ∧ k < 100) (hf1 : w 0 s = 1) (hi : 0 ≤ i) (hov : (ov = 0 ∧ sh = 1) ∨ (ov = 1 ∧ sh = 0)) :
    (x_pl v (s * 1000 + k * 10 + 0) i ov (x_L v) 0 = -1 ∧ (i < 200 → m_fo w s k sh (i + 1).toNat (-1) (-99999999) = -99999999)) ∨ (i < 200 ∧ ¬ x_pl v (s * 1000 + k * 10 + 0) i ov (x_L v) 0 = -1 ∧ x_pl v (s * 1000 + k * 10 + 0) i ov (x_L v) 0 = m_fo w s k sh (i + 1).toNat (-1) (-99999999) ∧ x_pl v (s * 1000 + k * 10 + 0) i ov (x_L v) 0 ∈ x_L v ∧ x_C v (s * 1000 + k * 10 + 0) ov (x_pl v (s * 1000 + k * 10 + 0) i ov (x_L v) 0)) := by
  have hpl := x_pl_fl v (s * 1000 + k * 10 + 0) i ov (x_L v) 0 hi
  have hK : ∀ p : Int, (0 ≤ p ∧ p < 200) ∧ m_is w s k (-1) sh p ↔ p ∈ (x_L v).filter (fun p => decide (x_C v (s * 1000 + k * 10 + 0) ov p)) := fun p => by
    rw [List.mem_filter]
    constructor
    · rintro ⟨h1, h2⟩
      have ht := r_B_w hB h1.1 h1.2 (by have := h2.1; omega)
      refine ⟨r_L_m hA hL h1.1 h1.2 ht, ?_⟩
      have hm0 := ht.2.2.2.2.1 (by rw [h2.1]; exact hf1)
      have hsl := ht.1
      rw [h2.1, h2.2.1, hm0] at hsl
      simp only [decide_eq_true_eq]
      refine ⟨hsl, ?_⟩
      rcases hov with ⟨a, b⟩ | ⟨a, b⟩
      · exact Or.inr ((r_T_sh hA ht).mpr (h2.2.2.2.resolve_left (by omega)))
      · exact Or.inl (by omega)
    · rintro ⟨h1, h2⟩
      simp only [decide_eq_true_eq] at h2
      have hbp := (hL.2.1 p).mp h1
      have ht := r_L_t hB hL h1
      have hf := r_T_f hA ht
      have h21 := h2.1
      refine ⟨⟨hbp.1, hbp.2.1⟩, ?_, ?_, ?_, ?_⟩
      · obtain ⟨g1, g2, g3, g4, -⟩ := ht; omega
      · obtain ⟨g1, g2, g3, g4, -⟩ := ht; omega
      · have := ht.2.2.2.2.2.2.2.2.2.2.1; omega
      · rcases hov with ⟨a, b⟩ | ⟨a, b⟩
        · exact Or.inr ((r_T_sh hA ht).mp (h2.2.resolve_left (fun z => z a)))
        · exact Or.inl b
  have hKP : ((x_L v).filter (fun p => decide (x_C v (s * 1000 + k * 10 + 0) ov p))).Pairwise (fun p q => w 11 p < w 11 q) := by
    have h1 : ((x_L v).filter (fun p => decide (x_C v (s * 1000 + k * 10 + 0) ov p))).Pairwise (r_lt v w) := List.Pairwise.sublist List.filter_sublist hL.2.2
    refine List.Pairwise.imp_of_mem (fun {p q} hp hq h => ?_) h1
    have e1 := (List.mem_filter.mp hp).2
    have e2 := (List.mem_filter.mp hq).2
    simp only [decide_eq_true_eq] at e1 e2
    have e1 := e1.1
    have e2 := e2.1
    rcases h with h | h
    · omega
    · exact h.2
  have hfo := r_fo (w := w) (s := s) (k := k) (sh := sh) i.toNat (last := -1) (a := -99999999) hK hKP
  rw [show (i + 1).toNat = i.toNat + 1 by omega]
  rw [show (i - 0).toNat = i.toNat by omega] at hpl
  rw [hfo, hpl]
  have hlen : ((x_L v).filter (fun p => decide (x_C v (s * 1000 + k * 10 + 0) ov p))).length ≤ 200 := by
    have h1 := List.length_filter_le (fun p => decide (x_C v (s * 1000 + k * 10 + 0) ov p)) (x_L v)
    have h2 : (x_L v).length = (v 16 0).toNat := x_seg_len v 0 _
    have h3 := hL.1.2
    omega
  cases hg : ((x_L v).filter (fun p => decide (x_C v (s * 1000 + k * 10 + 0) ov p)))[i.toNat]? with
  | none => exact Or.inl ⟨rfl, fun _ => rfl⟩
  | some p =>
    right
    have hlt : i.toNat < ((x_L v).filter (fun p => decide (x_C v (s * 1000 + k * 10 + 0) ov p))).length := (List.getElem?_eq_some_iff.mp hg).1
    have hm := List.mem_of_getElem? hg
    have hm2 := List.mem_filter.mp hm
    have hb := (hL.2.1 p).mp hm2.1
    refine ⟨by omega, ?_, rfl, hm2.1, by simpa using hm2.2⟩
    show ¬ p = -1
    omega
