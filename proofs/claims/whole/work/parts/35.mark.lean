
theorem z_g {K : List Int} {i : Nat} (h : i < K.length) : K.getD i 0 ∈ K := by
  induction K generalizing i with
  | nil => simp at h
  | cons p K ih =>
    cases i with
    | zero => exact List.mem_cons_self
    | succ i => exact List.mem_cons_of_mem _ (ih (by simpa using h))
theorem z_gp {R : Int → Int → Prop} {K : List Int} (hP : K.Pairwise R) {i j : Nat} (h : i < j) (hj : j < K.length) : R (K.getD i 0) (K.getD j 0) := by
  induction K generalizing i j with
  | nil => simp at hj
  | cons p K ih =>
    obtain ⟨h1, h2⟩ := List.pairwise_cons.mp hP
    cases j with
    | zero => omega
    | succ j =>
      cases i with
      | zero => exact h1 _ (z_g (by simpa using hj))
      | succ i => exact ih h2 (by omega) (by simpa using hj)
/-! the order of a mark -/
theorem m_ah_tr {w : zs_V} {p q t : Int} (h1 : m_ah w p q) (h2 : m_ah w q t) : m_ah w p t := by
  unfold m_ah at *
  omega
theorem m_ah_ir {w : zs_V} {p : Int} (h : m_ah w p p) : False := by
  unfold m_ah at h
  omega
abbrev m_gd (w : zs_V) (b p : Int) : Prop := m_sh w p ∧ (b = -99999999 ∨ m_ah w b p)
theorem m_nk_min (w : zs_V) (b : Int) (L : List Int) : (∀ p ∈ L, ¬ p = -99999999) → ∀ a, (m_nk w b L a = -99999999 → a = -99999999 ∧ ∀ p ∈ L, ¬ m_gd w b p) ∧ (¬ m_nk w b L a = -99999999 → (m_nk w b L a = a ∨ (m_nk w b L a ∈ L ∧ m_gd w b (m_nk w b L a))) ∧ (¬ a = -99999999 → m_nk w b L a = a ∨ m_ah w (m_nk w b L a) a) ∧ ∀ p ∈ L, m_gd w b p → ¬ m_ah w p (m_nk w b L a)) := by
  induction L with
  | nil =>
    intro _ a
    simp only [m_nk]
    exact ⟨fun h => ⟨h, fun p hp => by simp at hp⟩, fun h => ⟨Or.inl (by trivial), fun _ => Or.inl (by trivial), fun p hp => by simp at hp⟩⟩
  | cons p ps ih =>
    intro hn a
    have hpn := hn p List.mem_cons_self
    have ih := ih (fun q hq => hn q (List.mem_cons_of_mem _ hq))
    simp only [m_nk]
    by_cases c : m_sh w p ∧ (b = -99999999 ∨ m_ah w b p) ∧ (a = -99999999 ∨ m_ah w p a)
    · rw [if_pos c]
      obtain ⟨i1, i2⟩ := ih p
      refine ⟨fun h => absurd (i1 h).1 hpn, fun h => ?_⟩
      obtain ⟨j1, j2, j3⟩ := i2 h
      have j2 := j2 hpn
      refine ⟨Or.inr ?_, fun ha => ?_, fun q hq hg => ?_⟩
      · rcases j1 with j | j
        · rw [j]; exact ⟨List.mem_cons_self, c.1, c.2.1⟩
        · exact ⟨List.mem_cons_of_mem _ j.1, j.2⟩
      · have hpa := c.2.2.resolve_left ha
        rcases j2 with j | j
        · rw [j]; exact Or.inr hpa
        · exact Or.inr (m_ah_tr j hpa)
      · rcases List.mem_cons.mp hq with e | e
        · rw [e]
          intro z
          rcases j2 with j | j
          · rw [j] at z; exact m_ah_ir z
          · exact m_ah_ir (m_ah_tr z j)
        · exact j3 q e hg
    · rw [if_neg c]
      obtain ⟨i1, i2⟩ := ih a
      refine ⟨fun h => ?_, fun h => ?_⟩
      · obtain ⟨d, e⟩ := i1 h
        refine ⟨d, fun q hq hg => ?_⟩
        rcases List.mem_cons.mp hq with z | z
        · rw [z] at hg; exact c ⟨hg.1, hg.2, Or.inl d⟩
        · exact e q z hg
      · obtain ⟨j1, j2, j3⟩ := i2 h
        refine ⟨?_, j2, fun q hq hg => ?_⟩
        · rcases j1 with j | j
          · exact Or.inl j
          · exact Or.inr ⟨List.mem_cons_of_mem _ j.1, j.2⟩
        · rcases List.mem_cons.mp hq with z | z
          · rw [z] at hg ⊢
            have ha : ¬ a = -99999999 := fun y => c ⟨hg.1, hg.2, Or.inl y⟩
            have h2 : ¬ m_ah w p a := fun y => c ⟨hg.1, hg.2, Or.inr y⟩
            intro y
            rcases j2 ha with j | j
            · rw [j] at y; exact h2 y
            · exact h2 (m_ah_tr y j)
          · exact j3 q z hg
theorem r_nk {w : zs_V} {b : Int} {B : List Int} (hB : ∀ p : Int, (0 ≤ p ∧ p < 200) ∧ m_gd w b p ↔ p ∈ B) (hP : B.Pairwise (m_ah w)) : m_nk w b z_Z (-99999999) = B.head?.getD (-99999999) := by
  obtain ⟨i1, i2⟩ := m_nk_min w b z_Z z_Z_n (-99999999)
  cases B with
  | nil =>
    by_cases h : m_nk w b z_Z (-99999999) = -99999999
    · rw [h]; rfl
    · rcases (i2 h).1 with j | j
      · exact absurd j h
      · exact absurd ((hB _).mp ⟨z_Z_m.mp j.1, j.2⟩) (by simp)
  | cons q B =>
    have hq := (hB q).mpr List.mem_cons_self
    show _ = q
    by_cases h : m_nk w b z_Z (-99999999) = -99999999
    · exact absurd hq.2 ((i1 h).2 q (z_Z_m.mpr hq.1))
    · obtain ⟨j1, j2, j3⟩ := i2 h
      have j := j1.resolve_left h
      have hm := (hB _).mp ⟨z_Z_m.mp j.1, j.2⟩
      rcases List.mem_cons.mp hm with e | e
      · exact e
      · exact absurd ((List.pairwise_cons.mp hP).1 _ e) (j3 q (z_Z_m.mpr hq.1) hq.2)
theorem r_ch {w : zs_V} (B : List Int) : ∀ {b : Int}, (∀ p : Int, (0 ≤ p ∧ p < 200) ∧ m_gd w b p ↔ p ∈ B) → B.Pairwise (m_ah w) → (∀ p ∈ B, m_P w p) → m_Ch w b B := by
  induction B with
  | nil =>
    intro b hB hP _
    exact r_nk hB hP
  | cons q B ih =>
    intro b hB hP hW
    have hq := (hB q).mpr List.mem_cons_self
    have hp := List.pairwise_cons.mp hP
    refine ⟨r_nk hB hP, hq.1, hW q List.mem_cons_self, ih (fun p => ?_) hp.2 (fun p hm => hW p (List.mem_cons_of_mem _ hm))⟩
    constructor
    · rintro ⟨h1, h2⟩
      have hqp : m_ah w q p := h2.2.resolve_left (by omega)
      have hm := (hB p).mp ⟨h1, h2.1, hq.2.2.imp id (fun z => m_ah_tr z hqp)⟩
      rcases List.mem_cons.mp hm with e | e
      · rw [e] at hqp
        exact absurd hqp m_ah_ir
      · exact e
    · intro hm
      have h1 := (hB p).mpr (List.mem_cons_of_mem _ hm)
      exact ⟨h1.1, h1.2.1, Or.inr (hp.1 p hm)⟩
def x_K (v : zs_V) : List Int := (x_L v).filter (fun p => decide (0 < x_left v p))
theorem RR_ch {c : Int} {v w : zs_V} (h : RR c v w) (hc6 : c ≤ 1000000) : m_Ch w (-99999999) (x_K v) ∧ (x_K v).length ≤ 200 := by
  have hW := RR_W h hc6
  obtain ⟨hA, hB, hL, hQ, hR, hK, hE, hc⟩ := h
  have hm : ∀ p, p ∈ x_K v ↔ p ∈ x_L v ∧ m_sh w p := fun p => by
    unfold x_K
    rw [List.mem_filter]
    constructor
    · rintro ⟨a, b⟩
      exact ⟨a, (r_T_sh hA (r_L_t hB hL a)).mp (by simpa using b)⟩
    · rintro ⟨a, b⟩
      exact ⟨a, by simpa using (r_T_sh hA (r_L_t hB hL a)).mpr b⟩
  refine ⟨r_ch (x_K v) (fun p => ?_) ?_ (fun p hp => ?_), ?_⟩
  · rw [hm p]
    constructor
    · rintro ⟨a, b⟩
      exact ⟨r_L_m hA hL a.1 a.2 (r_B_w hB a.1 a.2 b.1.1), b.1⟩
    · rintro ⟨a, b⟩
      have hb := (hL.2.1 p).mp a
      exact ⟨⟨hb.1, hb.2.1⟩, b, Or.inl rfl⟩
  · have h1 : (x_K v).Pairwise (r_lt v w) := List.Pairwise.sublist List.filter_sublist hL.2.2
    refine List.Pairwise.imp_of_mem (fun {p q} hp hq z => ?_) h1
    have t1 := r_L_t hB hL ((hm p).mp hp).1
    have t2 := r_L_t hB hL ((hm q).mp hq).1
    obtain ⟨a1, a2, a3, a4, -⟩ := t1
    obtain ⟨b1, b2, b3, b4, -⟩ := t2
    have z : v 5 p < v 5 q ∨ (v 5 p = v 5 q ∧ w 11 p < w 11 q) := z
    unfold m_ah
    omega
  · have hb := (hL.2.1 p).mp ((hm p).mp hp).1
    exact (hW p hb.1 hb.2.1).resolve_left ((hm p).mp hp).2.1
  · have h1 := List.length_filter_le (fun p => decide (0 < x_left v p)) (x_L v)
    have h2 : (x_L v).length = (v 16 0).toNat := x_seg_len v 0 _
    have h3 := hL.1.2
    have h4 : (x_K v).length = ((x_L v).filter (fun p => decide (0 < x_left v p))).length := rfl
    omega
/-! what a mark keeps -/
def x_mkk (m : Int) : List Int → zs_V → zs_V
  | [], v => v
  | p :: K, v => x_mkk m K (x_keep v m (v 5 p) (v 6 p) (x_left v p))
theorem x_mk_k (m : Int) (L : List Int) : ∀ v : zs_V, x_mk m L v = x_mkk m (L.filter (fun p => decide (0 < x_left v p))) v := by
  induction L with
  | nil => intro v; rfl
  | cons p ps ih =>
    intro v
    simp only [x_mk]
    by_cases c : 0 < x_left v p
    · rw [if_pos c, List.filter_cons_of_pos (by simpa using c), ih]
      rfl
    · rw [if_neg c, List.filter_cons_of_neg (by simpa using c), ih]
theorem x_mkk_c (m : Int) (K : List Int) : ∀ v : zs_V, (∀ r, r ≠ 11 → r ≠ 12 → r ≠ 13 → r ≠ 14 → x_mkk m K v r = v r) ∧ (∀ j, (x_mkk m K v) 14 j = if j = m then v 14 m + K.length else v 14 j) ∧ (∀ j, ((m * 200 + v 14 m ≤ j ∧ j < m * 200 + v 14 m + K.length) → (x_mkk m K v) 11 j = v 5 (K.getD (j - (m * 200 + v 14 m)).toNat 0) ∧ (x_mkk m K v) 12 j = v 6 (K.getD (j - (m * 200 + v 14 m)).toNat 0) ∧ (x_mkk m K v) 13 j = x_left v (K.getD (j - (m * 200 + v 14 m)).toNat 0)) ∧ (¬ (m * 200 + v 14 m ≤ j ∧ j < m * 200 + v 14 m + K.length) → (x_mkk m K v) 11 j = v 11 j ∧ (x_mkk m K v) 12 j = v 12 j ∧ (x_mkk m K v) 13 j = v 13 j)) := by
  induction K with
  | nil =>
    intro v
    refine ⟨fun r _ _ _ _ => rfl, fun j => ?_, fun j => ⟨fun h => ?_, fun _ => ⟨rfl, rfl, rfl⟩⟩⟩
    · show v 14 j = _
      split
      · next e => rw [e]; simp
      · rfl
    · simp at h
      omega
  | cons p K ih =>
    intro v
    simp only [x_mkk]
    obtain ⟨i1, i2, i3⟩ := ih (x_keep v m (v 5 p) (v 6 p) (x_left v p))
    have ek := x_keep_n v m (v 5 p) (v 6 p) (x_left v p)
    have e14 : ∀ j, j ≠ m → (x_keep v m (v 5 p) (v 6 p) (x_left v p)) 14 j = v 14 j := fun j hj => by
      unfold x_keep
      rw [zs_put_k _ _ _ _ hj]
      rfl
    have e11 : ∀ j, (x_keep v m (v 5 p) (v 6 p) (x_left v p)) 11 j = if j = m * 200 + v 14 m then v 5 p else v 11 j := fun j => by
      show (zs_put v 11 (m * 200 + v 14 m) (v 5 p)) 11 j = _
      rw [zs_put_e]
    have e12 : ∀ j, (x_keep v m (v 5 p) (v 6 p) (x_left v p)) 12 j = if j = m * 200 + v 14 m then v 6 p else v 12 j := fun j => by
      show (zs_put v 12 (m * 200 + v 14 m) (v 6 p)) 12 j = _
      rw [zs_put_e]
    have e13 : ∀ j, (x_keep v m (v 5 p) (v 6 p) (x_left v p)) 13 j = if j = m * 200 + v 14 m then x_left v p else v 13 j := fun j => by
      show (zs_put v 13 (m * 200 + v 14 m) (x_left v p)) 13 j = _
      rw [zs_put_e]
    have hl : ((p :: K).length : Int) = K.length + 1 := by simp
    rw [ek] at i2 i3
    refine ⟨fun r a b c d => (i1 r a b c d).trans (by unfold x_keep; rw [zs_put_r _ _ _ _ d, zs_put_r _ _ _ _ c, zs_put_r _ _ _ _ b, zs_put_r _ _ _ _ a]), fun j => ?_, fun j => ⟨fun h => ?_, fun h => ?_⟩⟩
    · rw [i2 j]
      by_cases e : j = m
      · rw [if_pos e, if_pos e]
        omega
      · rw [if_neg e, if_neg e, e14 j e]
    · by_cases e : j = m * 200 + v 14 m
      · obtain ⟨k1, k2, k3⟩ := (i3 j).2 (by omega)
        rw [k1, k2, k3, e11, e12, e13, if_pos e, if_pos e, if_pos e, e, show (m * 200 + v 14 m - (m * 200 + v 14 m)).toNat = 0 by omega]
        exact ⟨rfl, rfl, rfl⟩
      · obtain ⟨k1, k2, k3⟩ := (i3 j).1 (by omega)
        rw [k1, k2, k3, show (j - (m * 200 + v 14 m)).toNat = (j - (m * 200 + (v 14 m + 1))).toNat + 1 by omega]
        exact ⟨rfl, rfl, rfl⟩
    · obtain ⟨k1, k2, k3⟩ := (i3 j).2 (by omega)
      rw [k1, k2, k3, e11, e12, e13, if_neg (by omega), if_neg (by omega), if_neg (by omega)]
      exact ⟨rfl, rfl, rfl⟩
def m_fl (w : zs_V) (p d : Int) : Int := if d = 0 then w 5 p else if d = 1 then w 6 p else if d = 2 then w 7 p else if d = 3 then w 8 p else w 10 p - m_clk w p
theorem m_me_c (w : zs_V) (m i p j : Int) : (m_me w m i p) 14 j = if 1000 * m + 5 * i ≤ j ∧ j < 1000 * m + 5 * i + 5 then m_fl w p (j - (1000 * m + 5 * i)) else w 14 j := by
  unfold m_me m_fl
  rw [zs_put_e, zs_put_e, zs_put_e, zs_put_e, zs_put_e]
  by_cases h : 1000 * m + 5 * i ≤ j ∧ j < 1000 * m + 5 * i + 5
  · rw [if_pos h]
    obtain ⟨d, hd⟩ : ∃ d, d = j - (1000 * m + 5 * i) := ⟨_, rfl⟩
    rw [← hd]
    have ej : j = 1000 * m + 5 * i + d := by omega
    rw [ej]
    rcases (show d = 0 ∨ d = 1 ∨ d = 2 ∨ d = 3 ∨ d = 4 by omega) with rfl | rfl | rfl | rfl | rfl
    · rw [if_neg (by omega), if_neg (by omega), if_neg (by omega), if_neg (by omega), if_pos (by omega), if_pos rfl]
    · rw [if_neg (by omega), if_neg (by omega), if_neg (by omega), if_pos (by omega), if_neg (by omega), if_pos rfl]
    · rw [if_neg (by omega), if_neg (by omega), if_pos (by omega), if_neg (by omega), if_neg (by omega), if_pos rfl]
    · rw [if_neg (by omega), if_pos (by omega), if_neg (by omega), if_neg (by omega), if_neg (by omega), if_pos rfl]
    · rw [if_pos (by omega), if_neg (by omega), if_neg (by omega), if_neg (by omega), if_neg (by omega)]
  · rw [if_neg h, if_neg (by omega), if_neg (by omega), if_neg (by omega), if_neg (by omega), if_neg (by omega)]
theorem m_mk_c (m : Int) (K : List Int) : ∀ (i : Int) (w : zs_V), (∀ r, r ≠ 14 → m_mk m K i w r = w r) ∧ (∀ j, ((1000 * m + 5 * i ≤ j ∧ j < 1000 * m + 5 * i + 5 * K.length) → (m_mk m K i w) 14 j = m_fl w (K.getD ((j - (1000 * m + 5 * i)) / 5).toNat 0) ((j - (1000 * m + 5 * i)) % 5)) ∧ (¬ (1000 * m + 5 * i ≤ j ∧ j < 1000 * m + 5 * i + 5 * K.length) → (m_mk m K i w) 14 j = w 14 j)) := by
  induction K with
  | nil =>
    intro i w
    refine ⟨fun r _ => rfl, fun j => ⟨fun h => ?_, fun _ => rfl⟩⟩
    simp at h
    omega
  | cons p K ih =>
    intro i w
    simp only [m_mk]
    obtain ⟨i1, i2⟩ := ih (i + 1) (m_me w m i p)
    have h14 := m_me_14 (u := w) (w := w) m i p (fun r _ => rfl)
    have hl : ((p :: K).length : Int) = K.length + 1 := by simp
    refine ⟨fun r h => (i1 r h).trans (h14 r h), fun j => ⟨fun h => ?_, fun h => ?_⟩⟩
    · by_cases e : j < 1000 * m + 5 * i + 5
      · rw [(i2 j).2 (by omega), m_me_c, if_pos (by omega), show ((j - (1000 * m + 5 * i)) / 5).toNat = 0 by omega, show (j - (1000 * m + 5 * i)) % 5 = j - (1000 * m + 5 * i) by omega]
        rfl
      · rw [(i2 j).1 (by omega), show ((j - (1000 * m + 5 * i)) / 5).toNat = ((j - (1000 * m + 5 * (i + 1))) / 5).toNat + 1 by omega, show (j - (1000 * m + 5 * i)) % 5 = (j - (1000 * m + 5 * (i + 1))) % 5 by omega]
        show m_fl (m_me w m i p) _ _ = m_fl w _ _
        unfold m_fl m_clk
        rw [h14 5 (by decide), h14 6 (by decide), h14 7 (by decide), h14 8 (by decide), h14 10 (by decide), h14 4 (by decide), h14 1 (by decide)]
        rfl
    · rw [(i2 j).2 (by omega), m_me_c, if_neg (by omega)]
theorem RR_mark {c : Int} {v w : zs_V} (h : RR c v w) (m : Int) : RR c (x_markS v m) (m_markS w m (x_K v)) ∧ x_markR v m = m_markR m (x_K v) := by
  unfold x_markS m_markS x_markR m_markR
  by_cases c1 : 0 ≤ m ∧ m < 3
  · rw [if_pos c1, if_pos c1, if_pos c1, if_pos c1]
    obtain ⟨hA, hB, hL, hQ, hR, hK, hE, hc⟩ := h
    have ex : x_mk m (x_L v) (zs_put v 14 m 0) = x_mkk m (x_K v) (zs_put v 14 m 0) := x_mk_k m (x_L v) (zs_put v 14 m 0)
    rw [ex]
    obtain ⟨a, a14, a11⟩ := x_mkk_c m (x_K v) (zs_put v 14 m 0)
    obtain ⟨b, b14⟩ := m_mk_c m (x_K v) 0 w
    rw [zs_put_s] at a14 a11
    have hlen : (x_K v).length ≤ 200 := by
      have h1 := List.length_filter_le (fun p => decide (0 < x_left v p)) (x_L v)
      have h2 : (x_L v).length = (v 16 0).toNat := x_seg_len v 0 _
      have h3 := hL.1.2
      have h4 : (x_K v).length = ((x_L v).filter (fun p => decide (0 < x_left v p))).length := rfl
      omega
    have f : ∀ r, r ≠ 11 → r ≠ 12 → r ≠ 13 → r ≠ 14 → x_mkk m (x_K v) (zs_put v 14 m 0) r = v r := fun r q1 q2 q3 q4 => (a r q1 q2 q3 q4).trans (zs_put_r _ _ _ _ q4)
    have g : ∀ r, r ≠ 13 → r ≠ 14 → zs_put (m_mk m (x_K v) 0 w) 13 m ((x_K v).length : Int) r = w r := fun r q1 q2 => (zs_put_r _ _ _ _ q1).trans (b r q2)
    have hKP : (x_K v).Pairwise (r_lt v w) := List.Pairwise.sublist List.filter_sublist hL.2.2
    have hKm : ∀ p, p ∈ x_K v → p ∈ x_L v ∧ 0 < x_left v p := fun p hp => by
      have := List.mem_filter.mp hp
      exact ⟨this.1, by simpa using this.2⟩
    refine ⟨⟨r_A_of hA (f 0 (by decide) (by decide) (by decide) (by decide)) (f 1 (by decide) (by decide) (by decide) (by decide)) (f 2 (by decide) (by decide) (by decide) (by decide)) (f 3 (by decide) (by decide) (by decide) (by decide)) (f 4 (by decide) (by decide) (by decide) (by decide)) (f 15 (by decide) (by decide) (by decide) (by decide)) (g 0 (by decide) (by decide)) (g 1 (by decide) (by decide)) (g 2 (by decide) (by decide)) (g 3 (by decide) (by decide)) (g 4 (by decide) (by decide)) (g 15 (by decide) (by decide)), fun q q0 q1 => ?_, r_L_of hL (f 5 (by decide) (by decide) (by decide) (by decide)) (f 9 (by decide) (by decide) (by decide) (by decide)) (f 16 (by decide) (by decide) (by decide) (by decide)) (g 11 (by decide) (by decide)), r_Q_of hQ (f 5 (by decide) (by decide) (by decide) (by decide)) (f 9 (by decide) (by decide) (by decide) (by decide)) (f 16 (by decide) (by decide) (by decide) (by decide)) (g 0 (by decide) (by decide)) (g 5 (by decide) (by decide)), r_R_of hR (f 10 (by decide) (by decide) (by decide) (by decide)) (f 17 (by decide) (by decide) (by decide) (by decide)) (f 18 (by decide) (by decide) (by decide) (by decide)) (f 19 (by decide) (by decide) (by decide) (by decide)) (g 12 (by decide) (by decide)) (g 18 (by decide) (by decide)) (g 19 (by decide) (by decide)), fun m' m0 m1 => ?_, r_E_of hE (f 20 (by decide) (by decide) (by decide) (by decide)) (g 17 (by decide) (by decide)), by rw [g 16 (by decide) (by decide)]; exact hc⟩, ?_⟩
    · rw [f 5 (by decide) (by decide) (by decide) (by decide), g 5 (by decide) (by decide)]
      refine (hB q q0 q1).imp id (fun z => ?_)
      exact r_T_of z (by rw [f 5 (by decide) (by decide) (by decide) (by decide)]) (by rw [f 6 (by decide) (by decide) (by decide) (by decide)]) (by rw [f 7 (by decide) (by decide) (by decide) (by decide)]) (by rw [f 8 (by decide) (by decide) (by decide) (by decide)]) (by rw [g 5 (by decide) (by decide)]) (by rw [g 6 (by decide) (by decide)]) (by rw [g 7 (by decide) (by decide)]) (by rw [g 8 (by decide) (by decide)]) (by rw [g 9 (by decide) (by decide)]) (by rw [g 10 (by decide) (by decide)]) (by rw [g 11 (by decide) (by decide)]) (g 0 (by decide) (by decide)) (g 1 (by decide) (by decide)) (g 4 (by decide) (by decide)) (g 15 (by decide) (by decide)) (by rw [g 16 (by decide) (by decide)]; exact Int.le_refl _)
    · have e14 : ∀ j, (zs_put (m_mk m (x_K v) 0 w) 13 m ((x_K v).length : Int)) 14 j = (m_mk m (x_K v) 0 w) 14 j := fun j => rfl
      by_cases em : m' = m
      · subst em
        right
        have es : (x_mkk m' (x_K v) (zs_put v 14 m' 0)) 14 m' = (x_K v).length := by
          rw [a14 m', if_pos rfl]
          omega
        have emm : (zs_put (m_mk m' (x_K v) 0 w) 13 m' ((x_K v).length : Int)) 13 m' = (x_K v).length := zs_put_s _ _ _ _
        have hx : ∀ i : Int, 0 ≤ i → i < (x_K v).length → (x_mkk m' (x_K v) (zs_put v 14 m' 0)) 11 (m' * 200 + i) = v 5 ((x_K v).getD i.toNat 0) ∧ (x_mkk m' (x_K v) (zs_put v 14 m' 0)) 12 (m' * 200 + i) = v 6 ((x_K v).getD i.toNat 0) ∧ (x_mkk m' (x_K v) (zs_put v 14 m' 0)) 13 (m' * 200 + i) = x_left v ((x_K v).getD i.toNat 0) := fun i h0 h1 => by
          have := (a11 (m' * 200 + i)).1 (by omega)
          rw [show (m' * 200 + i - (m' * 200 + 0)).toNat = i.toNat by omega] at this
          exact this
        have hy : ∀ i d : Int, 0 ≤ i → i < (x_K v).length → 0 ≤ d → d < 5 → (m_mk m' (x_K v) 0 w) 14 (1000 * m' + 5 * i + d) = m_fl w ((x_K v).getD i.toNat 0) d := fun i d h0 h1 d0 d1 => by
          have := (b14 (1000 * m' + 5 * i + d)).1 (by omega)
          rw [show ((1000 * m' + 5 * i + d - (1000 * m' + 5 * 0)) / 5).toNat = i.toNat by omega, show (1000 * m' + 5 * i + d - (1000 * m' + 5 * 0)) % 5 = d by omega] at this
          exact this
        have hy0 : ∀ i : Int, 0 ≤ i → i < (x_K v).length → (m_mk m' (x_K v) 0 w) 14 (1000 * m' + 5 * i) = w 5 ((x_K v).getD i.toNat 0) := fun i h0 h1 => by
          have := hy i 0 h0 h1 (by omega) (by omega)
          rw [show 1000 * m' + 5 * i + 0 = 1000 * m' + 5 * i by omega] at this
          rw [this]
          rfl
        refine ⟨by omega, by omega, fun i i0 i1 => ?_, fun i j i0 ij j1 => ?_⟩
        · rw [es] at i1
          have hmem := hKm _ (z_g (K := x_K v) (i := i.toNat) (by omega))
          have ht := r_L_t hB hL hmem.1
          have hf := r_T_f hA ht
          obtain ⟨k1, k2, k3⟩ := hx i i0 i1
          unfold r_M
          rw [e14, e14, e14, e14, e14, hy0 i i0 i1, hy i 1 i0 i1 (by omega) (by omega), hy i 2 i0 i1 (by omega) (by omega), hy i 3 i0 i1 (by omega) (by omega), hy i 4 i0 i1 (by omega) (by omega), k1, k2, k3, g 15 (by decide) (by decide), g 0 (by decide) (by decide)]
          generalize (x_K v).getD i.toNat 0 = p at *
          obtain ⟨t1, t2, t3, t4, t5, t6, t7, t8, t9, t10, t11⟩ := ht
          show (0 ≤ w 5 p ∧ w 5 p < w 15 0) ∧ (0 ≤ w 6 p ∧ w 6 p < 100) ∧ (0 ≤ w 7 p ∧ w 7 p < 10) ∧ (w 0 (w 5 p) = 1 → w 7 p = 0) ∧ v 5 p = w 5 p * 1000 + w 6 p * 10 + w 7 p ∧ v 6 p = w 8 p ∧ x_left v p = w 10 p - m_clk w p ∧ 1 ≤ w 10 p - m_clk w p ∧ w 10 p - m_clk w p ≤ 100000
          have hlf := hf.2.2.2.2.2.1
          have hpos := hmem.2
          refine ⟨t2, t3, t4, t5, t1, t6, hlf, ?_, ?_⟩ <;> omega
        · rw [es] at j1
          obtain ⟨k1, -, -⟩ := hx i i0 (by omega)
          obtain ⟨l1, -, -⟩ := hx j (by omega) j1
          rw [e14, k1, l1, hy0 i i0 (by omega), g 0 (by decide) (by decide)]
          have hp := z_gp hKP (i := i.toNat) (j := j.toNat) (by omega) (by omega)
          have m1 := hKm _ (z_g (K := x_K v) (i := i.toNat) (by omega))
          have m2 := hKm _ (z_g (K := x_K v) (i := j.toNat) (by omega))
          generalize (x_K v).getD i.toNat 0 = p at *
          generalize (x_K v).getD j.toNat 0 = q at *
          rcases hp with z | z
          · exact Or.inl z
          · right
            refine ⟨z.1, ?_⟩
            have ht := r_L_t hB hL m1.1
            have hs := x_S_at (r_A_w hA) ht.2.1.1 ht.2.1.2
            rcases hs.2.1 with y | y
            · have := hQ p q m1.1 m2.1 z.1 y
              rw [this] at z
              omega
            · exact y
      · have es : (x_mkk m (x_K v) (zs_put v 14 m 0)) 14 m' = v 14 m' := by
          rw [a14 m', if_neg em]
          exact zs_put_k _ _ _ _ em
        have emm : (zs_put (m_mk m (x_K v) 0 w) 13 m ((x_K v).length : Int)) 13 m' = w 13 m' := by
          rw [zs_put_k _ _ _ _ em, b 13 (by decide)]
        unfold r_K1
        rw [es, emm]
        refine (hK m' m0 m1).imp id (fun z => ?_)
        obtain ⟨z1, z2, z3, z4⟩ := z
        have hx : ∀ i : Int, 0 ≤ i → i < v 14 m' → (x_mkk m (x_K v) (zs_put v 14 m 0)) 11 (m' * 200 + i) = v 11 (m' * 200 + i) ∧ (x_mkk m (x_K v) (zs_put v 14 m 0)) 12 (m' * 200 + i) = v 12 (m' * 200 + i) ∧ (x_mkk m (x_K v) (zs_put v 14 m 0)) 13 (m' * 200 + i) = v 13 (m' * 200 + i) := fun i h0 h1 => (a11 (m' * 200 + i)).2 (by omega)
        have hy : ∀ i d : Int, 0 ≤ i → i < v 14 m' → 0 ≤ d → d < 5 → (m_mk m (x_K v) 0 w) 14 (1000 * m' + 5 * i + d) = w 14 (1000 * m' + 5 * i + d) := fun i d h0 h1 d0 d1 => (b14 _).2 (by omega)
        have hy0 : ∀ i : Int, 0 ≤ i → i < v 14 m' → (m_mk m (x_K v) 0 w) 14 (1000 * m' + 5 * i) = w 14 (1000 * m' + 5 * i) := fun i h0 h1 => (b14 _).2 (by omega)
        refine ⟨z1, z2, fun i i0 i1 => ?_, fun i j i0 ij j1 => ?_⟩
        · obtain ⟨k1, k2, k3⟩ := hx i i0 i1
          have zz := z3 i i0 i1
          unfold r_M at zz ⊢
          rw [e14, e14, e14, e14, e14, hy0 i i0 i1, hy i 1 i0 i1 (by omega) (by omega), hy i 2 i0 i1 (by omega) (by omega), hy i 3 i0 i1 (by omega) (by omega), hy i 4 i0 i1 (by omega) (by omega), k1, k2, k3, g 15 (by decide) (by decide), g 0 (by decide) (by decide)]
          exact zz
        · obtain ⟨k1, -, -⟩ := hx i i0 (by omega)
          obtain ⟨l1, -, -⟩ := hx j (by omega) j1
          rw [e14, k1, l1, hy0 i i0 (by omega), g 0 (by decide) (by decide)]
          exact z4 i j i0 ij j1
    · rw [a14 m, if_pos rfl]
      omega
  · rw [if_neg c1, if_neg c1, if_neg c1, if_neg c1]
    exact ⟨h, rfl⟩
