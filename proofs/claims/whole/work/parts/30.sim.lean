
/-! THE SIMULATION: the class's state v, the reference's state w -/
abbrev r_lt (v w : zs_V) (p q : Int) : Prop := v 5 p < v 5 q ∨ (v 5 p = v 5 q ∧ w 11 p < w 11 q)
def r_A (v w : zs_V) : Prop := x_S v ∧ v 0 = w 0 ∧ v 1 = w 1 ∧ v 2 = w 2 ∧ v 3 = w 3 ∧ v 4 = w 4 ∧ v 15 = w 15
/-- a taken place -/
def r_T (v w : zs_V) (p : Int) : Prop := v 5 p = w 5 p * 1000 + w 6 p * 10 + w 7 p ∧ (0 ≤ w 5 p ∧ w 5 p < w 15 0) ∧ (0 ≤ w 6 p ∧ w 6 p < 100) ∧ (0 ≤ w 7 p ∧ w 7 p < 10) ∧ (w 0 (w 5 p) = 1 → w 7 p = 0) ∧ v 6 p = w 8 p ∧ v 7 p = w 9 p ∧ v 8 p = w 10 p ∧ (0 ≤ w 9 p ∧ w 9 p ≤ m_clk w p) ∧ (0 ≤ w 10 p ∧ w 10 p ≤ m_clk w p + 100000) ∧ 0 ≤ w 11 p ∧ w 11 p ≤ w 16 0
def r_B (v w : zs_V) : Prop := ∀ p : Int, 0 ≤ p → p < 200 → (v 5 p = -1 ∧ w 5 p = -99999999) ∨ r_T v w p
def r_L (v w : zs_V) : Prop := (0 ≤ v 16 0 ∧ v 16 0 ≤ 200) ∧ (∀ p : Int, p ∈ x_L v ↔ (0 ≤ p ∧ p < 200 ∧ ¬ v 5 p = -1)) ∧ (x_L v).Pairwise (r_lt v w)
def r_Q (v w : zs_V) : Prop := ∀ p q : Int, p ∈ x_L v → q ∈ x_L v → v 5 p = v 5 q → w 0 (w 5 p) = 0 → p = q
def r_R (v w : zs_V) : Prop := v 18 0 = w 18 0 ∧ v 19 0 = w 19 0 ∧ (0 ≤ v 17 0 ∧ v 17 0 < 150) ∧ (0 ≤ v 18 0 ∧ v 18 0 ≤ 150) ∧ ∀ i c : Int, 0 ≤ i → i < v 18 0 → 0 ≤ c → c < 6 → v 10 (x_ri v i + c) = w 12 (6 * i + c)
def r_M (v w : zs_V) (m i : Int) : Prop := (0 ≤ w 14 (1000 * m + 5 * i) ∧ w 14 (1000 * m + 5 * i) < w 15 0) ∧ (0 ≤ w 14 (1000 * m + 5 * i + 1) ∧ w 14 (1000 * m + 5 * i + 1) < 100) ∧ (0 ≤ w 14 (1000 * m + 5 * i + 2) ∧ w 14 (1000 * m + 5 * i + 2) < 10) ∧ (w 0 (w 14 (1000 * m + 5 * i)) = 1 → w 14 (1000 * m + 5 * i + 2) = 0) ∧ v 11 (m * 200 + i) = w 14 (1000 * m + 5 * i) * 1000 + w 14 (1000 * m + 5 * i + 1) * 10 + w 14 (1000 * m + 5 * i + 2) ∧ v 12 (m * 200 + i) = w 14 (1000 * m + 5 * i + 3) ∧ v 13 (m * 200 + i) = w 14 (1000 * m + 5 * i + 4) ∧ 1 ≤ w 14 (1000 * m + 5 * i + 4) ∧ w 14 (1000 * m + 5 * i + 4) ≤ 100000
def r_K1 (v w : zs_V) (m : Int) : Prop := (v 14 m = -1 ∧ w 13 m = -99999999) ∨ ((0 ≤ v 14 m ∧ v 14 m ≤ 200) ∧ w 13 m = v 14 m ∧ (∀ i : Int, 0 ≤ i → i < v 14 m → r_M v w m i) ∧ ∀ i j : Int, 0 ≤ i → i < j → j < v 14 m → v 11 (m * 200 + i) < v 11 (m * 200 + j) ∨ (v 11 (m * 200 + i) = v 11 (m * 200 + j) ∧ w 0 (w 14 (1000 * m + 5 * i)) = 1))
def r_K (v w : zs_V) : Prop := ∀ m : Int, 0 ≤ m → m < 3 → r_K1 v w m
def r_E (v w : zs_V) : Prop := v 20 0 = w 17 0 ∧ 0 ≤ w 17 0 ∧ w 17 0 < 200
def RR (c : Int) (v w : zs_V) : Prop := r_A v w ∧ r_B v w ∧ r_L v w ∧ r_Q v w ∧ r_R v w ∧ r_K v w ∧ r_E v w ∧ 0 ≤ w 16 0 ∧ w 16 0 ≤ c
/-! what it gives -/
theorem r_A_w {v w : zs_V} (h : r_A v w) : x_S w := by
  obtain ⟨hS, h0, h1, h2, h3, h4, h15⟩ := h
  exact x_S_of h0.symm h1.symm h2.symm h3.symm h4.symm h15.symm hS
theorem r_T_f {v w : zs_V} (hA : r_A v w) {p : Int} (h : r_T v w p) : v 5 p / 1000 = w 5 p ∧ v 5 p / 10 % 100 = w 6 p ∧ v 5 p % 10 = w 7 p ∧ 0 ≤ v 5 p ∧ v 5 p < 1000 * v 15 0 ∧ x_left v p = w 10 p - m_clk w p ∧ (0 ≤ m_clk w p ∧ m_clk w p ≤ 1000000000) := by
  obtain ⟨h1, h2, h3, h4, h5, h6, h7, h8, h9, h10, h11⟩ := h
  have e15 : v 15 0 = w 15 0 := by rw [hA.2.2.2.2.2.2]
  have hs := x_S_at (r_A_w hA) h2.1 h2.2
  have d : v 5 p / 1000 = w 5 p := by omega
  refine ⟨d, by omega, by omega, by omega, by omega, ?_, ⟨hs.2.2.2.2.2.2.1, hs.2.2.2.2.2.2.2⟩⟩
  unfold x_left
  rw [d, h8, hA.2.2.1, hA.2.2.2.2.2.1]
theorem r_T_E {v w : zs_V} (hA : r_A v w) {p : Int} (h0 : 0 ≤ p) (h1 : p < 200) (h : r_T v w p) : x_E v p := by
  have hf := r_T_f hA h
  obtain ⟨g1, g2, g3, g4, g5, g6, g7, g8, g9, g10, g11⟩ := h
  refine ⟨⟨h0, h1, hf.2.2.2.1, hf.2.2.2.2.1⟩, ?_⟩
  rw [g8]
  omega
theorem r_T_n {v w : zs_V} (hA : r_A v w) {p : Int} (h : r_T v w p) : ¬ v 5 p = -1 ∧ ¬ w 5 p = -99999999 := by
  have hf := r_T_f hA h
  have := h.2.1
  omega
theorem r_B_t {v w : zs_V} (hB : r_B v w) {p : Int} (h0 : 0 ≤ p) (h1 : p < 200) (h : ¬ v 5 p = -1) : r_T v w p := (hB p h0 h1).resolve_left (fun z => h z.1)
theorem r_B_w {v w : zs_V} (hB : r_B v w) {p : Int} (h0 : 0 ≤ p) (h1 : p < 200) (h : ¬ w 5 p = -99999999) : r_T v w p := (hB p h0 h1).resolve_left (fun z => h z.2)
theorem r_L_t {v w : zs_V} (hB : r_B v w) (hL : r_L v w) {p : Int} (h : p ∈ x_L v) : r_T v w p := by
  obtain ⟨a, b, c⟩ := (hL.2.1 p).mp h
  exact r_B_t hB a b c
theorem r_L_m {v w : zs_V} (hA : r_A v w) (hL : r_L v w) {p : Int} (h0 : 0 ≤ p) (h1 : p < 200) (h : r_T v w p) : p ∈ x_L v := (hL.2.1 p).mpr ⟨h0, h1, (r_T_n hA h).1⟩
theorem r_T_sh {v w : zs_V} (hA : r_A v w) {p : Int} (h : r_T v w p) : 0 < x_left v p ↔ m_sh w p := by
  have hf := r_T_f hA h
  have hn := (r_T_n hA h).2
  rw [hf.2.2.2.2.2.1]
  constructor
  · intro z
    exact ⟨hn, by omega⟩
  · intro z
    have := z.2
    omega
theorem RR_T {c : Int} {v w : zs_V} (h : RR c v w) : x_T v := by
  obtain ⟨hA, hB, hL, -⟩ := h
  refine ⟨hL.1.1, hL.1.2, fun j a b => ?_⟩
  have hm := x_L_line (v := v) a b
  obtain ⟨q1, q2, q3⟩ := (hL.2.1 _).mp hm
  exact r_T_E hA q1 q2 (r_B_t hB q1 q2 q3)
theorem RR_U {c : Int} {v w : zs_V} (h : RR c v w) : x_U v := fun j a b => by
  obtain ⟨hA, hB, hL, -⟩ := h
  have hm := x_L_line (v := v) a b
  have ht := r_L_t hB hL hm
  have hf := r_T_f hA ht
  obtain ⟨g1, g2, g3, g4, g5, g6, g7, g8, g9, g10, g11⟩ := ht
  rw [g7]
  omega
theorem RR_J {c : Int} {v w : zs_V} (h : RR c v w) : x_J v := by
  have hT := RR_T h
  obtain ⟨hA, hB, hL, hQ, hR, hK, hE, hc⟩ := h
  refine ⟨hA.1, hT, fun p a b => ?_, hR.2.2.1, hR.2.2.2.1, by rw [hE.1]; exact hE.2⟩
  rcases hB p a b with z | z
  · exact Or.inl z.1
  · exact Or.inr (r_T_E hA a b z)
theorem RR_W {c : Int} {v w : zs_V} (h : RR c v w) (hc : c ≤ 1000000) : m_W w := fun p a b => by
  obtain ⟨hA, hB, hL, hQ, hR, hK, hE, hc1⟩ := h
  refine (hB p a b).imp (fun z => z.2) (fun z => ?_)
  have hf := r_T_f hA z
  obtain ⟨g1, g2, g3, g4, g5, g6, g7, g8, g9, g10, g11⟩ := z
  exact ⟨g2, g3, g4, by omega, by omega⟩
theorem RR_mU {c : Int} {v w : zs_V} (h : RR c v w) : m_U w := fun p a b hn => by
  obtain ⟨hA, hB, hL, hQ, hR, hK, hE, hc1⟩ := h
  have z := r_B_w hB a b hn
  have hf := r_T_f hA z
  obtain ⟨g1, g2, g3, g4, g5, g6, g7, g8, g9, g10, g11⟩ := z
  omega
theorem RR_mJ {c : Int} {v w : zs_V} (h : RR c v w) (hc : c ≤ 1000000) : m_J w := by
  have hW := RR_W h hc
  obtain ⟨hA, hB, hL, hQ, hR, hK, hE, hc1⟩ := h
  exact ⟨r_A_w hA, hW, by rw [← hR.1]; exact hR.2.2.2.1, hE.2⟩
theorem RR_xrs {c : Int} {v w : zs_V} (h : RR c v w) (m : Int) (h0 : 0 ≤ m) (h1 : m < 3) : -1 ≤ v 14 m ∧ x_rsP v m := by
  obtain ⟨hA, hB, hL, hQ, hR, hK, hE, hc1⟩ := h
  have e15 : v 15 0 = w 15 0 := by rw [hA.2.2.2.2.2.2]
  rcases hK m h0 h1 with z | ⟨z1, z2, z3, z4⟩
  · refine ⟨by omega, by omega, fun i a b => absurd b (by omega), fun i j a b d => absurd d (by omega)⟩
  · refine ⟨by omega, z1.2, fun i a b => ?_, fun i j a b d => ?_⟩
    · obtain ⟨q1, q2, q3, q4, q5, q6⟩ := z3 i a b
      rw [e15]
      omega
    · rcases z4 i j a b d with q | q <;> omega
theorem RR_mrs {c : Int} {v w : zs_V} (h : RR c v w) (m : Int) (h0 : 0 ≤ m) (h1 : m < 3) : m_rsP w m := by
  obtain ⟨hA, hB, hL, hQ, hR, hK, hE, hc1⟩ := h
  rcases hK m h0 h1 with z | ⟨z1, z2, z3, z4⟩
  · refine ⟨Or.inl z.2, fun i a b => absurd b (by omega)⟩
  · refine ⟨Or.inr (by omega), fun i a b => (z3 i a (by omega)).1⟩
/-! sums -/
def z_sum (f : Int → Int) : List Int → Int
  | [] => 0
  | p :: ps => f p + z_sum f ps
theorem z_sum_perm (f : Int → Int) {L M : List Int} (h : L.Perm M) : z_sum f L = z_sum f M := by
  induction h with
  | nil => rfl
  | cons x _ ih => simp only [z_sum]; rw [ih]
  | swap x y l => simp only [z_sum]; omega
  | trans _ _ ih1 ih2 => rw [ih1, ih2]
theorem z_sum_filter (f : Int → Int) (t : Int → Bool) (L : List Int) (h : ∀ p ∈ L, t p = false → f p = 0) : z_sum f (L.filter t) = z_sum f L := by
  induction L with
  | nil => rfl
  | cons p ps ih =>
    have ih := ih (fun q hq => h q (List.mem_cons_of_mem _ hq))
    by_cases c : t p = true
    · rw [List.filter_cons_of_pos c]
      simp only [z_sum]
      rw [ih]
    · rw [List.filter_cons_of_neg c]
      simp only [z_sum]
      rw [ih, h p List.mem_cons_self (by simpa using c)]
      omega
theorem z_sum_congr {f g : Int → Int} {L : List Int} (h : ∀ p ∈ L, f p = g p) : z_sum f L = z_sum g L := by
  induction L with
  | nil => rfl
  | cons p ps ih =>
    simp only [z_sum]
    rw [h p List.mem_cons_self, ih (fun q hq => h q (List.mem_cons_of_mem _ hq))]
theorem z_fr_nd (p : Int) (n : Nat) : (z_fr p n).Nodup := by
  induction n generalizing p with
  | zero => simp [z_fr]
  | succ n ih =>
    simp only [z_fr, List.nodup_cons]
    refine ⟨fun h => ?_, ih _⟩
    have := z_fr_m.mp h
    omega
theorem z_Z_nd : z_Z.Nodup := z_fr_nd 0 200
theorem r_L_nd {v w : zs_V} (hL : r_L v w) : (x_L v).Nodup := by
  refine List.Pairwise.imp (fun {a b} h => ?_) hL.2.2
  rintro rfl
  rcases h with h | h
  · omega
  · omega
theorem r_L_perm {v w : zs_V} (hL : r_L v w) : (x_L v).Perm (z_Z.filter (fun p => !decide (v 5 p = -1))) := by
  refine (List.perm_ext_iff_of_nodup (r_L_nd hL) (List.Pairwise.sublist List.filter_sublist z_Z_nd)).mpr (fun p => ?_)
  rw [hL.2.1 p, List.mem_filter, z_Z_m]
  simp
  constructor
  · rintro ⟨a, b, c⟩
    exact ⟨⟨a, b⟩, c⟩
  · rintro ⟨⟨a, b⟩, c⟩
    exact ⟨a, b, c⟩
theorem RR_sum {v w : zs_V} (hB : r_B v w) (hL : r_L v w) {f g : Int → Int} (h1 : ∀ p, r_T v w p → 0 ≤ p → p < 200 → f p = g p) (h2 : ∀ p, w 5 p = -99999999 → g p = 0) : z_sum f (x_L v) = z_sum g z_Z := by
  rw [z_sum_congr (g := g) (fun p hp => h1 p (r_L_t hB hL hp) ((hL.2.1 p).mp hp).1 ((hL.2.1 p).mp hp).2.1), z_sum_perm g (r_L_perm hL)]
  refine z_sum_filter g _ _ (fun p hp hf => ?_)
  have hb := z_Z_m.mp hp
  have hs : v 5 p = -1 := by simpa using hf
  rcases hB p hb.1 hb.2 with z | z
  · exact h2 p z.2
  · obtain ⟨g1, g2, g3, g4, -⟩ := z
    exfalso
    omega
theorem r_full {v w : zs_V} (hL : r_L v w) : x_lf v 200 0 = -1 ∨ v 16 0 < 200 := by
  rcases x_lf_c v 200 0 (by omega) with h | h
  · exact Or.inl h
  · right
    have hp := (r_L_perm hL).length_eq
    have hlen : (x_L v).length = (v 16 0).toNat := x_seg_len v 0 _
    have hlt : (z_Z.filter (fun p => !decide (v 5 p = -1))).length < z_Z.length := by
      have hsub := List.filter_sublist (p := fun p => !decide (v 5 p = -1)) (l := z_Z)
      rcases Nat.lt_or_ge (z_Z.filter (fun p => !decide (v 5 p = -1))).length z_Z.length with q | q
      · exact q
      · exfalso
        have he := hsub.eq_of_length_le q
        have hm : x_lf v 200 0 ∈ z_Z := z_Z_m.mpr ⟨by omega, by omega⟩
        rw [← he] at hm
        have := (List.mem_filter.mp hm).2
        simp [h.2.2] at this
    have hz : z_Z.length = 200 := by decide +kernel
    have := hL.1.1
    omega
