
theorem z_fr_m {p q : Int} {n : Nat} : q ∈ z_fr p n ↔ p ≤ q ∧ q < p + n := by
  induction n generalizing p with
  | zero =>
    constructor
    · intro h; simp [z_fr] at h
    · intro h; omega
  | succ n ih =>
    simp only [z_fr, List.mem_cons, ih]
    omega
theorem z_Z_m {q : Int} : q ∈ z_Z ↔ 0 ≤ q ∧ q < 200 := by
  unfold z_Z
  rw [z_fr_m]
  omega
theorem m_fi_c (w : zs_V) (s k last sh : Int) (L : List Int) : ∀ a, m_fi w s k last sh L a = a ∨ (m_fi w s k last sh L a ∈ L ∧ m_is w s k last sh (m_fi w s k last sh L a)) := by
  induction L with
  | nil => intro a; exact Or.inl rfl
  | cons p ps ih =>
    intro a
    simp only [m_fi]
    split
    · next h =>
      rcases ih p with e | e
      · right
        rw [e]
        exact ⟨List.mem_cons_self, h.1⟩
      · exact Or.inr ⟨List.mem_cons_of_mem _ e.1, e.2⟩
    · rcases ih a with e | e
      · exact Or.inl e
      · exact Or.inr ⟨List.mem_cons_of_mem _ e.1, e.2⟩
/-- a place that is taken, or none -/
def m_V (w : zs_V) (a : Int) : Prop := a = -99999999 ∨ (0 ≤ a ∧ a < 200 ∧ m_P w a)
theorem m_V_b {w : zs_V} {a : Int} (h : m_V w a) : zn a := by
  rcases h with h | h
  · omega
  · have := h.1
    have := h.2.1
    omega
theorem m_fi_V {w : zs_V} (hW : m_W w) {s : Int} (k last sh : Int) (hs : ¬ s = -99999999) : m_V w (m_fi w s k last sh z_Z (-99999999)) := by
  rcases m_fi_c w s k last sh z_Z (-99999999) with h | h
  · exact Or.inl h
  · have hb := z_Z_m.mp h.1
    right
    refine ⟨by omega, by omega, (hW _ (by omega) (by omega)).resolve_left ?_⟩
    rw [h.2.1]
    exact hs
set_option maxHeartbeats 4000000 in
set_option maxRecDepth 100000 in
theorem l_X5_fi {post : Int → zs_V → Prop} {w : zs_V} {s k i sh last kk r0 : Int} (hS : x_S w) (hW : m_W w) (hs : zn s ∧ ¬ s = -99999999) (hk : zn k) (hsh : zn sh) (hl : zn last) (hK : ∀ x9, zs_R mX5_findIn 0 0 shM post w 130 [some (.inr 0), some (.inl s), some (.inl k), some (.inl i), some (.inl sh), some (.inl last), some (.inl r0), some (.inl kk), some (.inl 200), x9] []) : ∀ (n : Nat) (p a : Int) (x9 : Option zs_A), 0 ≤ p → p + n = 200 → m_V w a → m_fi w s k last sh (z_fr p n) a = r0 → zs_R mX5_findIn 0 0 shM (post) w 23 [some (.inr 0), some (.inl (s)), some (.inl (k)), some (.inl (i)), some (.inl (sh)), some (.inl (last)), some (.inl (a)), some (.inl (kk)), some (.inl (p)), x9] [] := by
  intro n
  induction n using Nat.strongRecOn with
  | ind n ih =>
    intro p a x9 h0 hn ha hr
    refine zs_iload dX5_findIn_23 rfl ?_
    refine zs_sipush (x := 200) dX5_findIn_25 (by decide) ?_
    refine zs_icmp_ge (tgt := 130) dX5_findIn_28 (by decide) (by omega) (by omega) (fun h28 => ?_) (fun h28 => ?_)
    · obtain rfl : n = 0 := by omega
      obtain rfl : p = 200 := by omega
      simp only [z_fr, m_fi] at hr
      subst hr
      exact hK _
    · obtain ⟨n', rfl⟩ : ∃ n', n = n' + 1 := ⟨n - 1, by omega⟩
      have hz := m_W_z hS hW (p := p) (by omega) (by omega)
      have haz := m_V_b ha
      refine zs_aload_n dX5_findIn_31 rfl ?_
      refine zs_getr (j := 6) dX5_findIn_32 rfl rfl rfl (by decide) nX5_findIn_X5 fX5_findIn_25 ?_
      refine zs_iload dX5_findIn_35 rfl ?_
      refine zs_iaload dX5_findIn_37 rfl (by decide) (by omega) (by omega) ?_
      refine zs_iload_n dX5_findIn_38 rfl ?_
      refine zs_icmp_ne (tgt := 83) dX5_findIn_39 (by decide) (by omega) (by omega) (fun h39 => ?_) (fun h39 => ?_)
      · refine zs_iconst (x := 0) dX5_findIn_83 (by decide) ?_
        refine zs_istore (lv' := [some (.inr 0), some (.inl (s)), some (.inl (k)), some (.inl (i)), some (.inl (sh)), some (.inl (last)), some (.inl (a)), some (.inl (kk)), some (.inl (p)), some (.inl (0))]) dX5_findIn_84 (by decide) rfl ?_
        refine zs_iload dX5_findIn_86 rfl ?_
        refine zs_if_eq (tgt := 120) dX5_findIn_88 (by decide) (by omega) (fun h88 => ?_) (fun h88 => absurd h88 (by decide))
        refine zs_iload dX5_findIn_120 rfl ?_
        refine zs_istore (lv' := [some (.inr 0), some (.inl (s)), some (.inl (k)), some (.inl (i)), some (.inl (sh)), some (.inl (last)), some (.inl (a)), some (.inl (kk)), some (.inl (p)), some (.inl (0))]) dX5_findIn_122 (by decide) rfl ?_
        refine zs_iinc (lv' := [some (.inr 0), some (.inl (s)), some (.inl (k)), some (.inl (i)), some (.inl (sh)), some (.inl (last)), some (.inl (a)), some (.inl (kk)), some (.inl (p + 1)), some (.inl (0))]) dX5_findIn_124 rfl (by decide) rfl ?_
        refine zs_goto (tgt := 23) dX5_findIn_127 (by decide) ?_
        simp only [z_fr, m_fi] at hr
        rw [if_neg (fun q => h39 q.1.1)] at hr
        exact ih n' (by omega) (p + 1) (a) _ (by omega) (by omega) (ha) hr
      · have hP := (hW p (by omega) (by omega)).resolve_left (by omega)
        have hk1 := hP.2.1
        have hc1 := hP.2.2.2.2
        refine zs_aload_n dX5_findIn_42 rfl ?_
        refine zs_getr (j := 7) dX5_findIn_43 rfl rfl rfl (by decide) nX5_findIn_X5 fX5_findIn_28 ?_
        refine zs_iload dX5_findIn_46 rfl ?_
        refine zs_iaload dX5_findIn_48 rfl (by decide) (by omega) (by omega) ?_
        refine zs_iload_n dX5_findIn_49 rfl ?_
        refine zs_icmp_ne (tgt := 83) dX5_findIn_50 (by decide) (by omega) (by omega) (fun h50 => ?_) (fun h50 => ?_)
        · refine zs_iconst (x := 0) dX5_findIn_83 (by decide) ?_
          refine zs_istore (lv' := [some (.inr 0), some (.inl (s)), some (.inl (k)), some (.inl (i)), some (.inl (sh)), some (.inl (last)), some (.inl (a)), some (.inl (kk)), some (.inl (p)), some (.inl (0))]) dX5_findIn_84 (by decide) rfl ?_
          refine zs_iload dX5_findIn_86 rfl ?_
          refine zs_if_eq (tgt := 120) dX5_findIn_88 (by decide) (by omega) (fun h88 => ?_) (fun h88 => absurd h88 (by decide))
          refine zs_iload dX5_findIn_120 rfl ?_
          refine zs_istore (lv' := [some (.inr 0), some (.inl (s)), some (.inl (k)), some (.inl (i)), some (.inl (sh)), some (.inl (last)), some (.inl (a)), some (.inl (kk)), some (.inl (p)), some (.inl (0))]) dX5_findIn_122 (by decide) rfl ?_
          refine zs_iinc (lv' := [some (.inr 0), some (.inl (s)), some (.inl (k)), some (.inl (i)), some (.inl (sh)), some (.inl (last)), some (.inl (a)), some (.inl (kk)), some (.inl (p + 1)), some (.inl (0))]) dX5_findIn_124 rfl (by decide) rfl ?_
          refine zs_goto (tgt := 23) dX5_findIn_127 (by decide) ?_
          simp only [z_fr, m_fi] at hr
          rw [if_neg (fun q => h50 q.1.2.1)] at hr
          exact ih n' (by omega) (p + 1) (a) _ (by omega) (by omega) (ha) hr
        · refine zs_aload_n dX5_findIn_53 rfl ?_
          refine zs_getr (j := 12) dX5_findIn_54 rfl rfl rfl (by decide) nX5_findIn_X5 fX5_findIn_43 ?_
          refine zs_iload dX5_findIn_57 rfl ?_
          refine zs_iaload dX5_findIn_59 rfl (by decide) (by omega) (by omega) ?_
          refine zs_iload dX5_findIn_60 rfl ?_
          refine zs_icmp_le (tgt := 83) dX5_findIn_62 (by decide) (by omega) (by omega) (fun h62 => ?_) (fun h62 => ?_)
          · refine zs_iconst (x := 0) dX5_findIn_83 (by decide) ?_
            refine zs_istore (lv' := [some (.inr 0), some (.inl (s)), some (.inl (k)), some (.inl (i)), some (.inl (sh)), some (.inl (last)), some (.inl (a)), some (.inl (kk)), some (.inl (p)), some (.inl (0))]) dX5_findIn_84 (by decide) rfl ?_
            refine zs_iload dX5_findIn_86 rfl ?_
            refine zs_if_eq (tgt := 120) dX5_findIn_88 (by decide) (by omega) (fun h88 => ?_) (fun h88 => absurd h88 (by decide))
            refine zs_iload dX5_findIn_120 rfl ?_
            refine zs_istore (lv' := [some (.inr 0), some (.inl (s)), some (.inl (k)), some (.inl (i)), some (.inl (sh)), some (.inl (last)), some (.inl (a)), some (.inl (kk)), some (.inl (p)), some (.inl (0))]) dX5_findIn_122 (by decide) rfl ?_
            refine zs_iinc (lv' := [some (.inr 0), some (.inl (s)), some (.inl (k)), some (.inl (i)), some (.inl (sh)), some (.inl (last)), some (.inl (a)), some (.inl (kk)), some (.inl (p + 1)), some (.inl (0))]) dX5_findIn_124 rfl (by decide) rfl ?_
            refine zs_goto (tgt := 23) dX5_findIn_127 (by decide) ?_
            simp only [z_fr, m_fi] at hr
            rw [if_neg (fun q => by have := q.1.2.2.1; omega)] at hr
            exact ih n' (by omega) (p + 1) (a) _ (by omega) (by omega) (ha) hr
          · refine zs_iload dX5_findIn_65 rfl ?_
            refine zs_if_eq (tgt := 79) dX5_findIn_67 (by decide) (by omega) (fun h67 => ?_) (fun h67 => ?_)
            · refine zs_iconst (x := 1) dX5_findIn_79 (by decide) ?_
              refine zs_goto (tgt := 84) dX5_findIn_80 (by decide) ?_
              refine zs_istore (lv' := [some (.inr 0), some (.inl (s)), some (.inl (k)), some (.inl (i)), some (.inl (sh)), some (.inl (last)), some (.inl (a)), some (.inl (kk)), some (.inl (p)), some (.inl (1))]) dX5_findIn_84 (by decide) rfl ?_
              refine zs_iload dX5_findIn_86 rfl ?_
              refine zs_if_eq (tgt := 120) dX5_findIn_88 (by decide) (by omega) (fun h88 => absurd h88 (by decide)) (fun h88 => ?_)
              refine zs_iload dX5_findIn_91 rfl ?_
              refine zs_ldc (x := -99999999) dX5_findIn_93 kX5_findIn_55 (by decide) ?_
              refine zs_icmp_eq (tgt := 115) dX5_findIn_95 (by decide) (by omega) (by omega) (fun h95 => ?_) (fun h95 => ?_)
              · refine zs_iload dX5_findIn_115 rfl ?_
                refine zs_goto (tgt := 122) dX5_findIn_117 (by decide) ?_
                refine zs_istore (lv' := [some (.inr 0), some (.inl (s)), some (.inl (k)), some (.inl (i)), some (.inl (sh)), some (.inl (last)), some (.inl (p)), some (.inl (kk)), some (.inl (p)), some (.inl (1))]) dX5_findIn_122 (by decide) rfl ?_
                refine zs_iinc (lv' := [some (.inr 0), some (.inl (s)), some (.inl (k)), some (.inl (i)), some (.inl (sh)), some (.inl (last)), some (.inl (p)), some (.inl (kk)), some (.inl (p + 1)), some (.inl (1))]) dX5_findIn_124 rfl (by decide) rfl ?_
                refine zs_goto (tgt := 23) dX5_findIn_127 (by decide) ?_
                simp only [z_fr, m_fi] at hr
                rw [if_pos ⟨⟨h39, h50, by omega, Or.inl h67⟩, Or.inl h95⟩] at hr
                exact ih n' (by omega) (p + 1) (p) _ (by omega) (by omega) (Or.inr ⟨h0, by omega, hP⟩) hr
              · have ha1 := ha.resolve_left h95
                have ha2 := ha1.1
                have ha3 := ha1.2.1
                have ha4 := ha1.2.2.2.2.2.2
                refine zs_aload_n dX5_findIn_98 rfl ?_
                refine zs_getr (j := 12) dX5_findIn_99 rfl rfl rfl (by decide) nX5_findIn_X5 fX5_findIn_43 ?_
                refine zs_iload dX5_findIn_102 rfl ?_
                refine zs_iaload dX5_findIn_104 rfl (by decide) (by omega) (by omega) ?_
                refine zs_aload_n dX5_findIn_105 rfl ?_
                refine zs_getr (j := 12) dX5_findIn_106 rfl rfl rfl (by decide) nX5_findIn_X5 fX5_findIn_43 ?_
                refine zs_iload dX5_findIn_109 rfl ?_
                refine zs_iaload dX5_findIn_111 rfl (by decide) (by omega) (by omega) ?_
                refine zs_icmp_ge (tgt := 120) dX5_findIn_112 (by decide) (by omega) (by omega) (fun h112 => ?_) (fun h112 => ?_)
                · refine zs_iload dX5_findIn_120 rfl ?_
                  refine zs_istore (lv' := [some (.inr 0), some (.inl (s)), some (.inl (k)), some (.inl (i)), some (.inl (sh)), some (.inl (last)), some (.inl (a)), some (.inl (kk)), some (.inl (p)), some (.inl (1))]) dX5_findIn_122 (by decide) rfl ?_
                  refine zs_iinc (lv' := [some (.inr 0), some (.inl (s)), some (.inl (k)), some (.inl (i)), some (.inl (sh)), some (.inl (last)), some (.inl (a)), some (.inl (kk)), some (.inl (p + 1)), some (.inl (1))]) dX5_findIn_124 rfl (by decide) rfl ?_
                  refine zs_goto (tgt := 23) dX5_findIn_127 (by decide) ?_
                  simp only [z_fr, m_fi] at hr
                  rw [if_neg (fun q => q.2.elim h95 (fun z => by omega))] at hr
                  exact ih n' (by omega) (p + 1) (a) _ (by omega) (by omega) (ha) hr
                · refine zs_iload dX5_findIn_115 rfl ?_
                  refine zs_goto (tgt := 122) dX5_findIn_117 (by decide) ?_
                  refine zs_istore (lv' := [some (.inr 0), some (.inl (s)), some (.inl (k)), some (.inl (i)), some (.inl (sh)), some (.inl (last)), some (.inl (p)), some (.inl (kk)), some (.inl (p)), some (.inl (1))]) dX5_findIn_122 (by decide) rfl ?_
                  refine zs_iinc (lv' := [some (.inr 0), some (.inl (s)), some (.inl (k)), some (.inl (i)), some (.inl (sh)), some (.inl (last)), some (.inl (p)), some (.inl (kk)), some (.inl (p + 1)), some (.inl (1))]) dX5_findIn_124 rfl (by decide) rfl ?_
                  refine zs_goto (tgt := 23) dX5_findIn_127 (by decide) ?_
                  simp only [z_fr, m_fi] at hr
                  rw [if_pos ⟨⟨h39, h50, by omega, Or.inl h67⟩, Or.inr (by omega)⟩] at hr
                  exact ih n' (by omega) (p + 1) (p) _ (by omega) (by omega) (Or.inr ⟨h0, by omega, hP⟩) hr
            · refine zs_aload_n dX5_findIn_70 rfl ?_
              refine zs_iload dX5_findIn_71 rfl ?_
              refine zs_eV (As := [.inl (p)]) (rest := []) (q := 0) dX5_findIn_73 rfl (Nat.le_of_ble_eq_true rfl) rfl rfl YX5_isShown rfl rfl (Nat.le_of_ble_eq_true rfl) gX5_findIn_X5_isShown (by decide) ⟨Nat.zero_le _, Nat.zero_le _⟩ rfl (t_X5_isShown (w := w) (p) (by omega) hS hW) ?_
              refine zs_ifz_eq (tgt := 83) dX5_findIn_76 (by decide)  (fun h76 => ?_) (fun h76 => ?_)
              · refine zs_iconst (x := 0) dX5_findIn_83 (by decide) ?_
                refine zs_istore (lv' := [some (.inr 0), some (.inl (s)), some (.inl (k)), some (.inl (i)), some (.inl (sh)), some (.inl (last)), some (.inl (a)), some (.inl (kk)), some (.inl (p)), some (.inl (0))]) dX5_findIn_84 (by decide) rfl ?_
                refine zs_iload dX5_findIn_86 rfl ?_
                refine zs_if_eq (tgt := 120) dX5_findIn_88 (by decide) (by omega) (fun h88 => ?_) (fun h88 => absurd h88 (by decide))
                refine zs_iload dX5_findIn_120 rfl ?_
                refine zs_istore (lv' := [some (.inr 0), some (.inl (s)), some (.inl (k)), some (.inl (i)), some (.inl (sh)), some (.inl (last)), some (.inl (a)), some (.inl (kk)), some (.inl (p)), some (.inl (0))]) dX5_findIn_122 (by decide) rfl ?_
                refine zs_iinc (lv' := [some (.inr 0), some (.inl (s)), some (.inl (k)), some (.inl (i)), some (.inl (sh)), some (.inl (last)), some (.inl (a)), some (.inl (kk)), some (.inl (p + 1)), some (.inl (0))]) dX5_findIn_124 rfl (by decide) rfl ?_
                refine zs_goto (tgt := 23) dX5_findIn_127 (by decide) ?_
                simp only [z_fr, m_fi] at hr
                rw [if_neg (fun q => q.1.2.2.2.elim h67 h76)] at hr
                exact ih n' (by omega) (p + 1) (a) _ (by omega) (by omega) (ha) hr
              · refine zs_iconst (x := 1) dX5_findIn_79 (by decide) ?_
                refine zs_goto (tgt := 84) dX5_findIn_80 (by decide) ?_
                refine zs_istore (lv' := [some (.inr 0), some (.inl (s)), some (.inl (k)), some (.inl (i)), some (.inl (sh)), some (.inl (last)), some (.inl (a)), some (.inl (kk)), some (.inl (p)), some (.inl (1))]) dX5_findIn_84 (by decide) rfl ?_
                refine zs_iload dX5_findIn_86 rfl ?_
                refine zs_if_eq (tgt := 120) dX5_findIn_88 (by decide) (by omega) (fun h88 => absurd h88 (by decide)) (fun h88 => ?_)
                refine zs_iload dX5_findIn_91 rfl ?_
                refine zs_ldc (x := -99999999) dX5_findIn_93 kX5_findIn_55 (by decide) ?_
                refine zs_icmp_eq (tgt := 115) dX5_findIn_95 (by decide) (by omega) (by omega) (fun h95 => ?_) (fun h95 => ?_)
                · refine zs_iload dX5_findIn_115 rfl ?_
                  refine zs_goto (tgt := 122) dX5_findIn_117 (by decide) ?_
                  refine zs_istore (lv' := [some (.inr 0), some (.inl (s)), some (.inl (k)), some (.inl (i)), some (.inl (sh)), some (.inl (last)), some (.inl (p)), some (.inl (kk)), some (.inl (p)), some (.inl (1))]) dX5_findIn_122 (by decide) rfl ?_
                  refine zs_iinc (lv' := [some (.inr 0), some (.inl (s)), some (.inl (k)), some (.inl (i)), some (.inl (sh)), some (.inl (last)), some (.inl (p)), some (.inl (kk)), some (.inl (p + 1)), some (.inl (1))]) dX5_findIn_124 rfl (by decide) rfl ?_
                  refine zs_goto (tgt := 23) dX5_findIn_127 (by decide) ?_
                  simp only [z_fr, m_fi] at hr
                  rw [if_pos ⟨⟨h39, h50, by omega, Or.inr h76⟩, Or.inl h95⟩] at hr
                  exact ih n' (by omega) (p + 1) (p) _ (by omega) (by omega) (Or.inr ⟨h0, by omega, hP⟩) hr
                · have ha1 := ha.resolve_left h95
                  have ha2 := ha1.1
                  have ha3 := ha1.2.1
                  have ha4 := ha1.2.2.2.2.2.2
                  refine zs_aload_n dX5_findIn_98 rfl ?_
                  refine zs_getr (j := 12) dX5_findIn_99 rfl rfl rfl (by decide) nX5_findIn_X5 fX5_findIn_43 ?_
                  refine zs_iload dX5_findIn_102 rfl ?_
                  refine zs_iaload dX5_findIn_104 rfl (by decide) (by omega) (by omega) ?_
                  refine zs_aload_n dX5_findIn_105 rfl ?_
                  refine zs_getr (j := 12) dX5_findIn_106 rfl rfl rfl (by decide) nX5_findIn_X5 fX5_findIn_43 ?_
                  refine zs_iload dX5_findIn_109 rfl ?_
                  refine zs_iaload dX5_findIn_111 rfl (by decide) (by omega) (by omega) ?_
                  refine zs_icmp_ge (tgt := 120) dX5_findIn_112 (by decide) (by omega) (by omega) (fun h112 => ?_) (fun h112 => ?_)
                  · refine zs_iload dX5_findIn_120 rfl ?_
                    refine zs_istore (lv' := [some (.inr 0), some (.inl (s)), some (.inl (k)), some (.inl (i)), some (.inl (sh)), some (.inl (last)), some (.inl (a)), some (.inl (kk)), some (.inl (p)), some (.inl (1))]) dX5_findIn_122 (by decide) rfl ?_
                    refine zs_iinc (lv' := [some (.inr 0), some (.inl (s)), some (.inl (k)), some (.inl (i)), some (.inl (sh)), some (.inl (last)), some (.inl (a)), some (.inl (kk)), some (.inl (p + 1)), some (.inl (1))]) dX5_findIn_124 rfl (by decide) rfl ?_
                    refine zs_goto (tgt := 23) dX5_findIn_127 (by decide) ?_
                    simp only [z_fr, m_fi] at hr
                    rw [if_neg (fun q => q.2.elim h95 (fun z => by omega))] at hr
                    exact ih n' (by omega) (p + 1) (a) _ (by omega) (by omega) (ha) hr
                  · refine zs_iload dX5_findIn_115 rfl ?_
                    refine zs_goto (tgt := 122) dX5_findIn_117 (by decide) ?_
                    refine zs_istore (lv' := [some (.inr 0), some (.inl (s)), some (.inl (k)), some (.inl (i)), some (.inl (sh)), some (.inl (last)), some (.inl (p)), some (.inl (kk)), some (.inl (p)), some (.inl (1))]) dX5_findIn_122 (by decide) rfl ?_
                    refine zs_iinc (lv' := [some (.inr 0), some (.inl (s)), some (.inl (k)), some (.inl (i)), some (.inl (sh)), some (.inl (last)), some (.inl (p)), some (.inl (kk)), some (.inl (p + 1)), some (.inl (1))]) dX5_findIn_124 rfl (by decide) rfl ?_
                    refine zs_goto (tgt := 23) dX5_findIn_127 (by decide) ?_
                    simp only [z_fr, m_fi] at hr
                    rw [if_pos ⟨⟨h39, h50, by omega, Or.inr h76⟩, Or.inr (by omega)⟩] at hr
                    exact ih n' (by omega) (p + 1) (p) _ (by omega) (by omega) (Or.inr ⟨h0, by omega, hP⟩) hr
set_option maxHeartbeats 4000000 in
set_option maxRecDepth 100000 in
theorem l_X5_fo {w : zs_V} {s k i sh r0 : Int} (hS : x_S w) (hW : m_W w) (hs : zn s ∧ ¬ s = -99999999) (hk : zn k) (hsh : zn sh) (hi : 0 ≤ i ∧ i < 200) : ∀ (n : Nat) (kk last a : Int) (x8 x9 : Option zs_A), kk + n = i + 1 → 0 ≤ kk → zn last → zn a → m_fo w s k sh n last a = r0 → zs_R mX5_findIn 0 0 shM (zs_X r0 w) w 10 [some (.inr 0), some (.inl (s)), some (.inl (k)), some (.inl (i)), some (.inl (sh)), some (.inl (last)), some (.inl (a)), some (.inl (kk)), x8, x9] [] := by
  intro n
  induction n using Nat.strongRecOn with
  | ind n ih =>
    intro kk last a x8 x9 hn h0 hl ha hr
    refine zs_iload dX5_findIn_10 rfl ?_
    refine zs_iload_n dX5_findIn_12 rfl ?_
    refine zs_icmp_gt (tgt := 155) dX5_findIn_13 (by decide) (by omega) (by omega) (fun h13 => ?_) (fun h13 => ?_)
    · refine zs_iload dX5_findIn_155 rfl ?_
      refine zs_iret dX5_findIn_157 rfl ?_
      obtain rfl : n = 0 := by omega
      exact ⟨hr, rfl⟩
    · obtain ⟨n', rfl⟩ : ∃ n', n = n' + 1 := ⟨n - 1, by omega⟩
      refine zs_ldc (x := -99999999) dX5_findIn_16 kX5_findIn_55 (by decide) ?_
      refine zs_istore (lv' := [some (.inr 0), some (.inl (s)), some (.inl (k)), some (.inl (i)), some (.inl (sh)), some (.inl (last)), some (.inl (-99999999)), some (.inl (kk)), x8, x9]) dX5_findIn_18 (by decide) rfl ?_
      refine zs_iconst (x := 0) dX5_findIn_20 (by decide) ?_
      refine zs_istore (lv' := [some (.inr 0), some (.inl (s)), some (.inl (k)), some (.inl (i)), some (.inl (sh)), some (.inl (last)), some (.inl (-99999999)), some (.inl (kk)), some (.inl (0)), x9]) dX5_findIn_21 (by decide) rfl ?_
      refine l_X5_fi (r0 := m_fi w s k last sh z_Z (-99999999)) hS hW hs hk hsh hl (fun x9 => ?_) 200 0 (-99999999) _ (by omega) (by omega) (Or.inl rfl) rfl
      have hV := m_fi_V hW k last sh hs.2
      have hVz := m_V_b hV
      refine zs_iload dX5_findIn_130 rfl ?_
      refine zs_ldc (x := -99999999) dX5_findIn_132 kX5_findIn_55 (by decide) ?_
      refine zs_icmp_ne (tgt := 140) dX5_findIn_134 (by decide) (by omega) (by omega) (fun h134 => ?_) (fun h134 => ?_)
      · have hV1 := hV.resolve_left h134
        have hv2 := hV1.1
        have hv3 := hV1.2.1
        have hv4 := hV1.2.2.2.2.2.2
        refine zs_aload_n dX5_findIn_140 rfl ?_
        refine zs_getr (j := 12) dX5_findIn_141 rfl rfl rfl (by decide) nX5_findIn_X5 fX5_findIn_43 ?_
        refine zs_iload dX5_findIn_144 rfl ?_
        refine zs_iaload dX5_findIn_146 rfl (by decide) (by omega) (by omega) ?_
        refine zs_istore (lv' := [some (.inr 0), some (.inl (s)), some (.inl (k)), some (.inl (i)), some (.inl (sh)), some (.inl (w 11 (m_fi w s k last sh z_Z (-99999999)))), some (.inl (m_fi w s k last sh z_Z (-99999999))), some (.inl (kk)), some (.inl (200)), x9]) dX5_findIn_147 (by decide) rfl ?_
        refine zs_iinc (lv' := [some (.inr 0), some (.inl (s)), some (.inl (k)), some (.inl (i)), some (.inl (sh)), some (.inl (w 11 (m_fi w s k last sh z_Z (-99999999)))), some (.inl (m_fi w s k last sh z_Z (-99999999))), some (.inl (kk + 1)), some (.inl (200)), x9]) dX5_findIn_149 rfl (by decide) rfl ?_
        refine zs_goto (tgt := 10) dX5_findIn_152 (by decide) ?_
        simp only [m_fo] at hr
        rw [if_neg h134] at hr
        exact ih n' (by omega) (kk + 1) _ _ _ _ (by omega) (by omega) (by omega) hVz hr
      · refine zs_ldc (x := -99999999) dX5_findIn_137 kX5_findIn_55 (by decide) ?_
        refine zs_iret dX5_findIn_139 rfl ?_
        simp only [m_fo] at hr
        rw [if_pos h134] at hr
        exact ⟨hr, rfl⟩
set_option maxHeartbeats 4000000 in
set_option maxRecDepth 100000 in
theorem t_X5_findIn {w : zs_V} (s k i sh : Int) (hS : x_S w) (hW : m_W w) (hs : zn s ∧ ¬ s = -99999999) (hk : zn k) (hsh : zn sh) (hi : 0 ≤ i ∧ i < 200) : zs_R mX5_findIn 0 0 shM (zs_X (m_fo w s k sh (i + 1).toNat (-1) (-99999999)) w) w 0 [some (.inr 0), some (.inl (s)), some (.inl (k)), some (.inl (i)), some (.inl (sh)), none, none, none, none, none] [] := by
  refine zs_iconst (x := -1) dX5_findIn_0 (by decide) ?_
  refine zs_istore (lv' := [some (.inr 0), some (.inl (s)), some (.inl (k)), some (.inl (i)), some (.inl (sh)), some (.inl (-1)), none, none, none, none]) dX5_findIn_1 (by decide) rfl ?_
  refine zs_ldc (x := -99999999) dX5_findIn_3 kX5_findIn_55 (by decide) ?_
  refine zs_istore (lv' := [some (.inr 0), some (.inl (s)), some (.inl (k)), some (.inl (i)), some (.inl (sh)), some (.inl (-1)), some (.inl (-99999999)), none, none, none]) dX5_findIn_5 (by decide) rfl ?_
  refine zs_iconst (x := 0) dX5_findIn_7 (by decide) ?_
  refine zs_istore (lv' := [some (.inr 0), some (.inl (s)), some (.inl (k)), some (.inl (i)), some (.inl (sh)), some (.inl (-1)), some (.inl (-99999999)), some (.inl (0)), none, none]) dX5_findIn_8 (by decide) rfl ?_
  exact l_X5_fo hS hW hs hk hsh hi (i + 1).toNat 0 (-1) (-99999999) _ _ (by omega) (by omega) (by omega) (by omega) rfl

noncomputable def m_heldR (w : zs_V) (s k o : Int) : Int := if ((0 ≤ s ∧ s < w 15 0) ∧ 0 ≤ k ∧ k < 100) then m_hd w s k o z_Z else -1
set_option maxHeartbeats 4000000 in
set_option maxRecDepth 100000 in
theorem l_X5_held {w : zs_V} {s k o r0 : Int} (hS : x_S w) (hW : m_W w) (hs : zn s ∧ ¬ s = -99999999) (hk : zn k) (ho : zn o) : ∀ (n : Nat) (p c : Int), 0 ≤ p → p + n = 200 → c + m_hd w s k o (z_fr p n) = r0 → zs_R mX5_held 0 0 shM (zs_X r0 w) w 26 [some (.inr 0), some (.inl (s)), some (.inl (k)), some (.inl (o)), some (.inl (c)), some (.inl (p))] [] := by
  intro n
  induction n using Nat.strongRecOn with
  | ind n ih =>
    intro p c h0 hn hr
    refine zs_iload dX5_held_26 rfl ?_
    refine zs_sipush (x := 200) dX5_held_28 (by decide) ?_
    refine zs_icmp_ge (tgt := 82) dX5_held_31 (by decide) (by omega) (by omega) (fun h31 => ?_) (fun h31 => ?_)
    · refine zs_iload dX5_held_82 rfl ?_
      refine zs_iret dX5_held_84 rfl ?_
      obtain rfl : n = 0 := by omega
      simp only [z_fr, m_hd] at hr
      exact ⟨by omega, rfl⟩
    · obtain ⟨n', rfl⟩ : ∃ n', n = n' + 1 := ⟨n - 1, by omega⟩
      have hz := m_W_z hS hW (p := p) (by omega) (by omega)
      refine zs_iload dX5_held_34 rfl ?_
      refine zs_aload_n dX5_held_36 rfl ?_
      refine zs_getr (j := 6) dX5_held_37 rfl rfl rfl (by decide) nX5_held_X5 fX5_held_25 ?_
      refine zs_iload dX5_held_40 rfl ?_
      refine zs_iaload dX5_held_42 rfl (by decide) (by omega) (by omega) ?_
      refine zs_iload_n dX5_held_43 rfl ?_
      refine zs_icmp_ne (tgt := 72) dX5_held_44 (by decide) (by omega) (by omega) (fun h44 => ?_) (fun h44 => ?_)
      · refine zs_iconst (x := 0) dX5_held_72 (by decide) ?_
        refine zs_iadd dX5_held_73 ?_
        refine zs_istore (lv' := [some (.inr 0), some (.inl (s)), some (.inl (k)), some (.inl (o)), some (.inl ((c) + (0))), some (.inl (p))]) dX5_held_74 (by decide) rfl ?_
        refine zs_iinc (lv' := [some (.inr 0), some (.inl (s)), some (.inl (k)), some (.inl (o)), some (.inl ((c) + (0))), some (.inl (p + 1))]) dX5_held_76 rfl (by decide) rfl ?_
        refine zs_goto (tgt := 26) dX5_held_79 (by decide) ?_
        simp only [z_fr, m_hd] at hr
        rw [if_neg (fun q => h44 q.1)] at hr
        exact ih n' (by omega) (p + 1) (c + 0) (by omega) (by omega) (by omega)
      · have hP := (hW p (by omega) (by omega)).resolve_left (by omega)
        have hk1 := hP.2.1
        refine zs_aload_n dX5_held_47 rfl ?_
        refine zs_getr (j := 7) dX5_held_48 rfl rfl rfl (by decide) nX5_held_X5 fX5_held_28 ?_
        refine zs_iload dX5_held_51 rfl ?_
        refine zs_iaload dX5_held_53 rfl (by decide) (by omega) (by omega) ?_
        refine zs_iload_n dX5_held_54 rfl ?_
        refine zs_icmp_ne (tgt := 72) dX5_held_55 (by decide) (by omega) (by omega) (fun h55 => ?_) (fun h55 => ?_)
        · refine zs_iconst (x := 0) dX5_held_72 (by decide) ?_
          refine zs_iadd dX5_held_73 ?_
          refine zs_istore (lv' := [some (.inr 0), some (.inl (s)), some (.inl (k)), some (.inl (o)), some (.inl ((c) + (0))), some (.inl (p))]) dX5_held_74 (by decide) rfl ?_
          refine zs_iinc (lv' := [some (.inr 0), some (.inl (s)), some (.inl (k)), some (.inl (o)), some (.inl ((c) + (0))), some (.inl (p + 1))]) dX5_held_76 rfl (by decide) rfl ?_
          refine zs_goto (tgt := 26) dX5_held_79 (by decide) ?_
          simp only [z_fr, m_hd] at hr
          rw [if_neg (fun q => h55 q.2.1)] at hr
          exact ih n' (by omega) (p + 1) (c + 0) (by omega) (by omega) (by omega)
        · refine zs_aload_n dX5_held_58 rfl ?_
          refine zs_iload dX5_held_59 rfl ?_
          refine zs_eV (As := [.inl (p)]) (rest := [.inl (c)]) (q := 0) dX5_held_61 rfl (Nat.le_of_ble_eq_true rfl) rfl rfl YX5_isShown rfl rfl (Nat.le_of_ble_eq_true rfl) gX5_held_X5_isShown (by decide) ⟨Nat.zero_le _, Nat.zero_le _⟩ rfl (t_X5_isShown (w := w) (p) (by omega) hS hW) ?_
          refine zs_iload_n dX5_held_64 rfl ?_
          refine zs_icmp_eq (tgt := 72) dX5_held_65 (by decide) (zb_zn _) (by omega) (fun h65 => ?_) (fun h65 => ?_)
          · refine zs_iconst (x := 0) dX5_held_72 (by decide) ?_
            refine zs_iadd dX5_held_73 ?_
            refine zs_istore (lv' := [some (.inr 0), some (.inl (s)), some (.inl (k)), some (.inl (o)), some (.inl ((c) + (0))), some (.inl (p))]) dX5_held_74 (by decide) rfl ?_
            refine zs_iinc (lv' := [some (.inr 0), some (.inl (s)), some (.inl (k)), some (.inl (o)), some (.inl ((c) + (0))), some (.inl (p + 1))]) dX5_held_76 rfl (by decide) rfl ?_
            refine zs_goto (tgt := 26) dX5_held_79 (by decide) ?_
            simp only [z_fr, m_hd] at hr
            rw [if_neg (fun q => q.2.2 h65)] at hr
            exact ih n' (by omega) (p + 1) (c + 0) (by omega) (by omega) (by omega)
          · refine zs_iconst (x := 1) dX5_held_68 (by decide) ?_
            refine zs_goto (tgt := 73) dX5_held_69 (by decide) ?_
            refine zs_iadd dX5_held_73 ?_
            refine zs_istore (lv' := [some (.inr 0), some (.inl (s)), some (.inl (k)), some (.inl (o)), some (.inl ((c) + (1))), some (.inl (p))]) dX5_held_74 (by decide) rfl ?_
            refine zs_iinc (lv' := [some (.inr 0), some (.inl (s)), some (.inl (k)), some (.inl (o)), some (.inl ((c) + (1))), some (.inl (p + 1))]) dX5_held_76 rfl (by decide) rfl ?_
            refine zs_goto (tgt := 26) dX5_held_79 (by decide) ?_
            simp only [z_fr, m_hd] at hr
            rw [if_pos ⟨h44, h55, h65⟩] at hr
            exact ih n' (by omega) (p + 1) (c + 1) (by omega) (by omega) (by omega)
set_option maxHeartbeats 4000000 in
set_option maxRecDepth 100000 in
theorem t_X5_held {w : zs_V} (hS : x_S w) (hW : m_W w) (s k o : Int) (hs : zn s) (hk : zn k) (ho : zn o) : zs_R mX5_held 0 0 shM (zs_X (m_heldR w s k o) w) w 0 [some (.inr 0), some (.inl (s)), some (.inl (k)), some (.inl (o)), none, none] [] := by
  refine zs_aload_n dX5_held_0 rfl ?_
  refine zs_iload_n dX5_held_1 rfl ?_
  refine zs_eV (As := [.inl (s)]) (rest := []) (q := 0) dX5_held_2 rfl (Nat.le_of_ble_eq_true rfl) rfl rfl YX5_isState rfl rfl (Nat.le_of_ble_eq_true rfl) gX5_held_X5_isState (by decide) ⟨Nat.zero_le _, Nat.zero_le _⟩ rfl (t_X5_isState (w := w) (s) (by omega) ⟨hS.1, hS.2.1⟩) ?_
  refine zs_ifz_eq (tgt := 18) dX5_held_5 (by decide)  (fun h5 => ?_) (fun h5 => ?_)
  · refine zs_iconst (x := -1) dX5_held_18 (by decide) ?_
    refine zs_iret dX5_held_19 rfl ?_
    have hn : ¬ ((0 ≤ s ∧ s < w 15 0) ∧ 0 ≤ k ∧ k < 100) := by omega
    exact ⟨by unfold m_heldR; rw [if_neg hn], rfl⟩
  · refine zs_iload_n dX5_held_8 rfl ?_
    refine zs_iconst (x := 0) dX5_held_9 (by decide) ?_
    refine zs_bipush (x := 99) dX5_held_10 (by decide) ?_
    refine zs_eS (As := [.inl (k), .inl (0), .inl (99)]) (rest := []) dX5_held_12 rfl (Nat.le_of_ble_eq_true rfl) YX5_isIn rfl (Nat.le_of_ble_eq_true rfl) gX5_held_X5_isIn (by decide) ⟨Nat.zero_le _, Nat.zero_le _⟩ rfl (t_X5_isIn (w := w) (k) (0) (99) (by omega) (by omega) (by omega)) ?_
    refine zs_ifz_ne (tgt := 20) dX5_held_15 (by decide)  (fun h15 => ?_) (fun h15 => ?_)
    · refine zs_iconst (x := 0) dX5_held_20 (by decide) ?_
      refine zs_istore (lv' := [some (.inr 0), some (.inl (s)), some (.inl (k)), some (.inl (o)), some (.inl (0)), none]) dX5_held_21 (by decide) rfl ?_
      refine zs_iconst (x := 0) dX5_held_23 (by decide) ?_
      refine zs_istore (lv' := [some (.inr 0), some (.inl (s)), some (.inl (k)), some (.inl (o)), some (.inl (0)), some (.inl (0))]) dX5_held_24 (by decide) rfl ?_
      unfold m_heldR
      rw [if_pos (by omega)]
      exact l_X5_held hS hW (by omega) hk ho 200 0 0 (by omega) (by omega) (Int.zero_add _)
    · refine zs_iconst (x := -1) dX5_held_18 (by decide) ?_
      refine zs_iret dX5_held_19 rfl ?_
      have hn : ¬ ((0 ≤ s ∧ s < w 15 0) ∧ 0 ≤ k ∧ k < 100) := by omega
      exact ⟨by unfold m_heldR; rw [if_neg hn], rfl⟩
set_option maxHeartbeats 4000000 in
set_option maxRecDepth 100000 in
theorem l_X5_overs {w : zs_V} {r0 : Int} (hS : x_S w) (hW : m_W w) : ∀ (n : Nat) (p c : Int), 0 ≤ p → p + n = 200 → c + m_os w (z_fr p n) = r0 → zs_R mX5_overs 0 0 shM (zs_X r0 w) w 4 [some (.inr 0), some (.inl (c)), some (.inl (p))] [] := by
  intro n
  induction n using Nat.strongRecOn with
  | ind n ih =>
    intro p c h0 hn hr
    refine zs_iload_n dX5_overs_4 rfl ?_
    refine zs_sipush (x := 200) dX5_overs_5 (by decide) ?_
    refine zs_icmp_ge (tgt := 33) dX5_overs_8 (by decide) (by omega) (by omega) (fun h8 => ?_) (fun h8 => ?_)
    · refine zs_iload_n dX5_overs_33 rfl ?_
      refine zs_iret dX5_overs_34 rfl ?_
      obtain rfl : n = 0 := by omega
      simp only [z_fr, m_os] at hr
      exact ⟨by omega, rfl⟩
    · obtain ⟨n', rfl⟩ : ∃ n', n = n' + 1 := ⟨n - 1, by omega⟩
      have hz := m_W_z hS hW (p := p) (by omega) (by omega)
      refine zs_iload_n dX5_overs_11 rfl ?_
      refine zs_aload_n dX5_overs_12 rfl ?_
      refine zs_iload_n dX5_overs_13 rfl ?_
      refine zs_eV (As := [.inl (p)]) (rest := [.inl (c)]) (q := 0) dX5_overs_14 rfl (Nat.le_of_ble_eq_true rfl) rfl rfl YX5_isOver rfl rfl (Nat.le_of_ble_eq_true rfl) gX5_overs_X5_isOver (by decide) ⟨Nat.zero_le _, Nat.zero_le _⟩ rfl (t_X5_isOver (w := w) (p) (by omega) hS hW) ?_
      refine zs_ifz_eq (tgt := 24) dX5_overs_17 (by decide)  (fun h17 => ?_) (fun h17 => ?_)
      · refine zs_iconst (x := 0) dX5_overs_24 (by decide) ?_
        refine zs_iadd dX5_overs_25 ?_
        refine zs_istore_n (lv' := [some (.inr 0), some (.inl ((c) + (0))), some (.inl (p))]) dX5_overs_26 (by decide) rfl ?_
        refine zs_iinc (lv' := [some (.inr 0), some (.inl ((c) + (0))), some (.inl (p + 1))]) dX5_overs_27 rfl (by decide) rfl ?_
        refine zs_goto (tgt := 4) dX5_overs_30 (by decide) ?_
        simp only [z_fr, m_os] at hr
        rw [if_neg h17] at hr
        exact ih n' (by omega) (p + 1) (c + 0) (by omega) (by omega) (by omega)
      · refine zs_iconst (x := 1) dX5_overs_20 (by decide) ?_
        refine zs_goto (tgt := 25) dX5_overs_21 (by decide) ?_
        refine zs_iadd dX5_overs_25 ?_
        refine zs_istore_n (lv' := [some (.inr 0), some (.inl ((c) + (1))), some (.inl (p))]) dX5_overs_26 (by decide) rfl ?_
        refine zs_iinc (lv' := [some (.inr 0), some (.inl ((c) + (1))), some (.inl (p + 1))]) dX5_overs_27 rfl (by decide) rfl ?_
        refine zs_goto (tgt := 4) dX5_overs_30 (by decide) ?_
        simp only [z_fr, m_os] at hr
        rw [if_pos h17] at hr
        exact ih n' (by omega) (p + 1) (c + 1) (by omega) (by omega) (by omega)
set_option maxHeartbeats 4000000 in
set_option maxRecDepth 100000 in
theorem t_X5_overs {w : zs_V} (hS : x_S w) (hW : m_W w) : zs_R mX5_overs 0 0 shM (zs_X (m_os w z_Z) w) w 0 [some (.inr 0), none, none] [] := by
  refine zs_iconst (x := 0) dX5_overs_0 (by decide) ?_
  refine zs_istore_n (lv' := [some (.inr 0), some (.inl (0)), none]) dX5_overs_1 (by decide) rfl ?_
  refine zs_iconst (x := 0) dX5_overs_2 (by decide) ?_
  refine zs_istore_n (lv' := [some (.inr 0), some (.inl (0)), some (.inl (0))]) dX5_overs_3 (by decide) rfl ?_
  exact l_X5_overs hS hW 200 0 0 (by omega) (by omega) (Int.zero_add _)

theorem m_now_S {w : zs_V} {c t : Int} (hS : x_S w) (hc : c = 0 ∨ c = 1) (ht : 0 ≤ t ∧ t ≤ 1000000000) : x_S (zs_put w 4 c t) := by
  obtain ⟨g1, g2, g3, g4, g5, g6, g7⟩ := hS
  refine ⟨g1, g2, g3, ?_⟩
  rw [zs_put_e, zs_put_e]
  rcases hc with rfl | rfl <;> simp <;> omega
set_option maxHeartbeats 4000000 in
set_option maxRecDepth 100000 in
theorem t_X5_comes {w : zs_V} (c t : Int) (hS : x_S w) (hW : m_W w) (hc : c = 0 ∨ c = 1) (ht : 0 ≤ t ∧ t ≤ 1000000000) : zs_R mX5_comes 0 0 shM (zs_X (m_os (zs_put w 4 c t) z_Z - m_os w z_Z) (zs_put w 4 c t)) w 0 [some (.inr 0), some (.inl (c)), some (.inl (t)), none] [] := by
  refine zs_aload_n dX5_comes_0 rfl ?_
  refine zs_eV (As := []) (rest := []) (q := 0) dX5_comes_1 rfl (Nat.le_of_ble_eq_true rfl) rfl rfl YX5_overs rfl rfl (Nat.le_of_ble_eq_true rfl) gX5_comes_X5_overs (by decide) ⟨Nat.zero_le _, Nat.zero_le _⟩ rfl (t_X5_overs (w := w) hS hW) ?_
  refine zs_istore_n (lv' := [some (.inr 0), some (.inl (c)), some (.inl (t)), some (.inl (m_os w z_Z))]) dX5_comes_4 (by decide) rfl ?_
  refine zs_aload_n dX5_comes_5 rfl ?_
  refine zs_getr (j := 5) dX5_comes_6 rfl rfl rfl (by decide) nX5_comes_X5 fX5_comes_22 ?_
  refine zs_iload_n dX5_comes_9 rfl ?_
  refine zs_iload_n dX5_comes_10 rfl ?_
  refine zs_iastore dX5_comes_11 rfl (by decide) (by decide) (by omega) (by omega) ?_
  have hS : x_S (zs_put w 4 c t) := m_now_S hS hc ht
  have hW : m_W (zs_put w 4 c t) := hW
  refine zs_aload_n dX5_comes_12 rfl ?_
  refine zs_eV (As := []) (rest := []) (q := 0) dX5_comes_13 rfl (Nat.le_of_ble_eq_true rfl) rfl rfl YX5_overs rfl rfl (Nat.le_of_ble_eq_true rfl) gX5_comes_X5_overs (by decide) ⟨Nat.zero_le _, Nat.zero_le _⟩ rfl (t_X5_overs (w := (zs_put w 4 (c) (t))) hS hW) ?_
  refine zs_iload_n dX5_comes_16 rfl ?_
  refine zs_isub dX5_comes_17 ?_
  refine zs_iret dX5_comes_18 rfl ?_
  exact ⟨rfl, rfl⟩

noncomputable def m_tickR (w : zs_V) (n : Int) : Int := if 1 ≤ n ∧ n ≤ 100000 then (if w 4 0 + n ≤ 1000000000 then m_os (zs_put w 4 0 (w 4 0 + n)) z_Z - m_os w z_Z else -2) else -1
noncomputable def m_wmR (w : zs_V) (t : Int) : Int := if 0 ≤ t ∧ t ≤ 1000000000 then (if w 4 1 ≤ t then m_os (zs_put w 4 1 t) z_Z - m_os w z_Z else -2) else -1
set_option maxHeartbeats 4000000 in
set_option maxRecDepth 100000 in
theorem t_X5_tick {w : zs_V} (hS : x_S w) (hW : m_W w) (n : Int) (hn : zn n) : zs_R mX5_tick 0 0 shM (zs_X (m_tickR w n) (x_tickS w n)) w 0 [some (.inr 0), some (.inl (n))] [] := by
  refine zs_iload_n dX5_tick_0 rfl ?_
  refine zs_iconst (x := 1) dX5_tick_1 (by decide) ?_
  refine zs_ldc (x := 100000) dX5_tick_2 kX5_tick_68 (by decide) ?_
  refine zs_eS (As := [.inl (n), .inl (1), .inl (100000)]) (rest := []) dX5_tick_4 rfl (Nat.le_of_ble_eq_true rfl) YX5_isIn rfl (Nat.le_of_ble_eq_true rfl) gX5_tick_X5_isIn (by decide) ⟨Nat.zero_le _, Nat.zero_le _⟩ rfl (t_X5_isIn (w := w) (n) (1) (100000) (by omega) (by omega) (by omega)) ?_
  refine zs_ifz_ne (tgt := 12) dX5_tick_7 (by decide)  (fun h7 => ?_) (fun h7 => ?_)
  · obtain ⟨-, -, -, g1, g2, g3, g4⟩ := id hS
    refine zs_aload_n dX5_tick_12 rfl ?_
    refine zs_getr (j := 5) dX5_tick_13 rfl rfl rfl (by decide) nX5_tick_X5 fX5_tick_22 ?_
    refine zs_iconst (x := 0) dX5_tick_16 (by decide) ?_
    refine zs_iaload dX5_tick_17 rfl (by decide) (by omega) (by omega) ?_
    refine zs_iload_n dX5_tick_18 rfl ?_
    refine zs_iadd dX5_tick_19 ?_
    refine zs_ldc (x := 1000000000) dX5_tick_20 kX5_tick_131 (by decide) ?_
    refine zs_icmp_le (tgt := 28) dX5_tick_22 (by decide) (by omega) (by omega) (fun h22 => ?_) (fun h22 => ?_)
    · refine zs_aload_n dX5_tick_28 rfl ?_
      refine zs_iconst (x := 0) dX5_tick_29 (by decide) ?_
      refine zs_aload_n dX5_tick_30 rfl ?_
      refine zs_getr (j := 5) dX5_tick_31 rfl rfl rfl (by decide) nX5_tick_X5 fX5_tick_22 ?_
      refine zs_iconst (x := 0) dX5_tick_34 (by decide) ?_
      refine zs_iaload dX5_tick_35 rfl (by decide) (by omega) (by omega) ?_
      refine zs_iload_n dX5_tick_36 rfl ?_
      refine zs_iadd dX5_tick_37 ?_
      refine zs_eV (As := [.inl (0), .inl ((w 4 (0)) + (n))]) (rest := []) (q := 0) dX5_tick_38 rfl (Nat.le_of_ble_eq_true rfl) rfl rfl YX5_comes rfl rfl (Nat.le_of_ble_eq_true rfl) gX5_tick_X5_comes (by decide) ⟨Nat.zero_le _, Nat.zero_le _⟩ rfl (t_X5_comes (w := w) (0) ((w 4 (0)) + (n)) hS hW (by omega) (by omega)) ?_
      refine zs_iret dX5_tick_41 rfl ?_
      exact ⟨by unfold m_tickR; rw [if_pos h7, if_pos h22], by unfold x_tickS; rw [if_pos h7, if_pos h22]⟩
    · refine zs_bipush (x := -2) dX5_tick_25 (by decide) ?_
      refine zs_iret dX5_tick_27 rfl ?_
      exact ⟨by unfold m_tickR; rw [if_pos h7, if_neg h22], by unfold x_tickS; rw [if_pos h7, if_neg h22]⟩
  · refine zs_iconst (x := -1) dX5_tick_10 (by decide) ?_
    refine zs_iret dX5_tick_11 rfl ?_
    exact ⟨by unfold m_tickR; rw [if_neg h7], by unfold x_tickS; rw [if_neg h7]⟩
set_option maxHeartbeats 4000000 in
set_option maxRecDepth 100000 in
theorem t_X5_watermark {w : zs_V} (hS : x_S w) (hW : m_W w) (t : Int) (ht : zn t) : zs_R mX5_watermark 0 0 shM (zs_X (m_wmR w t) (x_wmS w t)) w 0 [some (.inr 0), some (.inl (t))] [] := by
  refine zs_iload_n dX5_watermark_0 rfl ?_
  refine zs_iconst (x := 0) dX5_watermark_1 (by decide) ?_
  refine zs_ldc (x := 1000000000) dX5_watermark_2 kX5_watermark_131 (by decide) ?_
  refine zs_eS (As := [.inl (t), .inl (0), .inl (1000000000)]) (rest := []) dX5_watermark_4 rfl (Nat.le_of_ble_eq_true rfl) YX5_isIn rfl (Nat.le_of_ble_eq_true rfl) gX5_watermark_X5_isIn (by decide) ⟨Nat.zero_le _, Nat.zero_le _⟩ rfl (t_X5_isIn (w := w) (t) (0) (1000000000) (by omega) (by omega) (by omega)) ?_
  refine zs_ifz_ne (tgt := 12) dX5_watermark_7 (by decide)  (fun h7 => ?_) (fun h7 => ?_)
  · obtain ⟨-, -, -, g1, g2, g3, g4⟩ := id hS
    refine zs_iload_n dX5_watermark_12 rfl ?_
    refine zs_aload_n dX5_watermark_13 rfl ?_
    refine zs_getr (j := 5) dX5_watermark_14 rfl rfl rfl (by decide) nX5_watermark_X5 fX5_watermark_22 ?_
    refine zs_iconst (x := 1) dX5_watermark_17 (by decide) ?_
    refine zs_iaload dX5_watermark_18 rfl (by decide) (by omega) (by omega) ?_
    refine zs_icmp_ge (tgt := 25) dX5_watermark_19 (by decide) (by omega) (by omega) (fun h19 => ?_) (fun h19 => ?_)
    · refine zs_aload_n dX5_watermark_25 rfl ?_
      refine zs_iconst (x := 1) dX5_watermark_26 (by decide) ?_
      refine zs_iload_n dX5_watermark_27 rfl ?_
      refine zs_eV (As := [.inl (1), .inl (t)]) (rest := []) (q := 0) dX5_watermark_28 rfl (Nat.le_of_ble_eq_true rfl) rfl rfl YX5_comes rfl rfl (Nat.le_of_ble_eq_true rfl) gX5_watermark_X5_comes (by decide) ⟨Nat.zero_le _, Nat.zero_le _⟩ rfl (t_X5_comes (w := w) (1) (t) hS hW (by omega) (by omega)) ?_
      refine zs_iret dX5_watermark_31 rfl ?_
      exact ⟨by unfold m_wmR; rw [if_pos h7, if_pos h19], by unfold x_wmS; rw [if_pos h7, if_pos h19]⟩
    · refine zs_bipush (x := -2) dX5_watermark_22 (by decide) ?_
      refine zs_iret dX5_watermark_24 rfl ?_
      exact ⟨by unfold m_wmR; rw [if_pos h7, if_neg h19], by unfold x_wmS; rw [if_pos h7, if_neg h19]⟩
  · refine zs_iconst (x := -1) dX5_watermark_10 (by decide) ?_
    refine zs_iret dX5_watermark_11 rfl ?_
    exact ⟨by unfold m_wmR; rw [if_neg h7], by unfold x_wmS; rw [if_neg h7]⟩
set_option maxHeartbeats 4000000 in
set_option maxRecDepth 100000 in
theorem t_X5_state {w : zs_V} (f c s y : Int) (hf : zn f) (hc : zn c) (hs : zn s) (hy : zn y) (hm : 0 ≤ w 15 0 ∧ w 15 0 ≤ 6) : zs_R mX5_state 0 0 shM (zs_X (x_stR w f c s y) (x_stS w f c s y)) w 0 [some (.inr 0), some (.inl (f)), some (.inl (c)), some (.inl (s)), some (.inl (y))] [] := by
  refine zs_iload_n dX5_state_0 rfl ?_
  refine zs_iconst (x := 0) dX5_state_1 (by decide) ?_
  refine zs_iconst (x := 1) dX5_state_2 (by decide) ?_
  refine zs_eS (As := [.inl (f), .inl (0), .inl (1)]) (rest := []) dX5_state_3 rfl (Nat.le_of_ble_eq_true rfl) YX5_isIn rfl (Nat.le_of_ble_eq_true rfl) gX5_state_X5_isIn (by decide) ⟨Nat.zero_le _, Nat.zero_le _⟩ rfl (t_X5_isIn (w := w) (f) (0) (1) (by omega) (by omega) (by omega)) ?_
  refine zs_ifz_eq (tgt := 38) dX5_state_6 (by decide)  (fun h6 => ?_) (fun h6 => ?_)
  · refine zs_iconst (x := -1) dX5_state_38 (by decide) ?_
    refine zs_iret dX5_state_39 rfl ?_
    have hn : ¬ ((f = 0 ∨ f = 1) ∧ (c = 0 ∨ c = 1) ∧ (y = 0 ∨ y = 1) ∧ 1 ≤ s ∧ s ≤ 100000) := by omega
    exact ⟨by unfold x_stR; rw [if_neg hn], by unfold x_stS; rw [if_neg hn]⟩
  · refine zs_iload_n dX5_state_9 rfl ?_
    refine zs_iconst (x := 0) dX5_state_10 (by decide) ?_
    refine zs_iconst (x := 1) dX5_state_11 (by decide) ?_
    refine zs_eS (As := [.inl (c), .inl (0), .inl (1)]) (rest := []) dX5_state_12 rfl (Nat.le_of_ble_eq_true rfl) YX5_isIn rfl (Nat.le_of_ble_eq_true rfl) gX5_state_X5_isIn (by decide) ⟨Nat.zero_le _, Nat.zero_le _⟩ rfl (t_X5_isIn (w := w) (c) (0) (1) (by omega) (by omega) (by omega)) ?_
    refine zs_ifz_eq (tgt := 38) dX5_state_15 (by decide)  (fun h15 => ?_) (fun h15 => ?_)
    · refine zs_iconst (x := -1) dX5_state_38 (by decide) ?_
      refine zs_iret dX5_state_39 rfl ?_
      have hn : ¬ ((f = 0 ∨ f = 1) ∧ (c = 0 ∨ c = 1) ∧ (y = 0 ∨ y = 1) ∧ 1 ≤ s ∧ s ≤ 100000) := by omega
      exact ⟨by unfold x_stR; rw [if_neg hn], by unfold x_stS; rw [if_neg hn]⟩
    · refine zs_iload_n dX5_state_18 rfl ?_
      refine zs_iconst (x := 1) dX5_state_19 (by decide) ?_
      refine zs_ldc (x := 100000) dX5_state_20 kX5_state_68 (by decide) ?_
      refine zs_eS (As := [.inl (s), .inl (1), .inl (100000)]) (rest := []) dX5_state_22 rfl (Nat.le_of_ble_eq_true rfl) YX5_isIn rfl (Nat.le_of_ble_eq_true rfl) gX5_state_X5_isIn (by decide) ⟨Nat.zero_le _, Nat.zero_le _⟩ rfl (t_X5_isIn (w := w) (s) (1) (100000) (by omega) (by omega) (by omega)) ?_
      refine zs_ifz_eq (tgt := 38) dX5_state_25 (by decide)  (fun h25 => ?_) (fun h25 => ?_)
      · refine zs_iconst (x := -1) dX5_state_38 (by decide) ?_
        refine zs_iret dX5_state_39 rfl ?_
        have hn : ¬ ((f = 0 ∨ f = 1) ∧ (c = 0 ∨ c = 1) ∧ (y = 0 ∨ y = 1) ∧ 1 ≤ s ∧ s ≤ 100000) := by omega
        exact ⟨by unfold x_stR; rw [if_neg hn], by unfold x_stS; rw [if_neg hn]⟩
      · refine zs_iload dX5_state_28 rfl ?_
        refine zs_iconst (x := 0) dX5_state_30 (by decide) ?_
        refine zs_iconst (x := 1) dX5_state_31 (by decide) ?_
        refine zs_eS (As := [.inl (y), .inl (0), .inl (1)]) (rest := []) dX5_state_32 rfl (Nat.le_of_ble_eq_true rfl) YX5_isIn rfl (Nat.le_of_ble_eq_true rfl) gX5_state_X5_isIn (by decide) ⟨Nat.zero_le _, Nat.zero_le _⟩ rfl (t_X5_isIn (w := w) (y) (0) (1) (by omega) (by omega) (by omega)) ?_
        refine zs_ifz_ne (tgt := 40) dX5_state_35 (by decide)  (fun h35 => ?_) (fun h35 => ?_)
        · refine zs_aload_n dX5_state_40 rfl ?_
          refine zs_geti (j := 0) dX5_state_41 rfl rfl rfl (by decide) nX5_state_X5 fX5_state_56 ?_
          refine zs_bipush (x := 6) dX5_state_44 (by decide) ?_
          refine zs_icmp_ne (tgt := 52) dX5_state_46 (by decide) (by omega) (by omega) (fun h46 => ?_) (fun h46 => ?_)
          · have hm6 : w 15 0 < 6 := by omega
            refine zs_aload_n dX5_state_52 rfl ?_
            refine zs_getr (j := 1) dX5_state_53 rfl rfl rfl (by decide) nX5_state_X5 fX5_state_7 ?_
            refine zs_aload_n dX5_state_56 rfl ?_
            refine zs_geti (j := 0) dX5_state_57 rfl rfl rfl (by decide) nX5_state_X5 fX5_state_56 ?_
            refine zs_iload_n dX5_state_60 rfl ?_
            refine zs_iastore dX5_state_61 rfl (by decide) (by decide) (by omega) (by omega) ?_
            refine zs_aload_n dX5_state_62 rfl ?_
            refine zs_getr (j := 2) dX5_state_63 rfl rfl rfl (by decide) nX5_state_X5 fX5_state_13 ?_
            have e66 : (zs_put w 0 (w 15 0) (f)) 15 0 = w 15 0 := rfl
            refine zs_aload_n dX5_state_66 rfl ?_
            refine zs_geti (j := 0) dX5_state_67 rfl rfl rfl (by decide) nX5_state_X5 fX5_state_56 ?_
            refine zs_iload_n dX5_state_70 rfl ?_
            refine zs_iastore dX5_state_71 rfl (by decide) (by decide) (by omega) (by omega) ?_
            refine zs_aload_n dX5_state_72 rfl ?_
            refine zs_getr (j := 3) dX5_state_73 rfl rfl rfl (by decide) nX5_state_X5 fX5_state_16 ?_
            have e76 : (zs_put (zs_put w 0 (w 15 0) (f)) 1 ((zs_put w 0 (w 15 0) (f)) 15 0) (c)) 15 0 = w 15 0 := rfl
            refine zs_aload_n dX5_state_76 rfl ?_
            refine zs_geti (j := 0) dX5_state_77 rfl rfl rfl (by decide) nX5_state_X5 fX5_state_56 ?_
            refine zs_iload_n dX5_state_80 rfl ?_
            refine zs_iastore dX5_state_81 rfl (by decide) (by decide) (by omega) (by omega) ?_
            refine zs_aload_n dX5_state_82 rfl ?_
            refine zs_getr (j := 4) dX5_state_83 rfl rfl rfl (by decide) nX5_state_X5 fX5_state_19 ?_
            have e86 : (zs_put (zs_put (zs_put w 0 (w 15 0) (f)) 1 ((zs_put w 0 (w 15 0) (f)) 15 0) (c)) 2 ((zs_put (zs_put w 0 (w 15 0) (f)) 1 ((zs_put w 0 (w 15 0) (f)) 15 0) (c)) 15 0) (s)) 15 0 = w 15 0 := rfl
            refine zs_aload_n dX5_state_86 rfl ?_
            refine zs_geti (j := 0) dX5_state_87 rfl rfl rfl (by decide) nX5_state_X5 fX5_state_56 ?_
            refine zs_iload dX5_state_90 rfl ?_
            refine zs_iastore dX5_state_92 rfl (by decide) (by decide) (by omega) (by omega) ?_
            refine zs_aload_n dX5_state_93 rfl ?_
            refine zs_dup dX5_state_94 ?_
            refine zs_geti (j := 0) dX5_state_95 rfl rfl rfl (by decide) nX5_state_X5 fX5_state_56 ?_
            refine zs_iconst (x := 1) dX5_state_98 (by decide) ?_
            refine zs_iadd dX5_state_99 ?_
            refine zs_puti (j := 0) dX5_state_100 rfl rfl (by decide) rfl (by decide) nX5_state_X5 tyX5 tyX5_ok nmX5 rfl (by decide +kernel) fX5_state_56 ?_
            refine zs_aload_n dX5_state_103 rfl ?_
            refine zs_geti (j := 0) dX5_state_104 rfl rfl rfl (by decide) nX5_state_X5 fX5_state_56 ?_
            refine zs_iconst (x := 1) dX5_state_107 (by decide) ?_
            refine zs_isub dX5_state_108 ?_
            refine zs_iret dX5_state_109 rfl ?_
            have hn : ((f = 0 ∨ f = 1) ∧ (c = 0 ∨ c = 1) ∧ (y = 0 ∨ y = 1) ∧ 1 ≤ s ∧ s ≤ 100000) := by omega
            have h6 : w 15 0 < 6 := by omega
            refine ⟨?_, by unfold x_stS; rw [if_pos hn, if_pos h6]; rfl⟩
            unfold x_stR
            rw [if_pos hn, if_pos h6]
            show w 15 0 + 1 - 1 = w 15 0
            omega
          · refine zs_bipush (x := -3) dX5_state_49 (by decide) ?_
            refine zs_iret dX5_state_51 rfl ?_
            have hn : ((f = 0 ∨ f = 1) ∧ (c = 0 ∨ c = 1) ∧ (y = 0 ∨ y = 1) ∧ 1 ≤ s ∧ s ≤ 100000) := by omega
            have h6 : ¬ w 15 0 < 6 := by omega
            exact ⟨by unfold x_stR; rw [if_pos hn, if_neg h6], by unfold x_stS; rw [if_pos hn, if_neg h6]⟩
        · refine zs_iconst (x := -1) dX5_state_38 (by decide) ?_
          refine zs_iret dX5_state_39 rfl ?_
          have hn : ¬ ((f = 0 ∨ f = 1) ∧ (c = 0 ∨ c = 1) ∧ (y = 0 ∨ y = 1) ∧ 1 ≤ s ∧ s ≤ 100000) := by omega
          exact ⟨by unfold x_stR; rw [if_neg hn], by unfold x_stS; rw [if_neg hn]⟩

noncomputable def m_rowR (w : zs_V) (i c : Int) : Int := if (0 ≤ i ∧ i < w 18 0) ∧ 0 ≤ c ∧ c < 6 then w 12 (6 * i + c) else -99999999
set_option maxHeartbeats 4000000 in
set_option maxRecDepth 100000 in
theorem t_X5_row {w : zs_V} (i c : Int) (hi : zn i) (hc : zn c) (hRM : 0 ≤ w 18 0 ∧ w 18 0 ≤ 150) : zs_R mX5_row 0 0 shM (zs_X (m_rowR w i c) w) w 0 [some (.inr 0), some (.inl (i)), some (.inl (c))] [] := by
  refine zs_iload_n dX5_row_0 rfl ?_
  refine zs_iconst (x := 0) dX5_row_1 (by decide) ?_
  refine zs_aload_n dX5_row_2 rfl ?_
  refine zs_geti (j := 16) dX5_row_3 rfl rfl rfl (by decide) nX5_row_X5 fX5_row_83 ?_
  refine zs_iconst (x := 1) dX5_row_6 (by decide) ?_
  refine zs_isub dX5_row_7 ?_
  refine zs_eS (As := [.inl (i), .inl (0), .inl ((w 18 0) - (1))]) (rest := []) dX5_row_8 rfl (Nat.le_of_ble_eq_true rfl) YX5_isIn rfl (Nat.le_of_ble_eq_true rfl) gX5_row_X5_isIn (by decide) ⟨Nat.zero_le _, Nat.zero_le _⟩ rfl (t_X5_isIn (w := w) (i) (0) ((w 18 0) - (1)) (by omega) (by omega) (by omega)) ?_
  refine zs_ifz_eq (tgt := 37) dX5_row_11 (by decide)  (fun h11 => ?_) (fun h11 => ?_)
  · refine zs_ldc (x := -99999999) dX5_row_37 kX5_row_55 (by decide) ?_
    refine zs_iret dX5_row_39 rfl ?_
    exact ⟨by unfold m_rowR; rw [if_neg (by omega)], rfl⟩
  · refine zs_iload_n dX5_row_14 rfl ?_
    refine zs_iconst (x := 0) dX5_row_15 (by decide) ?_
    refine zs_iconst (x := 5) dX5_row_16 (by decide) ?_
    refine zs_eS (As := [.inl (c), .inl (0), .inl (5)]) (rest := []) dX5_row_17 rfl (Nat.le_of_ble_eq_true rfl) YX5_isIn rfl (Nat.le_of_ble_eq_true rfl) gX5_row_X5_isIn (by decide) ⟨Nat.zero_le _, Nat.zero_le _⟩ rfl (t_X5_isIn (w := w) (c) (0) (5) (by omega) (by omega) (by omega)) ?_
    refine zs_ifz_eq (tgt := 37) dX5_row_20 (by decide)  (fun h20 => ?_) (fun h20 => ?_)
    · refine zs_ldc (x := -99999999) dX5_row_37 kX5_row_55 (by decide) ?_
      refine zs_iret dX5_row_39 rfl ?_
      exact ⟨by unfold m_rowR; rw [if_neg (by omega)], rfl⟩
    · refine zs_aload_n dX5_row_23 rfl ?_
      refine zs_getr (j := 15) dX5_row_24 rfl rfl rfl (by decide) nX5_row_X5 fX5_row_46 ?_
      refine zs_bipush (x := 6) dX5_row_27 (by decide) ?_
      refine zs_iload_n dX5_row_29 rfl ?_
      refine zs_imul dX5_row_30 ?_
      refine zs_iload_n dX5_row_31 rfl ?_
      refine zs_iadd dX5_row_32 ?_
      refine zs_iaload dX5_row_33 rfl (by decide) (by omega) (by omega) ?_
      refine zs_goto (tgt := 39) dX5_row_34 (by decide) ?_
      refine zs_iret dX5_row_39 rfl ?_
      exact ⟨by unfold m_rowR; rw [if_pos (by omega)], rfl⟩
set_option maxHeartbeats 4000000 in
set_option maxRecDepth 100000 in
theorem l_X5_next {w : zs_V} {s r0 : Int} (hS : x_S w) (hW : m_W w) (hs : zn s ∧ ¬ s = -99999999) : ∀ (n : Nat) (p l : Int), 0 ≤ p → p + n = 200 → zn l → m_nx w s (z_fr p n) l = r0 → zs_R mX5_next 0 0 shM (zs_X r0 w) w 15 [some (.inr 0), some (.inl (s)), some (.inl (l)), some (.inl (p))] [] := by
  intro n
  induction n using Nat.strongRecOn with
  | ind n ih =>
    intro p l h0 hn hl hr
    refine zs_iload_n dX5_next_15 rfl ?_
    refine zs_sipush (x := 200) dX5_next_16 (by decide) ?_
    refine zs_icmp_ge (tgt := 73) dX5_next_19 (by decide) (by omega) (by omega) (fun h19 => ?_) (fun h19 => ?_)
    · refine zs_iload_n dX5_next_73 rfl ?_
      refine zs_iret dX5_next_74 rfl ?_
      obtain rfl : n = 0 := by omega
      exact ⟨hr, rfl⟩
    · obtain ⟨n', rfl⟩ : ∃ n', n = n' + 1 := ⟨n - 1, by omega⟩
      have hz := m_W_z hS hW (p := p) (by omega) (by omega)
      refine zs_aload_n dX5_next_22 rfl ?_
      refine zs_getr (j := 6) dX5_next_23 rfl rfl rfl (by decide) nX5_next_X5 fX5_next_25 ?_
      refine zs_iload_n dX5_next_26 rfl ?_
      refine zs_iaload dX5_next_27 rfl (by decide) (by omega) (by omega) ?_
      refine zs_iload_n dX5_next_28 rfl ?_
      refine zs_icmp_ne (tgt := 67) dX5_next_29 (by decide) (by omega) (by omega) (fun h29 => ?_) (fun h29 => ?_)
      · refine zs_iinc (lv' := [some (.inr 0), some (.inl (s)), some (.inl (l)), some (.inl (p + 1))]) dX5_next_67 rfl (by decide) rfl ?_
        refine zs_goto (tgt := 15) dX5_next_70 (by decide) ?_
        simp only [z_fr, m_nx] at hr
        rw [if_neg (fun q => h29 q.1)] at hr
        exact ih n' (by omega) (p + 1) (l) (by omega) (by omega) (by omega) hr
      · have hP := (hW p (by omega) (by omega)).resolve_left (by omega)
        have he1 := hP.2.2.2.1
        refine zs_aload_n dX5_next_32 rfl ?_
        refine zs_iload_n dX5_next_33 rfl ?_
        refine zs_eV (As := [.inl (p)]) (rest := []) (q := 0) dX5_next_34 rfl (Nat.le_of_ble_eq_true rfl) rfl rfl YX5_isShown rfl rfl (Nat.le_of_ble_eq_true rfl) gX5_next_X5_isShown (by decide) ⟨Nat.zero_le _, Nat.zero_le _⟩ rfl (t_X5_isShown (w := w) (p) (by omega) hS hW) ?_
        refine zs_ifz_eq (tgt := 67) dX5_next_37 (by decide)  (fun h37 => ?_) (fun h37 => ?_)
        · refine zs_iinc (lv' := [some (.inr 0), some (.inl (s)), some (.inl (l)), some (.inl (p + 1))]) dX5_next_67 rfl (by decide) rfl ?_
          refine zs_goto (tgt := 15) dX5_next_70 (by decide) ?_
          simp only [z_fr, m_nx] at hr
          rw [if_neg (fun q => h37 q.2.1)] at hr
          exact ih n' (by omega) (p + 1) (l) (by omega) (by omega) (by omega) hr
        · refine zs_iload_n dX5_next_40 rfl ?_
          refine zs_ldc (x := -99999999) dX5_next_41 kX5_next_55 (by decide) ?_
          refine zs_icmp_eq (tgt := 56) dX5_next_43 (by decide) (by omega) (by omega) (fun h43 => ?_) (fun h43 => ?_)
          · refine zs_aload_n dX5_next_56 rfl ?_
            refine zs_getr (j := 11) dX5_next_57 rfl rfl rfl (by decide) nX5_next_X5 fX5_next_40 ?_
            refine zs_iload_n dX5_next_60 rfl ?_
            refine zs_iaload dX5_next_61 rfl (by decide) (by omega) (by omega) ?_
            refine zs_goto (tgt := 66) dX5_next_62 (by decide) ?_
            refine zs_istore_n (lv' := [some (.inr 0), some (.inl (s)), some (.inl (w 10 (p))), some (.inl (p))]) dX5_next_66 (by decide) rfl ?_
            refine zs_iinc (lv' := [some (.inr 0), some (.inl (s)), some (.inl (w 10 (p))), some (.inl (p + 1))]) dX5_next_67 rfl (by decide) rfl ?_
            refine zs_goto (tgt := 15) dX5_next_70 (by decide) ?_
            simp only [z_fr, m_nx] at hr
            rw [if_pos ⟨h29, h37, Or.inl h43⟩] at hr
            exact ih n' (by omega) (p + 1) (w 10 p) (by omega) (by omega) (by omega) hr
          · refine zs_aload_n dX5_next_46 rfl ?_
            refine zs_getr (j := 11) dX5_next_47 rfl rfl rfl (by decide) nX5_next_X5 fX5_next_40 ?_
            refine zs_iload_n dX5_next_50 rfl ?_
            refine zs_iaload dX5_next_51 rfl (by decide) (by omega) (by omega) ?_
            refine zs_iload_n dX5_next_52 rfl ?_
            refine zs_icmp_ge (tgt := 65) dX5_next_53 (by decide) (by omega) (by omega) (fun h53 => ?_) (fun h53 => ?_)
            · refine zs_iload_n dX5_next_65 rfl ?_
              refine zs_istore_n (lv' := [some (.inr 0), some (.inl (s)), some (.inl (l)), some (.inl (p))]) dX5_next_66 (by decide) rfl ?_
              refine zs_iinc (lv' := [some (.inr 0), some (.inl (s)), some (.inl (l)), some (.inl (p + 1))]) dX5_next_67 rfl (by decide) rfl ?_
              refine zs_goto (tgt := 15) dX5_next_70 (by decide) ?_
              simp only [z_fr, m_nx] at hr
              rw [if_neg (fun q => q.2.2.elim h43 (fun z => by omega))] at hr
              exact ih n' (by omega) (p + 1) (l) (by omega) (by omega) (by omega) hr
            · refine zs_aload_n dX5_next_56 rfl ?_
              refine zs_getr (j := 11) dX5_next_57 rfl rfl rfl (by decide) nX5_next_X5 fX5_next_40 ?_
              refine zs_iload_n dX5_next_60 rfl ?_
              refine zs_iaload dX5_next_61 rfl (by decide) (by omega) (by omega) ?_
              refine zs_goto (tgt := 66) dX5_next_62 (by decide) ?_
              refine zs_istore_n (lv' := [some (.inr 0), some (.inl (s)), some (.inl (w 10 (p))), some (.inl (p))]) dX5_next_66 (by decide) rfl ?_
              refine zs_iinc (lv' := [some (.inr 0), some (.inl (s)), some (.inl (w 10 (p))), some (.inl (p + 1))]) dX5_next_67 rfl (by decide) rfl ?_
              refine zs_goto (tgt := 15) dX5_next_70 (by decide) ?_
              simp only [z_fr, m_nx] at hr
              rw [if_pos ⟨h29, h37, Or.inr (by omega)⟩] at hr
              exact ih n' (by omega) (p + 1) (w 10 p) (by omega) (by omega) (by omega) hr

noncomputable def m_nextR (w : zs_V) (s : Int) : Int := if 0 ≤ s ∧ s < w 15 0 then m_nx w s z_Z (-99999999) else -1
set_option maxHeartbeats 4000000 in
set_option maxRecDepth 100000 in
theorem t_X5_next {w : zs_V} (hS : x_S w) (hW : m_W w) (s : Int) (hs : zn s) : zs_R mX5_next 0 0 shM (zs_X (m_nextR w s) w) w 0 [some (.inr 0), some (.inl (s)), none, none] [] := by
  refine zs_aload_n dX5_next_0 rfl ?_
  refine zs_iload_n dX5_next_1 rfl ?_
  refine zs_eV (As := [.inl (s)]) (rest := []) (q := 0) dX5_next_2 rfl (Nat.le_of_ble_eq_true rfl) rfl rfl YX5_isState rfl rfl (Nat.le_of_ble_eq_true rfl) gX5_next_X5_isState (by decide) ⟨Nat.zero_le _, Nat.zero_le _⟩ rfl (t_X5_isState (w := w) (s) (by omega) ⟨hS.1, hS.2.1⟩) ?_
  refine zs_ifz_ne (tgt := 10) dX5_next_5 (by decide)  (fun h5 => ?_) (fun h5 => ?_)
  · refine zs_ldc (x := -99999999) dX5_next_10 kX5_next_55 (by decide) ?_
    refine zs_istore_n (lv' := [some (.inr 0), some (.inl (s)), some (.inl (-99999999)), none]) dX5_next_12 (by decide) rfl ?_
    refine zs_iconst (x := 0) dX5_next_13 (by decide) ?_
    refine zs_istore_n (lv' := [some (.inr 0), some (.inl (s)), some (.inl (-99999999)), some (.inl (0))]) dX5_next_14 (by decide) rfl ?_
    unfold m_nextR
    rw [if_pos h5]
    exact l_X5_next hS hW (by omega) 200 0 (-99999999) (by omega) (by omega) (by omega) rfl
  · refine zs_iconst (x := -1) dX5_next_8 (by decide) ?_
    refine zs_iret dX5_next_9 rfl ?_
    exact ⟨by unfold m_nextR; rw [if_neg h5], rfl⟩

noncomputable def m_countA (w : zs_V) (c a b : Int) : Int := if c = 0 then w 15 0 else if c = 1 then a else if c = 2 then b else if c = 3 then w 18 0 else if c = 4 then w 19 0 else if c = 5 then w 4 0 else if c = 6 then w 4 1 else if c = 7 then w 17 0 else -1
set_option maxHeartbeats 4000000 in
set_option maxRecDepth 100000 in
theorem l_X5_countB {w : zs_V} (c a b : Int) (hc : zn c) (x4 : Option zs_A) : zs_R mX5_count 0 0 shM (zs_X (m_countA w c a b) w) w 58 [some (.inr 0), some (.inl (c)), some (.inl (a)), some (.inl (b)), x4] [] := by
  refine zs_iload_n dX5_count_58 rfl ?_
  by_cases h59 : c < 0 ∨ 7 < c
  · refine zs_swOut (tgt := 142) dX5_count_59 (by omega) h59 (by decide) ?_
    refine zs_iconst (x := -1) dX5_count_142 (by decide) ?_
    refine zs_iret dX5_count_143 rfl ?_
    exact ⟨by unfold m_countA; simp only [show ¬ c = 0 by omega, show ¬ c = 1 by omega, show ¬ c = 2 by omega, show ¬ c = 3 by omega, show ¬ c = 4 by omega, show ¬ c = 5 by omega, show ¬ c = 6 by omega, show ¬ c = 7 by omega, if_false], rfl⟩
  · rcases (show c = 0 ∨ c = 1 ∨ c = 2 ∨ c = 3 ∨ c = 4 ∨ c = 5 ∨ c = 6 ∨ c = 7 by omega) with h59 | h59 | h59 | h59 | h59 | h59 | h59 | h59
    · refine zs_swIn (tgt := 104) dX5_count_59 (by omega) (by omega) (by omega) (by rw [h59]; rfl) (by decide) ?_
      refine zs_aload_n dX5_count_104 rfl ?_
      refine zs_geti (j := 0) dX5_count_105 rfl rfl rfl (by decide) nX5_count_X5 fX5_count_56 ?_
      refine zs_iret dX5_count_108 rfl ?_
      exact ⟨by unfold m_countA; simp [h59], rfl⟩
    · refine zs_swIn (tgt := 109) dX5_count_59 (by omega) (by omega) (by omega) (by rw [h59]; rfl) (by decide) ?_
      refine zs_iload_n dX5_count_109 rfl ?_
      refine zs_iret dX5_count_110 rfl ?_
      exact ⟨by unfold m_countA; simp [h59], rfl⟩
    · refine zs_swIn (tgt := 111) dX5_count_59 (by omega) (by omega) (by omega) (by rw [h59]; rfl) (by decide) ?_
      refine zs_iload_n dX5_count_111 rfl ?_
      refine zs_iret dX5_count_112 rfl ?_
      exact ⟨by unfold m_countA; simp [h59], rfl⟩
    · refine zs_swIn (tgt := 113) dX5_count_59 (by omega) (by omega) (by omega) (by rw [h59]; rfl) (by decide) ?_
      refine zs_aload_n dX5_count_113 rfl ?_
      refine zs_geti (j := 16) dX5_count_114 rfl rfl rfl (by decide) nX5_count_X5 fX5_count_83 ?_
      refine zs_iret dX5_count_117 rfl ?_
      exact ⟨by unfold m_countA; simp [h59], rfl⟩
    · refine zs_swIn (tgt := 118) dX5_count_59 (by omega) (by omega) (by omega) (by rw [h59]; rfl) (by decide) ?_
      refine zs_aload_n dX5_count_118 rfl ?_
      refine zs_geti (j := 17) dX5_count_119 rfl rfl rfl (by decide) nX5_count_X5 fX5_count_86 ?_
      refine zs_iret dX5_count_122 rfl ?_
      exact ⟨by unfold m_countA; simp [h59], rfl⟩
    · refine zs_swIn (tgt := 123) dX5_count_59 (by omega) (by omega) (by omega) (by rw [h59]; rfl) (by decide) ?_
      refine zs_aload_n dX5_count_123 rfl ?_
      refine zs_getr (j := 5) dX5_count_124 rfl rfl rfl (by decide) nX5_count_X5 fX5_count_22 ?_
      refine zs_iconst (x := 0) dX5_count_127 (by decide) ?_
      refine zs_iaload dX5_count_128 rfl (by decide) (by omega) (by omega) ?_
      refine zs_iret dX5_count_129 rfl ?_
      exact ⟨by unfold m_countA; simp [h59], rfl⟩
    · refine zs_swIn (tgt := 130) dX5_count_59 (by omega) (by omega) (by omega) (by rw [h59]; rfl) (by decide) ?_
      refine zs_aload_n dX5_count_130 rfl ?_
      refine zs_getr (j := 5) dX5_count_131 rfl rfl rfl (by decide) nX5_count_X5 fX5_count_22 ?_
      refine zs_iconst (x := 1) dX5_count_134 (by decide) ?_
      refine zs_iaload dX5_count_135 rfl (by decide) (by omega) (by omega) ?_
      refine zs_iret dX5_count_136 rfl ?_
      exact ⟨by unfold m_countA; simp [h59], rfl⟩
    · refine zs_swIn (tgt := 137) dX5_count_59 (by omega) (by omega) (by omega) (by rw [h59]; rfl) (by decide) ?_
      refine zs_aload_n dX5_count_137 rfl ?_
      refine zs_geti (j := 14) dX5_count_138 rfl rfl rfl (by decide) nX5_count_X5 fX5_count_136 ?_
      refine zs_iret dX5_count_141 rfl ?_
      exact ⟨by unfold m_countA; simp [h59], rfl⟩
set_option maxHeartbeats 4000000 in
set_option maxRecDepth 100000 in
theorem l_X5_count {w : zs_V} (hS : x_S w) (hW : m_W w) (c ra rb : Int) (hc : zn c) : ∀ (n : Nat) (p a b : Int), 0 ≤ p → p + n = 200 → a + m_ca w (z_fr p n) = ra → b + m_cs w (z_fr p n) = rb → zs_R mX5_count 0 0 shM (zs_X (m_countA w c ra rb) w) w 7 [some (.inr 0), some (.inl (c)), some (.inl (a)), some (.inl (b)), some (.inl (p))] [] := by
  intro n
  induction n using Nat.strongRecOn with
  | ind n ih =>
    intro p a b h0 hn hr hq
    refine zs_iload dX5_count_7 rfl ?_
    refine zs_sipush (x := 200) dX5_count_9 (by decide) ?_
    refine zs_icmp_ge (tgt := 58) dX5_count_12 (by decide) (by omega) (by omega) (fun h12 => ?_) (fun h12 => ?_)
    · obtain rfl : n = 0 := by omega
      simp only [z_fr, m_ca] at hr
      simp only [z_fr, m_cs] at hq
      obtain rfl : a = ra := by omega
      obtain rfl : b = rb := by omega
      exact l_X5_countB c a b hc _
    · obtain ⟨n', rfl⟩ : ∃ n', n = n' + 1 := ⟨n - 1, by omega⟩
      have hz := m_W_z hS hW (p := p) (by omega) (by omega)
      refine zs_iload_n dX5_count_15 rfl ?_
      refine zs_aload_n dX5_count_16 rfl ?_
      refine zs_getr (j := 6) dX5_count_17 rfl rfl rfl (by decide) nX5_count_X5 fX5_count_25 ?_
      refine zs_iload dX5_count_20 rfl ?_
      refine zs_iaload dX5_count_22 rfl (by decide) (by omega) (by omega) ?_
      refine zs_ldc (x := -99999999) dX5_count_23 kX5_count_55 (by decide) ?_
      refine zs_icmp_eq (tgt := 32) dX5_count_25 (by decide) (by omega) (by omega) (fun h25 => ?_) (fun h25 => ?_)
      · refine zs_iconst (x := 0) dX5_count_32 (by decide) ?_
        refine zs_iadd dX5_count_33 ?_
        refine zs_istore_n (lv' := [some (.inr 0), some (.inl (c)), some (.inl ((a) + (0))), some (.inl (b)), some (.inl (p))]) dX5_count_34 (by decide) rfl ?_
        refine zs_iload_n dX5_count_35 rfl ?_
        refine zs_aload_n dX5_count_36 rfl ?_
        refine zs_iload dX5_count_37 rfl ?_
        refine zs_eV (As := [.inl (p)]) (rest := [.inl (b)]) (q := 0) dX5_count_39 rfl (Nat.le_of_ble_eq_true rfl) rfl rfl YX5_isShown rfl rfl (Nat.le_of_ble_eq_true rfl) gX5_count_X5_isShown (by decide) ⟨Nat.zero_le _, Nat.zero_le _⟩ rfl (t_X5_isShown (w := w) (p) (by omega) hS hW) ?_
        refine zs_ifz_eq (tgt := 49) dX5_count_42 (by decide)  (fun h42 => ?_) (fun h42 => ?_)
        · refine zs_iconst (x := 0) dX5_count_49 (by decide) ?_
          refine zs_iadd dX5_count_50 ?_
          refine zs_istore_n (lv' := [some (.inr 0), some (.inl (c)), some (.inl ((a) + (0))), some (.inl ((b) + (0))), some (.inl (p))]) dX5_count_51 (by decide) rfl ?_
          refine zs_iinc (lv' := [some (.inr 0), some (.inl (c)), some (.inl ((a) + (0))), some (.inl ((b) + (0))), some (.inl (p + 1))]) dX5_count_52 rfl (by decide) rfl ?_
          refine zs_goto (tgt := 7) dX5_count_55 (by decide) ?_
          simp only [z_fr, m_ca] at hr
          simp only [z_fr, m_cs] at hq
          rw [if_neg (fun z => z h25)] at hr
          rw [if_neg h42] at hq
          exact ih n' (by omega) (p + 1) (a + 0) (b + 0) (by omega) (by omega) (by omega) (by omega)
        · refine zs_iconst (x := 1) dX5_count_45 (by decide) ?_
          refine zs_goto (tgt := 50) dX5_count_46 (by decide) ?_
          refine zs_iadd dX5_count_50 ?_
          refine zs_istore_n (lv' := [some (.inr 0), some (.inl (c)), some (.inl ((a) + (0))), some (.inl ((b) + (1))), some (.inl (p))]) dX5_count_51 (by decide) rfl ?_
          refine zs_iinc (lv' := [some (.inr 0), some (.inl (c)), some (.inl ((a) + (0))), some (.inl ((b) + (1))), some (.inl (p + 1))]) dX5_count_52 rfl (by decide) rfl ?_
          refine zs_goto (tgt := 7) dX5_count_55 (by decide) ?_
          simp only [z_fr, m_ca] at hr
          simp only [z_fr, m_cs] at hq
          rw [if_neg (fun z => z h25)] at hr
          rw [if_pos h42] at hq
          exact ih n' (by omega) (p + 1) (a + 0) (b + 1) (by omega) (by omega) (by omega) (by omega)
      · refine zs_iconst (x := 1) dX5_count_28 (by decide) ?_
        refine zs_goto (tgt := 33) dX5_count_29 (by decide) ?_
        refine zs_iadd dX5_count_33 ?_
        refine zs_istore_n (lv' := [some (.inr 0), some (.inl (c)), some (.inl ((a) + (1))), some (.inl (b)), some (.inl (p))]) dX5_count_34 (by decide) rfl ?_
        refine zs_iload_n dX5_count_35 rfl ?_
        refine zs_aload_n dX5_count_36 rfl ?_
        refine zs_iload dX5_count_37 rfl ?_
        refine zs_eV (As := [.inl (p)]) (rest := [.inl (b)]) (q := 0) dX5_count_39 rfl (Nat.le_of_ble_eq_true rfl) rfl rfl YX5_isShown rfl rfl (Nat.le_of_ble_eq_true rfl) gX5_count_X5_isShown (by decide) ⟨Nat.zero_le _, Nat.zero_le _⟩ rfl (t_X5_isShown (w := w) (p) (by omega) hS hW) ?_
        refine zs_ifz_eq (tgt := 49) dX5_count_42 (by decide)  (fun h42 => ?_) (fun h42 => ?_)
        · refine zs_iconst (x := 0) dX5_count_49 (by decide) ?_
          refine zs_iadd dX5_count_50 ?_
          refine zs_istore_n (lv' := [some (.inr 0), some (.inl (c)), some (.inl ((a) + (1))), some (.inl ((b) + (0))), some (.inl (p))]) dX5_count_51 (by decide) rfl ?_
          refine zs_iinc (lv' := [some (.inr 0), some (.inl (c)), some (.inl ((a) + (1))), some (.inl ((b) + (0))), some (.inl (p + 1))]) dX5_count_52 rfl (by decide) rfl ?_
          refine zs_goto (tgt := 7) dX5_count_55 (by decide) ?_
          simp only [z_fr, m_ca] at hr
          simp only [z_fr, m_cs] at hq
          rw [if_pos h25] at hr
          rw [if_neg h42] at hq
          exact ih n' (by omega) (p + 1) (a + 1) (b + 0) (by omega) (by omega) (by omega) (by omega)
        · refine zs_iconst (x := 1) dX5_count_45 (by decide) ?_
          refine zs_goto (tgt := 50) dX5_count_46 (by decide) ?_
          refine zs_iadd dX5_count_50 ?_
          refine zs_istore_n (lv' := [some (.inr 0), some (.inl (c)), some (.inl ((a) + (1))), some (.inl ((b) + (1))), some (.inl (p))]) dX5_count_51 (by decide) rfl ?_
          refine zs_iinc (lv' := [some (.inr 0), some (.inl (c)), some (.inl ((a) + (1))), some (.inl ((b) + (1))), some (.inl (p + 1))]) dX5_count_52 rfl (by decide) rfl ?_
          refine zs_goto (tgt := 7) dX5_count_55 (by decide) ?_
          simp only [z_fr, m_ca] at hr
          simp only [z_fr, m_cs] at hq
          rw [if_pos h25] at hr
          rw [if_pos h42] at hq
          exact ih n' (by omega) (p + 1) (a + 1) (b + 1) (by omega) (by omega) (by omega) (by omega)
set_option maxHeartbeats 4000000 in
set_option maxRecDepth 100000 in
theorem t_X5_count {w : zs_V} (hS : x_S w) (hW : m_W w) (c : Int) (hc : zn c) : zs_R mX5_count 0 0 shM (zs_X (m_countA w c (m_ca w z_Z) (m_cs w z_Z)) w) w 0 [some (.inr 0), some (.inl (c)), none, none, none] [] := by
  refine zs_iconst (x := 0) dX5_count_0 (by decide) ?_
  refine zs_istore_n (lv' := [some (.inr 0), some (.inl (c)), some (.inl (0)), none, none]) dX5_count_1 (by decide) rfl ?_
  refine zs_iconst (x := 0) dX5_count_2 (by decide) ?_
  refine zs_istore_n (lv' := [some (.inr 0), some (.inl (c)), some (.inl (0)), some (.inl (0)), none]) dX5_count_3 (by decide) rfl ?_
  refine zs_iconst (x := 0) dX5_count_4 (by decide) ?_
  refine zs_istore (lv' := [some (.inr 0), some (.inl (c)), some (.inl (0)), some (.inl (0)), some (.inl (0))]) dX5_count_5 (by decide) rfl ?_
  exact l_X5_count hS hW c _ _ hc 200 0 0 0 (by omega) (by omega) (Int.zero_add _) (Int.zero_add _)
