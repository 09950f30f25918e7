theorem s_state {c : Int} {v w : zs_V} (h : RR c v w) (hc : c ≤ 900000) (f cl s y : Int) (hf : zn f) (hcl : zn cl) (hs : zn s) (hy : zn y) : zs_R mX4_state 0 0 shX (fun r v' => r = x_stR w f cl s y ∧ RR (c + 200) v' (x_stS w f cl s y)) v 0 [some (.inr 0), some (.inl (f)), some (.inl (cl)), some (.inl (s)), some (.inl (y))] [] := by
  have hS := h.1.1
  have hT := RR_T h
  refine zs_mono (fun r v' z => ?_) (t_X4_state f cl s y hf hcl hs hy ⟨hS.1, hS.2.1⟩)
  obtain ⟨z1, z2⟩ := z
  rw [z1, z2]
  exact ⟨(r_stR h.1 f cl s y), RR_le (RR_state h f cl s y) (by omega)⟩
theorem u_state {c : Int} {v w : zs_V} (h : RR c v w) (hc : c ≤ 900000) (f cl s y : Int) (hf : zn f) (hcl : zn cl) (hs : zn s) (hy : zn y) : zs_R mX5_state 0 0 shM (fun r w' => r = x_stR w f cl s y ∧ w' = (x_stS w f cl s y)) w 0 [some (.inr 0), some (.inl (f)), some (.inl (cl)), some (.inl (s)), some (.inl (y))] [] := by
  have hS := r_A_w h.1
  exact t_X5_state f cl s y hf hcl hs hy ⟨hS.1, hS.2.1⟩
theorem s_put {c : Int} {v w : zs_V} (h : RR c v w) (hc : c ≤ 900000) (s k m x : Int) (hs : zn s) (hk : zn k) (hm : zn m) (hx : zn x) : zs_R mX4_put 0 0 shX (fun r v' => r = m_putR w s k m ∧ RR (c + 200) v' (m_putS w s k m x)) v 0 [some (.inr 0), some (.inl (s)), some (.inl (k)), some (.inl (m)), some (.inl (x)), none, none, none] [] := by
  exact zs_mono (fun r v' z => ⟨(RR_put h z).2, RR_le (RR_put h z).1 (by omega)⟩) (t_X4_put (RR_J h) (r_full h.2.2.1) s k m x hs hk hm hx)
theorem u_put {c : Int} {v w : zs_V} (h : RR c v w) (hc : c ≤ 900000) (s k m x : Int) (hs : zn s) (hk : zn k) (hm : zn m) (hx : zn x) : zs_R mX5_put 0 0 shM (fun r w' => r = m_putR w s k m ∧ w' = (m_putS w s k m x)) w 0 [some (.inr 0), some (.inl (s)), some (.inl (k)), some (.inl (m)), some (.inl (x)), none, none] [] := by
  have hS := r_A_w h.1
  have hW := RR_W h (by omega)
  exact t_X5_put hS hW (RR_mJ h (by omega)).2.2.1 s k m x hs hk hm
theorem s_get {c : Int} {v w : zs_V} (h : RR c v w) (hc : c ≤ 900000) (s k m : Int) (hs : zn s) (hk : zn k) (hm : zn m) : zs_R mX4_get 0 0 shX (fun r v' => r = m_getR w s k m ∧ RR (c + 200) v' (m_getS w s k m)) v 0 [some (.inr 0), some (.inl (s)), some (.inl (k)), some (.inl (m))] [] := by
  have hS := h.1.1
  have hT := RR_T h
  refine zs_mono (fun r v' z => ?_) (t_X4_get hS hT s k m hs hk hm)
  obtain ⟨z1, z2⟩ := z
  rw [z1, z2]
  exact ⟨(RR_get h s k m).2, RR_le (RR_get h s k m).1 (by omega)⟩
theorem u_get {c : Int} {v w : zs_V} (h : RR c v w) (hc : c ≤ 900000) (s k m : Int) (hs : zn s) (hk : zn k) (hm : zn m) : zs_R mX5_get 0 0 shM (fun r w' => r = m_getR w s k m ∧ w' = (m_getS w s k m)) w 0 [some (.inr 0), some (.inl (s)), some (.inl (k)), some (.inl (m)), none] [] := by
  have hS := r_A_w h.1
  have hW := RR_W h (by omega)
  exact t_X5_get hS hW s k m hs hk hm
theorem s_remove {c : Int} {v w : zs_V} (h : RR c v w) (hc : c ≤ 900000) (s k m : Int) (hs : zn s) (hk : zn k) (hm : zn m) : zs_R mX4_remove 0 0 shX (fun r v' => r = m_remR w s k m ∧ RR (c + 200) v' (m_remS w s k m)) v 0 [some (.inr 0), some (.inl (s)), some (.inl (k)), some (.inl (m)), none, none] [] := by
  exact zs_mono (fun r v' z => ⟨(RR_remove h z).2, RR_le (RR_remove h z).1 (by omega)⟩) (t_X4_remove (RR_J h) s k m hs hk hm)
theorem u_remove {c : Int} {v w : zs_V} (h : RR c v w) (hc : c ≤ 900000) (s k m : Int) (hs : zn s) (hk : zn k) (hm : zn m) : zs_R mX5_remove 0 0 shM (fun r w' => r = m_remR w s k m ∧ w' = (m_remS w s k m)) w 0 [some (.inr 0), some (.inl (s)), some (.inl (k)), some (.inl (m)), none, none] [] := by
  have hS := r_A_w h.1
  have hW := RR_W h (by omega)
  exact t_X5_remove hS hW s k m hs hk hm
theorem s_add {c : Int} {v w : zs_V} (h : RR c v w) (hc : c ≤ 900000) (s k x : Int) (hs : zn s) (hk : zn k) (hx : zn x) : zs_R mX4_add 0 0 shX (fun r v' => r = m_addR w s k x ∧ RR (c + 200) v' (m_addS w s k x)) v 0 [some (.inr 0), some (.inl (s)), some (.inl (k)), some (.inl (x))] [] := by
  exact zs_mono (fun r v' z => ⟨(RR_add h z).2, RR_le (RR_add h z).1 (by omega)⟩) (t_X4_add (RR_J h) (r_full h.2.2.1) s k x hs hk hx)
theorem u_add {c : Int} {v w : zs_V} (h : RR c v w) (hc : c ≤ 900000) (s k x : Int) (hs : zn s) (hk : zn k) (hx : zn x) : zs_R mX5_add 0 0 shM (fun r w' => r = m_addR w s k x ∧ w' = (m_addS w s k x)) w 0 [some (.inr 0), some (.inl (s)), some (.inl (k)), some (.inl (x)), none] [] := by
  have hS := r_A_w h.1
  have hW := RR_W h (by omega)
  have hcm := h.2.2.2.2.2.2.2
  exact t_X5_add hS hW (by omega) s k x hs hk
theorem s_at {c : Int} {v w : zs_V} (h : RR c v w) (hc : c ≤ 900000) (s k i : Int) (hs : zn s) (hk : zn k) (hi : zn i) : zs_R mX4_at 0 0 shX (fun r v' => r = m_atR w s k i ∧ RR (c + 200) v' (m_atS w s k i)) v 0 [some (.inr 0), some (.inl (s)), some (.inl (k)), some (.inl (i))] [] := by
  have hS := h.1.1
  have hT := RR_T h
  refine zs_mono (fun r v' z => ?_) (t_X4_at hS hT s k i hs hk hi)
  obtain ⟨z1, z2⟩ := z
  rw [z1, z2]
  exact ⟨(RR_at h s k i).2, RR_le (RR_at h s k i).1 (by omega)⟩
theorem u_at {c : Int} {v w : zs_V} (h : RR c v w) (hc : c ≤ 900000) (s k i : Int) (hs : zn s) (hk : zn k) (hi : zn i) : zs_R mX5_at 0 0 shM (fun r w' => r = m_atR w s k i ∧ w' = (m_atS w s k i)) w 0 [some (.inr 0), some (.inl (s)), some (.inl (k)), some (.inl (i)), none] [] := by
  have hS := r_A_w h.1
  have hW := RR_W h (by omega)
  exact t_X5_at hS hW s k i hs hk hi
theorem s_clear {c : Int} {v w : zs_V} (h : RR c v w) (hc : c ≤ 900000) (s k : Int) (hs : zn s) (hk : zn k) : zs_R mX4_clear 0 0 shX (fun r v' => r = m_cleR w s k ∧ RR (c + 200) v' (m_cleS w s k)) v 0 [some (.inr 0), some (.inl (s)), some (.inl (k)), none, none] [] := by
  exact zs_mono (fun r v' z => ⟨(RR_clear h z).2, RR_le (RR_clear h z).1 (by omega)⟩) (t_X4_clear (RR_J h) s k hs hk)
theorem u_clear {c : Int} {v w : zs_V} (h : RR c v w) (hc : c ≤ 900000) (s k : Int) (hs : zn s) (hk : zn k) : zs_R mX5_clear 0 0 shM (fun r w' => r = m_cleR w s k ∧ w' = (m_cleS w s k)) w 0 [some (.inr 0), some (.inl (s)), some (.inl (k)), none, none] [] := by
  have hS := r_A_w h.1
  have hW := RR_W h (by omega)
  exact t_X5_clear hS hW s k hs hk
theorem s_held {c : Int} {v w : zs_V} (h : RR c v w) (hc : c ≤ 900000) (s k o : Int) (hs : zn s) (hk : zn k) (ho : zn o) (ho1 : o = 0 ∨ o = 1) : zs_R mX4_held 0 0 shX (fun r v' => r = m_heldR w s k o ∧ RR (c + 200) v' w) v 0 [some (.inr 0), some (.inl (s)), some (.inl (k)), some (.inl (o))] [] := by
  have hS := h.1.1
  have hT := RR_T h
  refine zs_mono (fun r v' z => ?_) (t_X4_held hS hT s k o hs hk ho)
  obtain ⟨z1, z2⟩ := z
  rw [z1, z2]
  exact ⟨r_held h.1 h.2.1 h.2.2.1 s k ho1, RR_le h (by omega)⟩
theorem u_held {c : Int} {v w : zs_V} (h : RR c v w) (hc : c ≤ 900000) (s k o : Int) (hs : zn s) (hk : zn k) (ho : zn o) (ho1 : o = 0 ∨ o = 1) : zs_R mX5_held 0 0 shM (fun r w' => r = m_heldR w s k o ∧ w' = w) w 0 [some (.inr 0), some (.inl (s)), some (.inl (k)), some (.inl (o)), none, none] [] := by
  have hS := r_A_w h.1
  have hW := RR_W h (by omega)
  exact t_X5_held hS hW s k o hs hk ho
theorem s_left {c : Int} {v w : zs_V} (h : RR c v w) (hc : c ≤ 900000) (s k m : Int) (hs : zn s) (hk : zn k) (hm : zn m) : zs_R mX4_left 0 0 shX (fun r v' => r = m_leftR w s k m ∧ RR (c + 200) v' w) v 0 [some (.inr 0), some (.inl (s)), some (.inl (k)), some (.inl (m)), none] [] := by
  have hS := h.1.1
  have hT := RR_T h
  refine zs_mono (fun r v' z => ?_) (t_X4_left hS hT s k m hs hk hm)
  obtain ⟨z1, z2⟩ := z
  rw [z1, z2]
  exact ⟨r_left h s k m, RR_le h (by omega)⟩
theorem u_left {c : Int} {v w : zs_V} (h : RR c v w) (hc : c ≤ 900000) (s k m : Int) (hs : zn s) (hk : zn k) (hm : zn m) : zs_R mX5_left 0 0 shM (fun r w' => r = m_leftR w s k m ∧ w' = w) w 0 [some (.inr 0), some (.inl (s)), some (.inl (k)), some (.inl (m)), none] [] := by
  have hS := r_A_w h.1
  have hW := RR_W h (by omega)
  exact t_X5_left hS hW s k m hs hk hm
theorem s_tick {c : Int} {v w : zs_V} (h : RR c v w) (hc : c ≤ 900000) (n : Int) (hn : zn n) : zs_R mX4_tick 0 0 shX (fun r v' => r = m_tickR w n ∧ RR (c + 200) v' (x_tickS w n)) v 0 [some (.inr 0), some (.inl (n)), none] [] := by
  have hS := h.1.1
  have hT := RR_T h
  refine zs_mono (fun r v' z => ?_) (t_X4_tick hS hT n hn)
  obtain ⟨z1, z2⟩ := z
  rw [z1, z2]
  exact ⟨(RR_tick h n).2, RR_le (RR_tick h n).1 (by omega)⟩
theorem u_tick {c : Int} {v w : zs_V} (h : RR c v w) (hc : c ≤ 900000) (n : Int) (hn : zn n) : zs_R mX5_tick 0 0 shM (fun r w' => r = m_tickR w n ∧ w' = (x_tickS w n)) w 0 [some (.inr 0), some (.inl (n))] [] := by
  have hS := r_A_w h.1
  have hW := RR_W h (by omega)
  exact t_X5_tick hS hW n hn
theorem s_watermark {c : Int} {v w : zs_V} (h : RR c v w) (hc : c ≤ 900000) (t : Int) (ht : zn t) : zs_R mX4_watermark 0 0 shX (fun r v' => r = m_wmR w t ∧ RR (c + 200) v' (x_wmS w t)) v 0 [some (.inr 0), some (.inl (t))] [] := by
  have hS := h.1.1
  have hT := RR_T h
  refine zs_mono (fun r v' z => ?_) (t_X4_watermark hS hT t ht)
  obtain ⟨z1, z2⟩ := z
  rw [z1, z2]
  exact ⟨(RR_wm h t).2, RR_le (RR_wm h t).1 (by omega)⟩
theorem u_watermark {c : Int} {v w : zs_V} (h : RR c v w) (hc : c ≤ 900000) (t : Int) (ht : zn t) : zs_R mX5_watermark 0 0 shM (fun r w' => r = m_wmR w t ∧ w' = (x_wmS w t)) w 0 [some (.inr 0), some (.inl (t))] [] := by
  have hS := r_A_w h.1
  have hW := RR_W h (by omega)
  exact t_X5_watermark hS hW t ht
theorem s_sweep {c : Int} {v w : zs_V} (h : RR c v w) (hc : c ≤ 900000) (n : Int) (hn : zn n) : zs_R mX4_sweep 0 0 shX (fun r v' => r = m_sweR w n ∧ RR (c + 200) v' (m_sweS w n)) v 0 [some (.inr 0), some (.inl (n)), none, none] [] := by
  exact zs_mono (fun r v' z => ⟨(RR_sweep h z).2, RR_le (RR_sweep h z).1 (by omega)⟩) (t_X4_sweep (RR_J h) n hn)
theorem u_sweep {c : Int} {v w : zs_V} (h : RR c v w) (hc : c ≤ 900000) (n : Int) (hn : zn n) : zs_R mX5_sweep 0 0 shM (fun r w' => r = m_sweR w n ∧ w' = (m_sweS w n)) w 0 [some (.inr 0), some (.inl (n)), none, none] [] := by
  exact t_X5_sweep (RR_mJ h (by omega)) n hn
theorem s_setting {c : Int} {v w : zs_V} (h : RR c v w) (hc : c ≤ 900000) (s l a : Int) (hs : zn s) (hl : zn l) (ha : zn a) : zs_R mX4_setting 0 0 shX (fun r v' => r = x_setR w s l ∧ RR (c + 200) v' (m_setS w s l a)) v 0 [some (.inr 0), some (.inl (s)), some (.inl (l)), some (.inl (a)), none] [] := by
  have hS := h.1.1
  have hT := RR_T h
  refine zs_mono (fun r v' z => ?_) (t_X4_setting hS hT (RR_U h) s l a hs hl ha)
  obtain ⟨z1, z2⟩ := z
  rw [z1, z2]
  exact ⟨(RR_setting h s l a).2, RR_le (RR_setting h s l a).1 (by omega)⟩
theorem u_setting {c : Int} {v w : zs_V} (h : RR c v w) (hc : c ≤ 900000) (s l a : Int) (hs : zn s) (hl : zn l) (ha : zn a) : zs_R mX5_setting 0 0 shM (fun r w' => r = x_setR w s l ∧ w' = (m_setS w s l a)) w 0 [some (.inr 0), some (.inl (s)), some (.inl (l)), some (.inl (a)), none, none] [] := by
  have hS := r_A_w h.1
  have hW := RR_W h (by omega)
  by_cases h0 : a = 0
  · exact t_X5_setting0 hS hW (RR_mU h) s l a hs hl ha h0
  · exact t_X5_setting1 hS hW (RR_mU h) s l a hs hl ha h0
theorem s_restore {c : Int} {v w : zs_V} (h : RR c v w) (hc : c ≤ 900000) (m : Int) (hm : zn m) : zs_R mX4_restore 0 0 shX (fun r v' => r = m_resR w m ∧ RR (c + 200) v' (m_resS w m)) v 0 [some (.inr 0), some (.inl (m)), none, none, none] [] := by
  exact zs_mono (fun r v' z => ⟨(RR_restore h z).2, (RR_restore h z).1⟩) (t_X4_restore h.1.1 m hm (RR_xrs h m))
theorem u_restore {c : Int} {v w : zs_V} (h : RR c v w) (hc : c ≤ 900000) (m : Int) (hm : zn m) : zs_R mX5_restore 0 0 shM (fun r w' => r = m_resR w m ∧ w' = (m_resS w m)) w 0 [some (.inr 0), some (.inl (m)), none, none] [] := by
  exact t_X5_restore (r_A_w h.1) m hm (RR_mrs h m)
theorem s_row {c : Int} {v w : zs_V} (h : RR c v w) (hc : c ≤ 900000) (i d : Int) (hi : zn i) (hd : zn d) : zs_R mX4_row 0 0 shX (fun r v' => r = m_rowR w i d ∧ RR (c + 200) v' w) v 0 [some (.inr 0), some (.inl (i)), some (.inl (d))] [] := by
  have hJ := RR_J h
  refine zs_mono (fun r v' z => ?_) (t_X4_row i d hi hd hJ.2.2.2.1 hJ.2.2.2.2.1)
  obtain ⟨z1, z2⟩ := z
  rw [z1, z2]
  exact ⟨r_row h.2.2.2.2.1 i d, RR_le h (by omega)⟩
theorem u_row {c : Int} {v w : zs_V} (h : RR c v w) (hc : c ≤ 900000) (i d : Int) (hi : zn i) (hd : zn d) : zs_R mX5_row 0 0 shM (fun r w' => r = m_rowR w i d ∧ w' = w) w 0 [some (.inr 0), some (.inl (i)), some (.inl (d))] [] := by
  exact t_X5_row i d hi hd (RR_mJ h (by omega)).2.2.1
theorem s_place {c : Int} {v w : zs_V} (h : RR c v w) (hc : c ≤ 900000) (s k m : Int) (hs : zn s) (hk : zn k) (hm : zn m) : zs_R mX4_place 0 0 shX (fun r v' => r = m_placeR w s k m ∧ RR (c + 200) v' w) v 0 [some (.inr 0), some (.inl (s)), some (.inl (k)), some (.inl (m)), none] [] := by
  have hS := h.1.1
  have hT := RR_T h
  refine zs_mono (fun r v' z => ?_) (t_X4_place hS hT s k m hs hk hm)
  obtain ⟨z1, z2⟩ := z
  rw [z1, z2]
  exact ⟨r_place h s k m, RR_le h (by omega)⟩
theorem u_place {c : Int} {v w : zs_V} (h : RR c v w) (hc : c ≤ 900000) (s k m : Int) (hs : zn s) (hk : zn k) (hm : zn m) : zs_R mX5_place 0 0 shM (fun r w' => r = m_placeR w s k m ∧ w' = w) w 0 [some (.inr 0), some (.inl (s)), some (.inl (k)), some (.inl (m))] [] := by
  have hS := r_A_w h.1
  have hW := RR_W h (by omega)
  exact t_X5_place hS hW s k m hs hk hm
theorem s_next {c : Int} {v w : zs_V} (h : RR c v w) (hc : c ≤ 900000) (s : Int) (hs : zn s) : zs_R mX4_next 0 0 shX (fun r v' => r = m_nextR w s ∧ RR (c + 200) v' w) v 0 [some (.inr 0), some (.inl (s)), none, none, none] [] := by
  have hS := h.1.1
  have hT := RR_T h
  refine zs_mono (fun r v' z => ?_) (t_X4_next hS hT s hs)
  obtain ⟨z1, z2⟩ := z
  rw [z1, z2]
  exact ⟨r_next h.1 h.2.1 h.2.2.1 s, RR_le h (by omega)⟩
theorem u_next {c : Int} {v w : zs_V} (h : RR c v w) (hc : c ≤ 900000) (s : Int) (hs : zn s) : zs_R mX5_next 0 0 shM (fun r w' => r = m_nextR w s ∧ w' = w) w 0 [some (.inr 0), some (.inl (s)), none, none] [] := by
  have hS := r_A_w h.1
  have hW := RR_W h (by omega)
  exact t_X5_next hS hW s hs
theorem s_count {c : Int} {v w : zs_V} (h : RR c v w) (hc : c ≤ 900000) (d : Int) (hd : zn d) : zs_R mX4_count 0 0 shX (fun r v' => r = m_countA w d (m_ca w z_Z) (m_cs w z_Z) ∧ RR (c + 200) v' w) v 0 [some (.inr 0), some (.inl (d))] [] := by
  have hS := h.1.1
  have hT := RR_T h
  refine zs_mono (fun r v' z => ?_) (t_X4_count hS hT d hd)
  obtain ⟨z1, z2⟩ := z
  rw [z1, z2]
  exact ⟨r_count h.1 h.2.1 h.2.2.1 h.2.2.2.2.1 h.2.2.2.2.2.2.1 d, RR_le h (by omega)⟩
theorem u_count {c : Int} {v w : zs_V} (h : RR c v w) (hc : c ≤ 900000) (d : Int) (hd : zn d) : zs_R mX5_count 0 0 shM (fun r w' => r = m_countA w d (m_ca w z_Z) (m_cs w z_Z) ∧ w' = w) w 0 [some (.inr 0), some (.inl (d)), none, none, none] [] := by
  have hS := r_A_w h.1
  have hW := RR_W h (by omega)
  exact t_X5_count hS hW d hd
theorem s_mark {c : Int} {v w : zs_V} (h : RR c v w) (hc : c ≤ 900000) (m : Int) (hm : zn m) : zs_R mX4_mark 0 0 shX (fun r v' => r = m_markR m (x_K v) ∧ RR (c + 200) v' (m_markS w m (x_K v))) v 0 [some (.inr 0), some (.inl (m)), none, none] [] := by
  refine zs_mono (fun r v' z => ?_) (t_X4_mark h.1.1 (RR_T h) m hm)
  obtain ⟨z1, z2⟩ := z
  rw [z1, z2]
  exact ⟨(RR_mark h m).2, RR_le (RR_mark h m).1 (by omega)⟩
theorem u_mark {c : Int} {v w : zs_V} (h : RR c v w) (hc : c ≤ 900000) (m : Int) (hm : zn m) : zs_R mX5_mark 0 0 shM (fun r w' => r = m_markR m (x_K v) ∧ w' = m_markS w m (x_K v)) w 0 [some (.inr 0), some (.inl (m)), none, none, none] [] := by
  have hk := RR_ch h (by omega)
  exact t_X5_mark (r_A_w h.1) (RR_W h (by omega)) m hm (x_K v) hk.1 hk.2

def z_V0 : zs_V := zs_fill (zs_fill z_0 5 0 200 (-1)) 14 0 3 (-1)
def z_W0 : zs_V := zs_fill (zs_fill z_0 5 0 200 (-99999999)) 13 0 3 (-99999999)
theorem z_V0_r {r : Nat} (h5 : r ≠ 5) (h14 : r ≠ 14) : z_V0 r = fun _ => 0 := by
  funext j
  unfold z_V0 zs_fill
  rw [if_neg (fun z => h14 z.1), if_neg (fun z => h5 z.1)]
  rfl
theorem z_W0_r {r : Nat} (h5 : r ≠ 5) (h13 : r ≠ 13) : z_W0 r = fun _ => 0 := by
  funext j
  unfold z_W0 zs_fill
  rw [if_neg (fun z => h13 z.1), if_neg (fun z => h5 z.1)]
  rfl
theorem z_V0_5 {p : Int} (h0 : 0 ≤ p) (h1 : p < 200) : z_V0 5 p = -1 := by
  unfold z_V0 zs_fill
  rw [if_neg (fun z => absurd z.1 (by decide)), if_pos ⟨rfl, h0, h1⟩]
theorem z_W0_5 {p : Int} (h0 : 0 ≤ p) (h1 : p < 200) : z_W0 5 p = -99999999 := by
  unfold z_W0 zs_fill
  rw [if_neg (fun z => absurd z.1 (by decide)), if_pos ⟨rfl, h0, h1⟩]
theorem z_V0_14 {p : Int} (h0 : 0 ≤ p) (h1 : p < 3) : z_V0 14 p = -1 := by
  unfold z_V0 zs_fill
  rw [if_pos ⟨rfl, h0, h1⟩]
theorem z_W0_13 {p : Int} (h0 : 0 ≤ p) (h1 : p < 3) : z_W0 13 p = -99999999 := by
  unfold z_W0 zs_fill
  rw [if_pos ⟨rfl, h0, h1⟩]
theorem RR_0 : RR 0 z_V0 z_W0 := by
  have V : ∀ r, r ≠ 5 → r ≠ 14 → z_V0 r = fun _ => 0 := fun r a b => z_V0_r a b
  have W' : ∀ r, r ≠ 5 → r ≠ 13 → z_W0 r = fun _ => 0 := fun r a b => z_W0_r a b
  have hL : x_L z_V0 = [] := by
    unfold x_L
    rw [V 16 (by decide) (by decide)]
    rfl
  have hn : ∀ r, z_V0 r = z_V0 r := fun _ => rfl
  refine ⟨⟨?_, ?_, ?_, ?_, ?_, ?_, ?_⟩, fun p h0 h1 => Or.inl ⟨z_V0_5 h0 h1, z_W0_5 h0 h1⟩, ⟨?_, fun p => ?_, ?_⟩, fun p q hp => ?_, ?_, fun m h0 h1 => Or.inl ⟨z_V0_14 h0 h1, z_W0_13 h0 h1⟩, ?_, ?_⟩
  · unfold x_S
    rw [V 15 (by decide) (by decide), V 4 (by decide) (by decide)]
    dsimp only
    exact ⟨by omega, by omega, fun s a b => absurd b (by omega), by omega, by omega, by omega, by omega⟩
  · rw [V 0 (by decide) (by decide), W' 0 (by decide) (by decide)]
  · rw [V 1 (by decide) (by decide), W' 1 (by decide) (by decide)]
  · rw [V 2 (by decide) (by decide), W' 2 (by decide) (by decide)]
  · rw [V 3 (by decide) (by decide), W' 3 (by decide) (by decide)]
  · rw [V 4 (by decide) (by decide), W' 4 (by decide) (by decide)]
  · rw [V 15 (by decide) (by decide), W' 15 (by decide) (by decide)]
  · rw [V 16 (by decide) (by decide)]
    dsimp only
    exact ⟨by omega, by omega⟩
  · rw [hL]
    constructor
    · intro z; simp at z
    · intro z; exact absurd (z_V0_5 z.1 z.2.1) z.2.2
  · rw [hL]
    exact List.Pairwise.nil
  · rw [hL] at hp
    simp at hp
  · unfold r_R
    rw [V 18 (by decide) (by decide), V 19 (by decide) (by decide), V 17 (by decide) (by decide), W' 18 (by decide) (by decide), W' 19 (by decide) (by decide)]
    dsimp only
    exact ⟨rfl, rfl, by omega, by omega, fun i c a b => absurd b (by omega)⟩
  · unfold r_E
    rw [V 20 (by decide) (by decide), W' 17 (by decide) (by decide)]
    dsimp only
    exact ⟨rfl, by omega, by omega⟩
  · rw [W' 16 (by decide) (by decide)]
    dsimp only
    exact ⟨by omega, by omega⟩
