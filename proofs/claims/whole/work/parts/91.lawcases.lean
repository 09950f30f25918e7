
/-- the script's number at i -/
def z_y (xs : Nat → Int32) (i : Int) : Int := (xs i.toNat).toInt
theorem z_yn (xs : Nat → Int32) (i : Int) : zn (z_y xs i) := zn_of _
/-- the law's fixed things -/
def zl_C (p : Program) (s : State) (m : MethodId) (meth : Method) (c : Code) (dC : Nat → ClassId) (dI : Nat → Nat → Nat) (cA : ClassId) (b L : Nat) (xs : Nat → Int32) : Prop := CallFix p m c code 4 s #[Value.ref b] wsL_law RL ∧ va_X b L xs s s.heap ∧ b < s.heap.size ∧ va_K (dC, dI) vwCl [(cA, .int)] s ∧ L ≤ 2560 ∧ meth.sig.returnType = ret ∧ meth.locks = false
def zl_L (ax am : Nat → Nat) (b : Nat) (i : Int) (ls : Array Slot) : Prop := lv_has ls 4 [(0, .ref b), (1, .ref (ax 0)), (2, .ref (am 0)), (3, .int (zI i))]
def zl_H (s : State) (dC : Nat → ClassId) (dI : Nat → Nat → Nat) (cA : ClassId) (ax am : Nat → Nat) (v w : zs_V) (H : Heap) (locs : List Loc) : Prop := va_P (dC, dI) vwCl (zs_wr cA ax v 0 shX ++ zs_wr cA am w 0 shM) H ∧ va_D (fun q : Nat => s.heap.size ≤ q) (zs_wr cA ax v 0 shX ++ zs_wr cA am w 0 shM) ∧ va_S (fun q : Nat => s.heap.size ≤ q) s.heap H locs
section ZL
variable {p : Program} {l : Launch} {e : Env} {s : State} {m : MethodId} {below : List Frame} {meth : Method} {c : Code} {dC : Nat → ClassId} {dI : Nat → Nat → Nat} {cA : ClassId} {b L : Nat} {xs : Nat → Int32} {H : Heap} {locs : List Loc} {ax am : Nat → Nat} {v w : zs_V} {ls : Array Slot} {pc : Nat} {st rest : List Value} {i : Int}
/-- one of the script's numbers onto the stack -/
theorem zl_arg (C : zl_C p s m meth c dC dI cA b L xs) (hH : zl_H s dC dI cA ax am v w H locs) (hl : zl_L ax am b i ls) (k : Int) (h0 : 0 ≤ i + k) (h1 : i + k < L) (d1 : decode code pc = .ok (.aload_n 0, 1)) (d2 : decode code (pc + 1) = .ok (.iload_n 3, 1)) (d3 : decode code (pc + 2) = .ok (.iconst k, 1)) (d4 : decode code (pc + 3) = .ok (.iadd, 1)) (d5 : decode code (pc + 4) = .ok (.iaload, 1))
    (kk : W p l e room_1 s m #[Value.ref b] below meth c H locs 36 9103 (lw_Z below #[Value.ref b] s) (F0 m (pc + 5) ls (.int (zI (z_y xs (i + k))) :: st))) : W p l e room_1 s m #[Value.ref b] below meth c H locs 36 9103 (lw_Z below #[Value.ref b] s) (F0 m pc ls st) := by
  obtain ⟨⟨hx, hb, hml, hown, hts⟩, hX, hbl, hK, hL, hr, hlk⟩ := C
  have hbA : ¬ (fun q : Nat => s.heap.size ≤ q) b := Nat.not_le.mpr hbl
  refine lv_aload_n hx hb d1 rfl (lv_at hl 0 rfl) ?_
  refine lv_iload_n hx hb d2 rfl (lv_at hl 3 rfl) ?_
  refine lv_iconst (v := zI k) hx hb d3 rfl ?_
  refine lv_iadd hx hb d4 ?_
  rw [zI_add]
  refine va_sld hx hb hX hbl hbA hH.2.2 (zI_in h0 h1 (by omega)) d5 ?_
  rw [zI_clamp h0 (by omega)]
  have e : Value.int (zI (z_y xs (i + k))) = Value.int (xs (i + k).toNat) := by
    unfold z_y
    rw [zI_of]
  rw [← e]
  exact kk
set_option maxRecDepth 100000 in
theorem zl_callX {M' : zs_M} {y : MethodName} {np j : Nat} {ty : FieldType} {As : List zs_A} {post' : Int → zs_V → Prop} (C : zl_C p s m meth c dC dI cA b L xs) (hH : zl_H s dC dI cA ax am v w H locs) (hl : zl_L ax am b i ls) (hd : decode code pc = .ok (.invokevirtual j, 3)) (hY : zs_Y M' y np) (hC : y.cls = RX4) (hnp : As.length = np) (hnl : As.length + 1 ≤ M'.2.2.2.1) (hG : GoodIn wsL_law (wsV RL j RX4 y M'.2.2.1)) (hR : M'.2.2.2.2.2.frames + 1 ≤ room_1.frames ∧ 8 + (M'.2.2.2.1 + 11) + M'.2.2.2.2.2.locals ≤ room_1.locals) (hret : M'.2.2.2.2.1 = some ty) (hM : zs_R M' 0 0 shX post' v 0 (zs_ent M'.2.2.2.1 (.inr 0 :: As)) []) (hst : st = (As.map (zs_v ax)).reverse ++ .ref (ax 0) :: rest) (hlen : (rest.map fun v => v.category).sum ≤ 8)
    (kk : ∀ (r : Int) (v' : zs_V) (H1 : Heap) (locs1 : List Loc), post' r v' → zl_H s dC dI cA ax am v' w H1 locs1 → W p l e room_1 s m #[Value.ref b] below meth c H1 locs1 36 9103 (lw_Z below #[Value.ref b] s) (F0 m (pc + 3) ls (.int (zI r) :: rest))) : W p l e room_1 s m #[Value.ref b] below meth c H locs 36 9103 (lw_Z below #[Value.ref b] s) (F0 m pc ls st) := by
  obtain ⟨⟨hx, hb, hml, hown, hts⟩, hX, hbl, hK, hL, hr, hlk⟩ := C
  obtain ⟨hP, hD, hS⟩ := hH
  have hA : ∀ q : Nat, s.heap.size ≤ q → (fun q : Nat => s.heap.size ≤ q) q := fun _ h => h
  have hMet := zs_met hY (As := .inr 0 :: As) (by simpa using hnl) hM l dC dI cA ax H.size
  rw [hret, zs_w_r] at hMet
  obtain ⟨⟨ws', hw⟩, ho, hy, hdc, hrc, hrs⟩ := hY
  have hPc := hP.sub (ws' := zs_wr cA ax v 0 shX) [0, 1, 2, 3, 4, 5, 6, 7, 8, 9, 10, 11, 12, 13, 14, 15, 16, 17, 18, 19] rfl
  have hDc := hD.sub (ws' := zs_wr cA ax v 0 shX) [0, 1, 2, 3, 4, 5, 6, 7, 8, 9, 10, 11, 12, 13, 14, 15, 16, 17, 18, 19] (by decide) rfl
  have hFc := va_free (wc := zs_wr cA ax v 0 shX) hD hS hA [0, 1, 2, 3, 4, 5, 6, 7, 8, 9, 10, 11, 12, 13, 14, 15, 16, 17, 18, 19] rfl
  refine va_calli (va_runV (As := As.map (zs_v ax)) (rest := rest) (b := ax 0) ⟨hx, hb, hml, hown, hts⟩ hMet (cwV np hts hG hw hrc hrs ⟨hC, hdc⟩ hR) ⟨zs_blind, va_recv hK hPc (ci := 4) (q0 := 0) rfl rfl, fun U hU hW => ⟨rfl, by rw [hU], by rw [hU, zs_w_r]; exact hPc, va_K.moved hW.alike hK, by rw [zs_w_r]; exact hDc.weaken (fun _ _ _ _ => trivial)⟩⟩ rfl (by simpa using hnp) hl.1 hst (lv_room hlen) hd ⟨Nat.le_refl _, Nat.le_refl _⟩) hS (fun q _ h => hFc q h) hFc (fun r u t H1 locs1 ht hvm hw1 hB hz1 hk1 hS1 => ?_)
  obtain ⟨x, rfl, hx1⟩ := hw1
  obtain ⟨hP1, hK1, hD1⟩ := hB
  rw [ht] at hP1
  rw [zs_w_r] at hP1 hD1
  obtain ⟨hP, hD⟩ := va_join (wr := zs_wr cA am w 0 shM) (w1 := zs_wr cA ax u 0 shX) hP hD [0, 1, 2, 3, 4, 5, 6, 7, 8, 9, 10, 11, 12, 13, 14, 15, 16, 17, 18, 19] [20, 21, 22, 23, 24, 25, 26, 27, 28, 29, 30, 31, 32, 33, 34, 35] rfl rfl (by decide) (by decide) hk1 hFc hP1 hD1
  have hP := hP.sub (ws' := zs_wr cA ax u 0 shX ++ zs_wr cA am w 0 shM) [16, 17, 18, 19, 20, 21, 22, 23, 24, 25, 26, 27, 28, 29, 30, 31, 32, 33, 34, 35, 0, 1, 2, 3, 4, 5, 6, 7, 8, 9, 10, 11, 12, 13, 14, 15] rfl
  have hD := hD.sub (ws' := zs_wr cA ax u 0 shX ++ zs_wr cA am w 0 shM) [16, 17, 18, 19, 20, 21, 22, 23, 24, 25, 26, 27, 28, 29, 30, 31, 32, 33, 34, 35, 0, 1, 2, 3, 4, 5, 6, 7, 8, 9, 10, 11, 12, 13, 14, 15] (by decide) rfl
  exact kk x u H1 locs1 hx1 ⟨hP, hD, hS1⟩
set_option maxRecDepth 100000 in
theorem zl_callM {M' : zs_M} {y : MethodName} {np j : Nat} {ty : FieldType} {As : List zs_A} {post' : Int → zs_V → Prop} (C : zl_C p s m meth c dC dI cA b L xs) (hH : zl_H s dC dI cA ax am v w H locs) (hl : zl_L ax am b i ls) (hd : decode code pc = .ok (.invokevirtual j, 3)) (hY : zs_Y M' y np) (hC : y.cls = RX5) (hnp : As.length = np) (hnl : As.length + 1 ≤ M'.2.2.2.1) (hG : GoodIn wsL_law (wsV RL j RX5 y M'.2.2.1)) (hR : M'.2.2.2.2.2.frames + 1 ≤ room_1.frames ∧ 8 + (M'.2.2.2.1 + 11) + M'.2.2.2.2.2.locals ≤ room_1.locals) (hret : M'.2.2.2.2.1 = some ty) (hM : zs_R M' 0 0 shM post' w 0 (zs_ent M'.2.2.2.1 (.inr 0 :: As)) []) (hst : st = (As.map (zs_v am)).reverse ++ .ref (am 0) :: rest) (hlen : (rest.map fun v => v.category).sum ≤ 8)
    (kk : ∀ (r : Int) (w' : zs_V) (H1 : Heap) (locs1 : List Loc), post' r w' → zl_H s dC dI cA ax am v w' H1 locs1 → W p l e room_1 s m #[Value.ref b] below meth c H1 locs1 36 9103 (lw_Z below #[Value.ref b] s) (F0 m (pc + 3) ls (.int (zI r) :: rest))) : W p l e room_1 s m #[Value.ref b] below meth c H locs 36 9103 (lw_Z below #[Value.ref b] s) (F0 m pc ls st) := by
  obtain ⟨⟨hx, hb, hml, hown, hts⟩, hX, hbl, hK, hL, hr, hlk⟩ := C
  obtain ⟨hP, hD, hS⟩ := hH
  have hA : ∀ q : Nat, s.heap.size ≤ q → (fun q : Nat => s.heap.size ≤ q) q := fun _ h => h
  have hMet := zs_met hY (As := .inr 0 :: As) (by simpa using hnl) hM l dC dI cA am H.size
  rw [hret, zs_w_r] at hMet
  obtain ⟨⟨ws', hw⟩, ho, hy, hdc, hrc, hrs⟩ := hY
  have hPc := hP.sub (ws' := zs_wr cA am w 0 shM) [20, 21, 22, 23, 24, 25, 26, 27, 28, 29, 30, 31, 32, 33, 34, 35] rfl
  have hDc := hD.sub (ws' := zs_wr cA am w 0 shM) [20, 21, 22, 23, 24, 25, 26, 27, 28, 29, 30, 31, 32, 33, 34, 35] (by decide) rfl
  have hFc := va_free (wc := zs_wr cA am w 0 shM) hD hS hA [20, 21, 22, 23, 24, 25, 26, 27, 28, 29, 30, 31, 32, 33, 34, 35] rfl
  refine va_calli (va_runV (As := As.map (zs_v am)) (rest := rest) (b := am 0) ⟨hx, hb, hml, hown, hts⟩ hMet (cwV np hts hG hw hrc hrs ⟨hC, hdc⟩ hR) ⟨zs_blind, va_recv hK hPc (ci := 5) (q0 := 0) rfl rfl, fun U hU hW => ⟨rfl, by rw [hU], by rw [hU, zs_w_r]; exact hPc, va_K.moved hW.alike hK, by rw [zs_w_r]; exact hDc.weaken (fun _ _ _ _ => trivial)⟩⟩ rfl (by simpa using hnp) hl.1 hst (lv_room hlen) hd ⟨Nat.le_refl _, Nat.le_refl _⟩) hS (fun q _ h => hFc q h) hFc (fun r u t H1 locs1 ht hvm hw1 hB hz1 hk1 hS1 => ?_)
  obtain ⟨x, rfl, hx1⟩ := hw1
  obtain ⟨hP1, hK1, hD1⟩ := hB
  rw [ht] at hP1
  rw [zs_w_r] at hP1 hD1
  obtain ⟨hP, hD⟩ := va_join (wr := zs_wr cA ax v 0 shX) (w1 := zs_wr cA am u 0 shM) hP hD [20, 21, 22, 23, 24, 25, 26, 27, 28, 29, 30, 31, 32, 33, 34, 35] [0, 1, 2, 3, 4, 5, 6, 7, 8, 9, 10, 11, 12, 13, 14, 15, 16, 17, 18, 19] rfl rfl (by decide) (by decide) hk1 hFc hP1 hD1
  exact kk x u H1 locs1 hx1 ⟨hP, hD, hS1⟩
end ZL

def zl_G (p : Program) (l : Launch) (e : Env) (s : State) (m : MethodId) (below : List Frame) (meth : Method) (c : Code) (dC : Nat → ClassId) (dI : Nat → Nat → Nat) (cA : ClassId) (b : Nat) (d i : Int) (pc : Nat) : Prop := ∀ (ax am : Nat → Nat) (v w : zs_V) (H : Heap) (locs : List Loc) (ls : Array Slot), RR d v w → zl_H s dC dI cA ax am v w H locs → zl_L ax am b i ls → W p l e room_1 s m #[Value.ref b] below meth c H locs 36 9103 (lw_Z below #[Value.ref b] s) (F0 m pc ls [])
set_option maxRecDepth 100000 in
theorem zl_state {p : Program} {l : Launch} {e : Env} {s : State} {m : MethodId} {below : List Frame} {meth : Method} {c : Code} {dC : Nat → ClassId} {dI : Nat → Nat → Nat} {cA : ClassId} {b L : Nat} {xs : Nat → Int32} (C : zl_C p s m meth c dC dI cA b L xs) {d i : Int} (hd : d ≤ 900000) (hi : 0 ≤ i) (hi5 : i + 5 ≤ L) (G : zl_G p l e s m below meth c dC dI cA b (d + 200) i 833) : zl_G p l e s m below meth c dC dI cA b d i 124 := by
  intro ax am v w H locs ls hRR hH hl
  obtain ⟨⟨hx, hb, hml, hown, hts⟩, hX, hbl, hK, hL, hr, hlk⟩ := id C
  refine lv_aload_n hx hb dL_law_124 rfl (lv_at hl 1 rfl) ?_
  refine zl_arg C hH hl 1 (by omega) (by omega) dL_law_125 dL_law_126 dL_law_127 dL_law_128 dL_law_129 ?_
  refine zl_arg C hH hl 2 (by omega) (by omega) dL_law_130 dL_law_131 dL_law_132 dL_law_133 dL_law_134 ?_
  refine zl_arg C hH hl 3 (by omega) (by omega) dL_law_135 dL_law_136 dL_law_137 dL_law_138 dL_law_139 ?_
  refine zl_arg C hH hl 4 (by omega) (by omega) dL_law_140 dL_law_141 dL_law_142 dL_law_143 dL_law_144 ?_
  refine zl_callX (As := [.inl (z_y xs (i + 1)), .inl (z_y xs (i + 2)), .inl (z_y xs (i + 3)), .inl (z_y xs (i + 4))]) (rest := []) C hH hl dL_law_145 YX4_state rfl rfl (Nat.le_of_ble_eq_true rfl) gL_law_X4_state (by decide) rfl (s_state hRR hd (z_y xs (i + 1)) (z_y xs (i + 2)) (z_y xs (i + 3)) (z_y xs (i + 4)) (z_yn xs (i + 1)) (z_yn xs (i + 2)) (z_yn xs (i + 3)) (z_yn xs (i + 4))) rfl (Nat.le_of_ble_eq_true rfl) (fun r v' H locs hp hH => ?_)
  refine lv_aload_n hx hb dL_law_148 rfl (lv_at hl 2 rfl) ?_
  refine zl_arg C hH hl 1 (by omega) (by omega) dL_law_149 dL_law_150 dL_law_151 dL_law_152 dL_law_153 ?_
  refine zl_arg C hH hl 2 (by omega) (by omega) dL_law_154 dL_law_155 dL_law_156 dL_law_157 dL_law_158 ?_
  refine zl_arg C hH hl 3 (by omega) (by omega) dL_law_159 dL_law_160 dL_law_161 dL_law_162 dL_law_163 ?_
  refine zl_arg C hH hl 4 (by omega) (by omega) dL_law_164 dL_law_165 dL_law_166 dL_law_167 dL_law_168 ?_
  refine zl_callM (As := [.inl (z_y xs (i + 1)), .inl (z_y xs (i + 2)), .inl (z_y xs (i + 3)), .inl (z_y xs (i + 4))]) (rest := [.int (zI r)]) C hH hl dL_law_169 YX5_state rfl rfl (Nat.le_of_ble_eq_true rfl) gL_law_X5_state (by decide) rfl (u_state hRR hd (z_y xs (i + 1)) (z_y xs (i + 2)) (z_y xs (i + 3)) (z_y xs (i + 4)) (z_yn xs (i + 1)) (z_yn xs (i + 2)) (z_yn xs (i + 3)) (z_yn xs (i + 4))) rfl (Nat.le_of_ble_eq_true rfl) (fun r2 w' H2 locs2 hp2 hH2 => ?_)
  obtain ⟨e1, h1⟩ := hp
  obtain ⟨e2, e3⟩ := hp2
  rw [e3] at hH2
  refine lv_icmp_eq (tgt := 833) hx hb dL_law_172 (by decide) (fun _ => ?_) (fun hne => absurd (by rw [e1, e2]) hne)
  exact G ax am v' _ H2 locs2 ls h1 hH2 hl
set_option maxRecDepth 100000 in
theorem zl_put {p : Program} {l : Launch} {e : Env} {s : State} {m : MethodId} {below : List Frame} {meth : Method} {c : Code} {dC : Nat → ClassId} {dI : Nat → Nat → Nat} {cA : ClassId} {b L : Nat} {xs : Nat → Int32} (C : zl_C p s m meth c dC dI cA b L xs) {d i : Int} (hd : d ≤ 900000) (hi : 0 ≤ i) (hi5 : i + 5 ≤ L) (G : zl_G p l e s m below meth c dC dI cA b (d + 200) i 833) : zl_G p l e s m below meth c dC dI cA b d i 177 := by
  intro ax am v w H locs ls hRR hH hl
  obtain ⟨⟨hx, hb, hml, hown, hts⟩, hX, hbl, hK, hL, hr, hlk⟩ := id C
  refine lv_aload_n hx hb dL_law_177 rfl (lv_at hl 1 rfl) ?_
  refine zl_arg C hH hl 1 (by omega) (by omega) dL_law_178 dL_law_179 dL_law_180 dL_law_181 dL_law_182 ?_
  refine zl_arg C hH hl 2 (by omega) (by omega) dL_law_183 dL_law_184 dL_law_185 dL_law_186 dL_law_187 ?_
  refine zl_arg C hH hl 3 (by omega) (by omega) dL_law_188 dL_law_189 dL_law_190 dL_law_191 dL_law_192 ?_
  refine zl_arg C hH hl 4 (by omega) (by omega) dL_law_193 dL_law_194 dL_law_195 dL_law_196 dL_law_197 ?_
  refine zl_callX (As := [.inl (z_y xs (i + 1)), .inl (z_y xs (i + 2)), .inl (z_y xs (i + 3)), .inl (z_y xs (i + 4))]) (rest := []) C hH hl dL_law_198 YX4_put rfl rfl (Nat.le_of_ble_eq_true rfl) gL_law_X4_put (by decide) rfl (s_put hRR hd (z_y xs (i + 1)) (z_y xs (i + 2)) (z_y xs (i + 3)) (z_y xs (i + 4)) (z_yn xs (i + 1)) (z_yn xs (i + 2)) (z_yn xs (i + 3)) (z_yn xs (i + 4))) rfl (Nat.le_of_ble_eq_true rfl) (fun r v' H locs hp hH => ?_)
  refine lv_aload_n hx hb dL_law_201 rfl (lv_at hl 2 rfl) ?_
  refine zl_arg C hH hl 1 (by omega) (by omega) dL_law_202 dL_law_203 dL_law_204 dL_law_205 dL_law_206 ?_
  refine zl_arg C hH hl 2 (by omega) (by omega) dL_law_207 dL_law_208 dL_law_209 dL_law_210 dL_law_211 ?_
  refine zl_arg C hH hl 3 (by omega) (by omega) dL_law_212 dL_law_213 dL_law_214 dL_law_215 dL_law_216 ?_
  refine zl_arg C hH hl 4 (by omega) (by omega) dL_law_217 dL_law_218 dL_law_219 dL_law_220 dL_law_221 ?_
  refine zl_callM (As := [.inl (z_y xs (i + 1)), .inl (z_y xs (i + 2)), .inl (z_y xs (i + 3)), .inl (z_y xs (i + 4))]) (rest := [.int (zI r)]) C hH hl dL_law_222 YX5_put rfl rfl (Nat.le_of_ble_eq_true rfl) gL_law_X5_put (by decide) rfl (u_put hRR hd (z_y xs (i + 1)) (z_y xs (i + 2)) (z_y xs (i + 3)) (z_y xs (i + 4)) (z_yn xs (i + 1)) (z_yn xs (i + 2)) (z_yn xs (i + 3)) (z_yn xs (i + 4))) rfl (Nat.le_of_ble_eq_true rfl) (fun r2 w' H2 locs2 hp2 hH2 => ?_)
  obtain ⟨e1, h1⟩ := hp
  obtain ⟨e2, e3⟩ := hp2
  rw [e3] at hH2
  refine lv_icmp_eq (tgt := 833) hx hb dL_law_225 (by decide) (fun _ => ?_) (fun hne => absurd (by rw [e1, e2]) hne)
  exact G ax am v' _ H2 locs2 ls h1 hH2 hl
set_option maxRecDepth 100000 in
theorem zl_get {p : Program} {l : Launch} {e : Env} {s : State} {m : MethodId} {below : List Frame} {meth : Method} {c : Code} {dC : Nat → ClassId} {dI : Nat → Nat → Nat} {cA : ClassId} {b L : Nat} {xs : Nat → Int32} (C : zl_C p s m meth c dC dI cA b L xs) {d i : Int} (hd : d ≤ 900000) (hi : 0 ≤ i) (hi5 : i + 5 ≤ L) (G : zl_G p l e s m below meth c dC dI cA b (d + 200) i 833) : zl_G p l e s m below meth c dC dI cA b d i 230 := by
  intro ax am v w H locs ls hRR hH hl
  obtain ⟨⟨hx, hb, hml, hown, hts⟩, hX, hbl, hK, hL, hr, hlk⟩ := id C
  refine lv_aload_n hx hb dL_law_230 rfl (lv_at hl 1 rfl) ?_
  refine zl_arg C hH hl 1 (by omega) (by omega) dL_law_231 dL_law_232 dL_law_233 dL_law_234 dL_law_235 ?_
  refine zl_arg C hH hl 2 (by omega) (by omega) dL_law_236 dL_law_237 dL_law_238 dL_law_239 dL_law_240 ?_
  refine zl_arg C hH hl 3 (by omega) (by omega) dL_law_241 dL_law_242 dL_law_243 dL_law_244 dL_law_245 ?_
  refine zl_callX (As := [.inl (z_y xs (i + 1)), .inl (z_y xs (i + 2)), .inl (z_y xs (i + 3))]) (rest := []) C hH hl dL_law_246 YX4_get rfl rfl (Nat.le_of_ble_eq_true rfl) gL_law_X4_get (by decide) rfl (s_get hRR hd (z_y xs (i + 1)) (z_y xs (i + 2)) (z_y xs (i + 3)) (z_yn xs (i + 1)) (z_yn xs (i + 2)) (z_yn xs (i + 3))) rfl (Nat.le_of_ble_eq_true rfl) (fun r v' H locs hp hH => ?_)
  refine lv_aload_n hx hb dL_law_249 rfl (lv_at hl 2 rfl) ?_
  refine zl_arg C hH hl 1 (by omega) (by omega) dL_law_250 dL_law_251 dL_law_252 dL_law_253 dL_law_254 ?_
  refine zl_arg C hH hl 2 (by omega) (by omega) dL_law_255 dL_law_256 dL_law_257 dL_law_258 dL_law_259 ?_
  refine zl_arg C hH hl 3 (by omega) (by omega) dL_law_260 dL_law_261 dL_law_262 dL_law_263 dL_law_264 ?_
  refine zl_callM (As := [.inl (z_y xs (i + 1)), .inl (z_y xs (i + 2)), .inl (z_y xs (i + 3))]) (rest := [.int (zI r)]) C hH hl dL_law_265 YX5_get rfl rfl (Nat.le_of_ble_eq_true rfl) gL_law_X5_get (by decide) rfl (u_get hRR hd (z_y xs (i + 1)) (z_y xs (i + 2)) (z_y xs (i + 3)) (z_yn xs (i + 1)) (z_yn xs (i + 2)) (z_yn xs (i + 3))) rfl (Nat.le_of_ble_eq_true rfl) (fun r2 w' H2 locs2 hp2 hH2 => ?_)
  obtain ⟨e1, h1⟩ := hp
  obtain ⟨e2, e3⟩ := hp2
  rw [e3] at hH2
  refine lv_icmp_eq (tgt := 833) hx hb dL_law_268 (by decide) (fun _ => ?_) (fun hne => absurd (by rw [e1, e2]) hne)
  exact G ax am v' _ H2 locs2 ls h1 hH2 hl
set_option maxRecDepth 100000 in
theorem zl_remove {p : Program} {l : Launch} {e : Env} {s : State} {m : MethodId} {below : List Frame} {meth : Method} {c : Code} {dC : Nat → ClassId} {dI : Nat → Nat → Nat} {cA : ClassId} {b L : Nat} {xs : Nat → Int32} (C : zl_C p s m meth c dC dI cA b L xs) {d i : Int} (hd : d ≤ 900000) (hi : 0 ≤ i) (hi5 : i + 5 ≤ L) (G : zl_G p l e s m below meth c dC dI cA b (d + 200) i 833) : zl_G p l e s m below meth c dC dI cA b d i 273 := by
  intro ax am v w H locs ls hRR hH hl
  obtain ⟨⟨hx, hb, hml, hown, hts⟩, hX, hbl, hK, hL, hr, hlk⟩ := id C
  refine lv_aload_n hx hb dL_law_273 rfl (lv_at hl 1 rfl) ?_
  refine zl_arg C hH hl 1 (by omega) (by omega) dL_law_274 dL_law_275 dL_law_276 dL_law_277 dL_law_278 ?_
  refine zl_arg C hH hl 2 (by omega) (by omega) dL_law_279 dL_law_280 dL_law_281 dL_law_282 dL_law_283 ?_
  refine zl_arg C hH hl 3 (by omega) (by omega) dL_law_284 dL_law_285 dL_law_286 dL_law_287 dL_law_288 ?_
  refine zl_callX (As := [.inl (z_y xs (i + 1)), .inl (z_y xs (i + 2)), .inl (z_y xs (i + 3))]) (rest := []) C hH hl dL_law_289 YX4_remove rfl rfl (Nat.le_of_ble_eq_true rfl) gL_law_X4_remove (by decide) rfl (s_remove hRR hd (z_y xs (i + 1)) (z_y xs (i + 2)) (z_y xs (i + 3)) (z_yn xs (i + 1)) (z_yn xs (i + 2)) (z_yn xs (i + 3))) rfl (Nat.le_of_ble_eq_true rfl) (fun r v' H locs hp hH => ?_)
  refine lv_aload_n hx hb dL_law_292 rfl (lv_at hl 2 rfl) ?_
  refine zl_arg C hH hl 1 (by omega) (by omega) dL_law_293 dL_law_294 dL_law_295 dL_law_296 dL_law_297 ?_
  refine zl_arg C hH hl 2 (by omega) (by omega) dL_law_298 dL_law_299 dL_law_300 dL_law_301 dL_law_302 ?_
  refine zl_arg C hH hl 3 (by omega) (by omega) dL_law_303 dL_law_304 dL_law_305 dL_law_306 dL_law_307 ?_
  refine zl_callM (As := [.inl (z_y xs (i + 1)), .inl (z_y xs (i + 2)), .inl (z_y xs (i + 3))]) (rest := [.int (zI r)]) C hH hl dL_law_308 YX5_remove rfl rfl (Nat.le_of_ble_eq_true rfl) gL_law_X5_remove (by decide) rfl (u_remove hRR hd (z_y xs (i + 1)) (z_y xs (i + 2)) (z_y xs (i + 3)) (z_yn xs (i + 1)) (z_yn xs (i + 2)) (z_yn xs (i + 3))) rfl (Nat.le_of_ble_eq_true rfl) (fun r2 w' H2 locs2 hp2 hH2 => ?_)
  obtain ⟨e1, h1⟩ := hp
  obtain ⟨e2, e3⟩ := hp2
  rw [e3] at hH2
  refine lv_icmp_eq (tgt := 833) hx hb dL_law_311 (by decide) (fun _ => ?_) (fun hne => absurd (by rw [e1, e2]) hne)
  exact G ax am v' _ H2 locs2 ls h1 hH2 hl
set_option maxRecDepth 100000 in
theorem zl_add {p : Program} {l : Launch} {e : Env} {s : State} {m : MethodId} {below : List Frame} {meth : Method} {c : Code} {dC : Nat → ClassId} {dI : Nat → Nat → Nat} {cA : ClassId} {b L : Nat} {xs : Nat → Int32} (C : zl_C p s m meth c dC dI cA b L xs) {d i : Int} (hd : d ≤ 900000) (hi : 0 ≤ i) (hi5 : i + 5 ≤ L) (G : zl_G p l e s m below meth c dC dI cA b (d + 200) i 833) : zl_G p l e s m below meth c dC dI cA b d i 316 := by
  intro ax am v w H locs ls hRR hH hl
  obtain ⟨⟨hx, hb, hml, hown, hts⟩, hX, hbl, hK, hL, hr, hlk⟩ := id C
  refine lv_aload_n hx hb dL_law_316 rfl (lv_at hl 1 rfl) ?_
  refine zl_arg C hH hl 1 (by omega) (by omega) dL_law_317 dL_law_318 dL_law_319 dL_law_320 dL_law_321 ?_
  refine zl_arg C hH hl 2 (by omega) (by omega) dL_law_322 dL_law_323 dL_law_324 dL_law_325 dL_law_326 ?_
  refine zl_arg C hH hl 3 (by omega) (by omega) dL_law_327 dL_law_328 dL_law_329 dL_law_330 dL_law_331 ?_
  refine zl_callX (As := [.inl (z_y xs (i + 1)), .inl (z_y xs (i + 2)), .inl (z_y xs (i + 3))]) (rest := []) C hH hl dL_law_332 YX4_add rfl rfl (Nat.le_of_ble_eq_true rfl) gL_law_X4_add (by decide) rfl (s_add hRR hd (z_y xs (i + 1)) (z_y xs (i + 2)) (z_y xs (i + 3)) (z_yn xs (i + 1)) (z_yn xs (i + 2)) (z_yn xs (i + 3))) rfl (Nat.le_of_ble_eq_true rfl) (fun r v' H locs hp hH => ?_)
  refine lv_aload_n hx hb dL_law_335 rfl (lv_at hl 2 rfl) ?_
  refine zl_arg C hH hl 1 (by omega) (by omega) dL_law_336 dL_law_337 dL_law_338 dL_law_339 dL_law_340 ?_
  refine zl_arg C hH hl 2 (by omega) (by omega) dL_law_341 dL_law_342 dL_law_343 dL_law_344 dL_law_345 ?_
  refine zl_arg C hH hl 3 (by omega) (by omega) dL_law_346 dL_law_347 dL_law_348 dL_law_349 dL_law_350 ?_
  refine zl_callM (As := [.inl (z_y xs (i + 1)), .inl (z_y xs (i + 2)), .inl (z_y xs (i + 3))]) (rest := [.int (zI r)]) C hH hl dL_law_351 YX5_add rfl rfl (Nat.le_of_ble_eq_true rfl) gL_law_X5_add (by decide) rfl (u_add hRR hd (z_y xs (i + 1)) (z_y xs (i + 2)) (z_y xs (i + 3)) (z_yn xs (i + 1)) (z_yn xs (i + 2)) (z_yn xs (i + 3))) rfl (Nat.le_of_ble_eq_true rfl) (fun r2 w' H2 locs2 hp2 hH2 => ?_)
  obtain ⟨e1, h1⟩ := hp
  obtain ⟨e2, e3⟩ := hp2
  rw [e3] at hH2
  refine lv_icmp_eq (tgt := 833) hx hb dL_law_354 (by decide) (fun _ => ?_) (fun hne => absurd (by rw [e1, e2]) hne)
  exact G ax am v' _ H2 locs2 ls h1 hH2 hl
set_option maxRecDepth 100000 in
theorem zl_at {p : Program} {l : Launch} {e : Env} {s : State} {m : MethodId} {below : List Frame} {meth : Method} {c : Code} {dC : Nat → ClassId} {dI : Nat → Nat → Nat} {cA : ClassId} {b L : Nat} {xs : Nat → Int32} (C : zl_C p s m meth c dC dI cA b L xs) {d i : Int} (hd : d ≤ 900000) (hi : 0 ≤ i) (hi5 : i + 5 ≤ L) (G : zl_G p l e s m below meth c dC dI cA b (d + 200) i 833) : zl_G p l e s m below meth c dC dI cA b d i 359 := by
  intro ax am v w H locs ls hRR hH hl
  obtain ⟨⟨hx, hb, hml, hown, hts⟩, hX, hbl, hK, hL, hr, hlk⟩ := id C
  refine lv_aload_n hx hb dL_law_359 rfl (lv_at hl 1 rfl) ?_
  refine zl_arg C hH hl 1 (by omega) (by omega) dL_law_360 dL_law_361 dL_law_362 dL_law_363 dL_law_364 ?_
  refine zl_arg C hH hl 2 (by omega) (by omega) dL_law_365 dL_law_366 dL_law_367 dL_law_368 dL_law_369 ?_
  refine zl_arg C hH hl 3 (by omega) (by omega) dL_law_370 dL_law_371 dL_law_372 dL_law_373 dL_law_374 ?_
  refine zl_callX (As := [.inl (z_y xs (i + 1)), .inl (z_y xs (i + 2)), .inl (z_y xs (i + 3))]) (rest := []) C hH hl dL_law_375 YX4_at rfl rfl (Nat.le_of_ble_eq_true rfl) gL_law_X4_at (by decide) rfl (s_at hRR hd (z_y xs (i + 1)) (z_y xs (i + 2)) (z_y xs (i + 3)) (z_yn xs (i + 1)) (z_yn xs (i + 2)) (z_yn xs (i + 3))) rfl (Nat.le_of_ble_eq_true rfl) (fun r v' H locs hp hH => ?_)
  refine lv_aload_n hx hb dL_law_378 rfl (lv_at hl 2 rfl) ?_
  refine zl_arg C hH hl 1 (by omega) (by omega) dL_law_379 dL_law_380 dL_law_381 dL_law_382 dL_law_383 ?_
  refine zl_arg C hH hl 2 (by omega) (by omega) dL_law_384 dL_law_385 dL_law_386 dL_law_387 dL_law_388 ?_
  refine zl_arg C hH hl 3 (by omega) (by omega) dL_law_389 dL_law_390 dL_law_391 dL_law_392 dL_law_393 ?_
  refine zl_callM (As := [.inl (z_y xs (i + 1)), .inl (z_y xs (i + 2)), .inl (z_y xs (i + 3))]) (rest := [.int (zI r)]) C hH hl dL_law_394 YX5_at rfl rfl (Nat.le_of_ble_eq_true rfl) gL_law_X5_at (by decide) rfl (u_at hRR hd (z_y xs (i + 1)) (z_y xs (i + 2)) (z_y xs (i + 3)) (z_yn xs (i + 1)) (z_yn xs (i + 2)) (z_yn xs (i + 3))) rfl (Nat.le_of_ble_eq_true rfl) (fun r2 w' H2 locs2 hp2 hH2 => ?_)
  obtain ⟨e1, h1⟩ := hp
  obtain ⟨e2, e3⟩ := hp2
  rw [e3] at hH2
  refine lv_icmp_eq (tgt := 833) hx hb dL_law_397 (by decide) (fun _ => ?_) (fun hne => absurd (by rw [e1, e2]) hne)
  exact G ax am v' _ H2 locs2 ls h1 hH2 hl
set_option maxRecDepth 100000 in
theorem zl_clear {p : Program} {l : Launch} {e : Env} {s : State} {m : MethodId} {below : List Frame} {meth : Method} {c : Code} {dC : Nat → ClassId} {dI : Nat → Nat → Nat} {cA : ClassId} {b L : Nat} {xs : Nat → Int32} (C : zl_C p s m meth c dC dI cA b L xs) {d i : Int} (hd : d ≤ 900000) (hi : 0 ≤ i) (hi5 : i + 5 ≤ L) (G : zl_G p l e s m below meth c dC dI cA b (d + 200) i 833) : zl_G p l e s m below meth c dC dI cA b d i 402 := by
  intro ax am v w H locs ls hRR hH hl
  obtain ⟨⟨hx, hb, hml, hown, hts⟩, hX, hbl, hK, hL, hr, hlk⟩ := id C
  refine lv_aload_n hx hb dL_law_402 rfl (lv_at hl 1 rfl) ?_
  refine zl_arg C hH hl 1 (by omega) (by omega) dL_law_403 dL_law_404 dL_law_405 dL_law_406 dL_law_407 ?_
  refine zl_arg C hH hl 2 (by omega) (by omega) dL_law_408 dL_law_409 dL_law_410 dL_law_411 dL_law_412 ?_
  refine zl_callX (As := [.inl (z_y xs (i + 1)), .inl (z_y xs (i + 2))]) (rest := []) C hH hl dL_law_413 YX4_clear rfl rfl (Nat.le_of_ble_eq_true rfl) gL_law_X4_clear (by decide) rfl (s_clear hRR hd (z_y xs (i + 1)) (z_y xs (i + 2)) (z_yn xs (i + 1)) (z_yn xs (i + 2))) rfl (Nat.le_of_ble_eq_true rfl) (fun r v' H locs hp hH => ?_)
  refine lv_aload_n hx hb dL_law_416 rfl (lv_at hl 2 rfl) ?_
  refine zl_arg C hH hl 1 (by omega) (by omega) dL_law_417 dL_law_418 dL_law_419 dL_law_420 dL_law_421 ?_
  refine zl_arg C hH hl 2 (by omega) (by omega) dL_law_422 dL_law_423 dL_law_424 dL_law_425 dL_law_426 ?_
  refine zl_callM (As := [.inl (z_y xs (i + 1)), .inl (z_y xs (i + 2))]) (rest := [.int (zI r)]) C hH hl dL_law_427 YX5_clear rfl rfl (Nat.le_of_ble_eq_true rfl) gL_law_X5_clear (by decide) rfl (u_clear hRR hd (z_y xs (i + 1)) (z_y xs (i + 2)) (z_yn xs (i + 1)) (z_yn xs (i + 2))) rfl (Nat.le_of_ble_eq_true rfl) (fun r2 w' H2 locs2 hp2 hH2 => ?_)
  obtain ⟨e1, h1⟩ := hp
  obtain ⟨e2, e3⟩ := hp2
  rw [e3] at hH2
  refine lv_icmp_eq (tgt := 833) hx hb dL_law_430 (by decide) (fun _ => ?_) (fun hne => absurd (by rw [e1, e2]) hne)
  exact G ax am v' _ H2 locs2 ls h1 hH2 hl
set_option maxRecDepth 100000 in
theorem zl_held {p : Program} {l : Launch} {e : Env} {s : State} {m : MethodId} {below : List Frame} {meth : Method} {c : Code} {dC : Nat → ClassId} {dI : Nat → Nat → Nat} {cA : ClassId} {b L : Nat} {xs : Nat → Int32} (C : zl_C p s m meth c dC dI cA b L xs) {d i : Int} (hd : d ≤ 900000) (hi : 0 ≤ i) (hi5 : i + 5 ≤ L) (G : zl_G p l e s m below meth c dC dI cA b (d + 200) i 833) : zl_G p l e s m below meth c dC dI cA b d i 435 := by
  intro ax am v w H locs ls hRR hH hl
  obtain ⟨⟨hx, hb, hml, hown, hts⟩, hX, hbl, hK, hL, hr, hlk⟩ := id C
  refine lv_aload_n hx hb dL_law_435 rfl (lv_at hl 1 rfl) ?_
  refine zl_arg C hH hl 1 (by omega) (by omega) dL_law_436 dL_law_437 dL_law_438 dL_law_439 dL_law_440 ?_
  refine zl_arg C hH hl 2 (by omega) (by omega) dL_law_441 dL_law_442 dL_law_443 dL_law_444 dL_law_445 ?_
  refine zl_arg C hH hl 3 (by omega) (by omega) dL_law_446 dL_law_447 dL_law_448 dL_law_449 dL_law_450 ?_
  refine lv_if_eq (tgt := 458) hx hb dL_law_451 (by decide) (fun hb0 => ?_) (fun hb0 => ?_)
  · refine lv_iconst (v := zI 0) hx hb dL_law_458 rfl ?_
    refine zl_callX (As := [.inl (z_y xs (i + 1)), .inl (z_y xs (i + 2)), .inl (0)]) (rest := []) C hH hl dL_law_459 YX4_held rfl rfl (Nat.le_of_ble_eq_true rfl) gL_law_X4_held (by decide) rfl (s_held hRR hd (z_y xs (i + 1)) (z_y xs (i + 2)) (0) (z_yn xs (i + 1)) (z_yn xs (i + 2)) (by omega) (by omega)) rfl (Nat.le_of_ble_eq_true rfl) (fun r v' H locs hp hH => ?_)
    refine lv_aload_n hx hb dL_law_462 rfl (lv_at hl 2 rfl) ?_
    refine zl_arg C hH hl 1 (by omega) (by omega) dL_law_463 dL_law_464 dL_law_465 dL_law_466 dL_law_467 ?_
    refine zl_arg C hH hl 2 (by omega) (by omega) dL_law_468 dL_law_469 dL_law_470 dL_law_471 dL_law_472 ?_
    refine zl_arg C hH hl 3 (by omega) (by omega) dL_law_473 dL_law_474 dL_law_475 dL_law_476 dL_law_477 ?_
    refine lv_if_eq (tgt := 485) hx hb dL_law_478 (by decide) (fun _ => ?_) (fun hb1 => absurd hb0 hb1)
    refine lv_iconst (v := zI 0) hx hb dL_law_485 rfl ?_
    refine zl_callM (As := [.inl (z_y xs (i + 1)), .inl (z_y xs (i + 2)), .inl (0)]) (rest := [.int (zI r)]) C hH hl dL_law_486 YX5_held rfl rfl (Nat.le_of_ble_eq_true rfl) gL_law_X5_held (by decide) rfl (u_held hRR hd (z_y xs (i + 1)) (z_y xs (i + 2)) (0) (z_yn xs (i + 1)) (z_yn xs (i + 2)) (by omega) (by omega)) rfl (Nat.le_of_ble_eq_true rfl) (fun r2 w' H2 locs2 hp2 hH2 => ?_)
    obtain ⟨e1, h1⟩ := hp
    obtain ⟨e2, e3⟩ := hp2
    rw [e3] at hH2
    refine lv_icmp_eq (tgt := 833) hx hb dL_law_489 (by decide) (fun _ => ?_) (fun hne => absurd (by rw [e1, e2]) hne)
    exact G ax am v' _ H2 locs2 ls h1 hH2 hl
  · refine lv_iconst (v := zI 1) hx hb dL_law_454 rfl ?_
    refine lv_goto (tgt := 459) hx hb dL_law_455 (by decide) ?_
    refine zl_callX (As := [.inl (z_y xs (i + 1)), .inl (z_y xs (i + 2)), .inl (1)]) (rest := []) C hH hl dL_law_459 YX4_held rfl rfl (Nat.le_of_ble_eq_true rfl) gL_law_X4_held (by decide) rfl (s_held hRR hd (z_y xs (i + 1)) (z_y xs (i + 2)) (1) (z_yn xs (i + 1)) (z_yn xs (i + 2)) (by omega) (by omega)) rfl (Nat.le_of_ble_eq_true rfl) (fun r v' H locs hp hH => ?_)
    refine lv_aload_n hx hb dL_law_462 rfl (lv_at hl 2 rfl) ?_
    refine zl_arg C hH hl 1 (by omega) (by omega) dL_law_463 dL_law_464 dL_law_465 dL_law_466 dL_law_467 ?_
    refine zl_arg C hH hl 2 (by omega) (by omega) dL_law_468 dL_law_469 dL_law_470 dL_law_471 dL_law_472 ?_
    refine zl_arg C hH hl 3 (by omega) (by omega) dL_law_473 dL_law_474 dL_law_475 dL_law_476 dL_law_477 ?_
    refine lv_if_eq (tgt := 485) hx hb dL_law_478 (by decide) (fun hb1 => absurd hb1 hb0) (fun _ => ?_)
    refine lv_iconst (v := zI 1) hx hb dL_law_481 rfl ?_
    refine lv_goto (tgt := 486) hx hb dL_law_482 (by decide) ?_
    refine zl_callM (As := [.inl (z_y xs (i + 1)), .inl (z_y xs (i + 2)), .inl (1)]) (rest := [.int (zI r)]) C hH hl dL_law_486 YX5_held rfl rfl (Nat.le_of_ble_eq_true rfl) gL_law_X5_held (by decide) rfl (u_held hRR hd (z_y xs (i + 1)) (z_y xs (i + 2)) (1) (z_yn xs (i + 1)) (z_yn xs (i + 2)) (by omega) (by omega)) rfl (Nat.le_of_ble_eq_true rfl) (fun r2 w' H2 locs2 hp2 hH2 => ?_)
    obtain ⟨e1, h1⟩ := hp
    obtain ⟨e2, e3⟩ := hp2
    rw [e3] at hH2
    refine lv_icmp_eq (tgt := 833) hx hb dL_law_489 (by decide) (fun _ => ?_) (fun hne => absurd (by rw [e1, e2]) hne)
    exact G ax am v' _ H2 locs2 ls h1 hH2 hl
set_option maxRecDepth 100000 in
theorem zl_left {p : Program} {l : Launch} {e : Env} {s : State} {m : MethodId} {below : List Frame} {meth : Method} {c : Code} {dC : Nat → ClassId} {dI : Nat → Nat → Nat} {cA : ClassId} {b L : Nat} {xs : Nat → Int32} (C : zl_C p s m meth c dC dI cA b L xs) {d i : Int} (hd : d ≤ 900000) (hi : 0 ≤ i) (hi5 : i + 5 ≤ L) (G : zl_G p l e s m below meth c dC dI cA b (d + 200) i 833) : zl_G p l e s m below meth c dC dI cA b d i 494 := by
  intro ax am v w H locs ls hRR hH hl
  obtain ⟨⟨hx, hb, hml, hown, hts⟩, hX, hbl, hK, hL, hr, hlk⟩ := id C
  refine lv_aload_n hx hb dL_law_494 rfl (lv_at hl 1 rfl) ?_
  refine zl_arg C hH hl 1 (by omega) (by omega) dL_law_495 dL_law_496 dL_law_497 dL_law_498 dL_law_499 ?_
  refine zl_arg C hH hl 2 (by omega) (by omega) dL_law_500 dL_law_501 dL_law_502 dL_law_503 dL_law_504 ?_
  refine zl_arg C hH hl 3 (by omega) (by omega) dL_law_505 dL_law_506 dL_law_507 dL_law_508 dL_law_509 ?_
  refine zl_callX (As := [.inl (z_y xs (i + 1)), .inl (z_y xs (i + 2)), .inl (z_y xs (i + 3))]) (rest := []) C hH hl dL_law_510 YX4_left rfl rfl (Nat.le_of_ble_eq_true rfl) gL_law_X4_left (by decide) rfl (s_left hRR hd (z_y xs (i + 1)) (z_y xs (i + 2)) (z_y xs (i + 3)) (z_yn xs (i + 1)) (z_yn xs (i + 2)) (z_yn xs (i + 3))) rfl (Nat.le_of_ble_eq_true rfl) (fun r v' H locs hp hH => ?_)
  refine lv_aload_n hx hb dL_law_513 rfl (lv_at hl 2 rfl) ?_
  refine zl_arg C hH hl 1 (by omega) (by omega) dL_law_514 dL_law_515 dL_law_516 dL_law_517 dL_law_518 ?_
  refine zl_arg C hH hl 2 (by omega) (by omega) dL_law_519 dL_law_520 dL_law_521 dL_law_522 dL_law_523 ?_
  refine zl_arg C hH hl 3 (by omega) (by omega) dL_law_524 dL_law_525 dL_law_526 dL_law_527 dL_law_528 ?_
  refine zl_callM (As := [.inl (z_y xs (i + 1)), .inl (z_y xs (i + 2)), .inl (z_y xs (i + 3))]) (rest := [.int (zI r)]) C hH hl dL_law_529 YX5_left rfl rfl (Nat.le_of_ble_eq_true rfl) gL_law_X5_left (by decide) rfl (u_left hRR hd (z_y xs (i + 1)) (z_y xs (i + 2)) (z_y xs (i + 3)) (z_yn xs (i + 1)) (z_yn xs (i + 2)) (z_yn xs (i + 3))) rfl (Nat.le_of_ble_eq_true rfl) (fun r2 w' H2 locs2 hp2 hH2 => ?_)
  obtain ⟨e1, h1⟩ := hp
  obtain ⟨e2, e3⟩ := hp2
  rw [e3] at hH2
  refine lv_icmp_eq (tgt := 833) hx hb dL_law_532 (by decide) (fun _ => ?_) (fun hne => absurd (by rw [e1, e2]) hne)
  exact G ax am v' _ H2 locs2 ls h1 hH2 hl
set_option maxRecDepth 100000 in
theorem zl_tick {p : Program} {l : Launch} {e : Env} {s : State} {m : MethodId} {below : List Frame} {meth : Method} {c : Code} {dC : Nat → ClassId} {dI : Nat → Nat → Nat} {cA : ClassId} {b L : Nat} {xs : Nat → Int32} (C : zl_C p s m meth c dC dI cA b L xs) {d i : Int} (hd : d ≤ 900000) (hi : 0 ≤ i) (hi5 : i + 5 ≤ L) (G : zl_G p l e s m below meth c dC dI cA b (d + 200) i 833) : zl_G p l e s m below meth c dC dI cA b d i 537 := by
  intro ax am v w H locs ls hRR hH hl
  obtain ⟨⟨hx, hb, hml, hown, hts⟩, hX, hbl, hK, hL, hr, hlk⟩ := id C
  refine lv_aload_n hx hb dL_law_537 rfl (lv_at hl 1 rfl) ?_
  refine zl_arg C hH hl 1 (by omega) (by omega) dL_law_538 dL_law_539 dL_law_540 dL_law_541 dL_law_542 ?_
  refine zl_callX (As := [.inl (z_y xs (i + 1))]) (rest := []) C hH hl dL_law_543 YX4_tick rfl rfl (Nat.le_of_ble_eq_true rfl) gL_law_X4_tick (by decide) rfl (s_tick hRR hd (z_y xs (i + 1)) (z_yn xs (i + 1))) rfl (Nat.le_of_ble_eq_true rfl) (fun r v' H locs hp hH => ?_)
  refine lv_aload_n hx hb dL_law_546 rfl (lv_at hl 2 rfl) ?_
  refine zl_arg C hH hl 1 (by omega) (by omega) dL_law_547 dL_law_548 dL_law_549 dL_law_550 dL_law_551 ?_
  refine zl_callM (As := [.inl (z_y xs (i + 1))]) (rest := [.int (zI r)]) C hH hl dL_law_552 YX5_tick rfl rfl (Nat.le_of_ble_eq_true rfl) gL_law_X5_tick (by decide) rfl (u_tick hRR hd (z_y xs (i + 1)) (z_yn xs (i + 1))) rfl (Nat.le_of_ble_eq_true rfl) (fun r2 w' H2 locs2 hp2 hH2 => ?_)
  obtain ⟨e1, h1⟩ := hp
  obtain ⟨e2, e3⟩ := hp2
  rw [e3] at hH2
  refine lv_icmp_eq (tgt := 833) hx hb dL_law_555 (by decide) (fun _ => ?_) (fun hne => absurd (by rw [e1, e2]) hne)
  exact G ax am v' _ H2 locs2 ls h1 hH2 hl
set_option maxRecDepth 100000 in
theorem zl_watermark {p : Program} {l : Launch} {e : Env} {s : State} {m : MethodId} {below : List Frame} {meth : Method} {c : Code} {dC : Nat → ClassId} {dI : Nat → Nat → Nat} {cA : ClassId} {b L : Nat} {xs : Nat → Int32} (C : zl_C p s m meth c dC dI cA b L xs) {d i : Int} (hd : d ≤ 900000) (hi : 0 ≤ i) (hi5 : i + 5 ≤ L) (G : zl_G p l e s m below meth c dC dI cA b (d + 200) i 833) : zl_G p l e s m below meth c dC dI cA b d i 560 := by
  intro ax am v w H locs ls hRR hH hl
  obtain ⟨⟨hx, hb, hml, hown, hts⟩, hX, hbl, hK, hL, hr, hlk⟩ := id C
  refine lv_aload_n hx hb dL_law_560 rfl (lv_at hl 1 rfl) ?_
  refine zl_arg C hH hl 1 (by omega) (by omega) dL_law_561 dL_law_562 dL_law_563 dL_law_564 dL_law_565 ?_
  refine zl_callX (As := [.inl (z_y xs (i + 1))]) (rest := []) C hH hl dL_law_566 YX4_watermark rfl rfl (Nat.le_of_ble_eq_true rfl) gL_law_X4_watermark (by decide) rfl (s_watermark hRR hd (z_y xs (i + 1)) (z_yn xs (i + 1))) rfl (Nat.le_of_ble_eq_true rfl) (fun r v' H locs hp hH => ?_)
  refine lv_aload_n hx hb dL_law_569 rfl (lv_at hl 2 rfl) ?_
  refine zl_arg C hH hl 1 (by omega) (by omega) dL_law_570 dL_law_571 dL_law_572 dL_law_573 dL_law_574 ?_
  refine zl_callM (As := [.inl (z_y xs (i + 1))]) (rest := [.int (zI r)]) C hH hl dL_law_575 YX5_watermark rfl rfl (Nat.le_of_ble_eq_true rfl) gL_law_X5_watermark (by decide) rfl (u_watermark hRR hd (z_y xs (i + 1)) (z_yn xs (i + 1))) rfl (Nat.le_of_ble_eq_true rfl) (fun r2 w' H2 locs2 hp2 hH2 => ?_)
  obtain ⟨e1, h1⟩ := hp
  obtain ⟨e2, e3⟩ := hp2
  rw [e3] at hH2
  refine lv_icmp_eq (tgt := 833) hx hb dL_law_578 (by decide) (fun _ => ?_) (fun hne => absurd (by rw [e1, e2]) hne)
  exact G ax am v' _ H2 locs2 ls h1 hH2 hl
set_option maxRecDepth 100000 in
theorem zl_sweep {p : Program} {l : Launch} {e : Env} {s : State} {m : MethodId} {below : List Frame} {meth : Method} {c : Code} {dC : Nat → ClassId} {dI : Nat → Nat → Nat} {cA : ClassId} {b L : Nat} {xs : Nat → Int32} (C : zl_C p s m meth c dC dI cA b L xs) {d i : Int} (hd : d ≤ 900000) (hi : 0 ≤ i) (hi5 : i + 5 ≤ L) (G : zl_G p l e s m below meth c dC dI cA b (d + 200) i 833) : zl_G p l e s m below meth c dC dI cA b d i 583 := by
  intro ax am v w H locs ls hRR hH hl
  obtain ⟨⟨hx, hb, hml, hown, hts⟩, hX, hbl, hK, hL, hr, hlk⟩ := id C
  refine lv_aload_n hx hb dL_law_583 rfl (lv_at hl 1 rfl) ?_
  refine zl_arg C hH hl 1 (by omega) (by omega) dL_law_584 dL_law_585 dL_law_586 dL_law_587 dL_law_588 ?_
  refine zl_callX (As := [.inl (z_y xs (i + 1))]) (rest := []) C hH hl dL_law_589 YX4_sweep rfl rfl (Nat.le_of_ble_eq_true rfl) gL_law_X4_sweep (by decide) rfl (s_sweep hRR hd (z_y xs (i + 1)) (z_yn xs (i + 1))) rfl (Nat.le_of_ble_eq_true rfl) (fun r v' H locs hp hH => ?_)
  refine lv_aload_n hx hb dL_law_592 rfl (lv_at hl 2 rfl) ?_
  refine zl_arg C hH hl 1 (by omega) (by omega) dL_law_593 dL_law_594 dL_law_595 dL_law_596 dL_law_597 ?_
  refine zl_callM (As := [.inl (z_y xs (i + 1))]) (rest := [.int (zI r)]) C hH hl dL_law_598 YX5_sweep rfl rfl (Nat.le_of_ble_eq_true rfl) gL_law_X5_sweep (by decide) rfl (u_sweep hRR hd (z_y xs (i + 1)) (z_yn xs (i + 1))) rfl (Nat.le_of_ble_eq_true rfl) (fun r2 w' H2 locs2 hp2 hH2 => ?_)
  obtain ⟨e1, h1⟩ := hp
  obtain ⟨e2, e3⟩ := hp2
  rw [e3] at hH2
  refine lv_icmp_eq (tgt := 833) hx hb dL_law_601 (by decide) (fun _ => ?_) (fun hne => absurd (by rw [e1, e2]) hne)
  exact G ax am v' _ H2 locs2 ls h1 hH2 hl
set_option maxRecDepth 100000 in
theorem zl_setting {p : Program} {l : Launch} {e : Env} {s : State} {m : MethodId} {below : List Frame} {meth : Method} {c : Code} {dC : Nat → ClassId} {dI : Nat → Nat → Nat} {cA : ClassId} {b L : Nat} {xs : Nat → Int32} (C : zl_C p s m meth c dC dI cA b L xs) {d i : Int} (hd : d ≤ 900000) (hi : 0 ≤ i) (hi5 : i + 5 ≤ L) (G : zl_G p l e s m below meth c dC dI cA b (d + 200) i 833) : zl_G p l e s m below meth c dC dI cA b d i 606 := by
  intro ax am v w H locs ls hRR hH hl
  obtain ⟨⟨hx, hb, hml, hown, hts⟩, hX, hbl, hK, hL, hr, hlk⟩ := id C
  refine lv_aload_n hx hb dL_law_606 rfl (lv_at hl 1 rfl) ?_
  refine zl_arg C hH hl 1 (by omega) (by omega) dL_law_607 dL_law_608 dL_law_609 dL_law_610 dL_law_611 ?_
  refine zl_arg C hH hl 2 (by omega) (by omega) dL_law_612 dL_law_613 dL_law_614 dL_law_615 dL_law_616 ?_
  refine zl_arg C hH hl 3 (by omega) (by omega) dL_law_617 dL_law_618 dL_law_619 dL_law_620 dL_law_621 ?_
  refine lv_if_eq (tgt := 629) hx hb dL_law_622 (by decide) (fun hb0 => ?_) (fun hb0 => ?_)
  · refine lv_iconst (v := zI 0) hx hb dL_law_629 rfl ?_
    refine zl_callX (As := [.inl (z_y xs (i + 1)), .inl (z_y xs (i + 2)), .inl (0)]) (rest := []) C hH hl dL_law_630 YX4_setting rfl rfl (Nat.le_of_ble_eq_true rfl) gL_law_X4_setting (by decide) rfl (s_setting hRR hd (z_y xs (i + 1)) (z_y xs (i + 2)) (0) (z_yn xs (i + 1)) (z_yn xs (i + 2)) (by omega)) rfl (Nat.le_of_ble_eq_true rfl) (fun r v' H locs hp hH => ?_)
    refine lv_aload_n hx hb dL_law_633 rfl (lv_at hl 2 rfl) ?_
    refine zl_arg C hH hl 1 (by omega) (by omega) dL_law_634 dL_law_635 dL_law_636 dL_law_637 dL_law_638 ?_
    refine zl_arg C hH hl 2 (by omega) (by omega) dL_law_639 dL_law_640 dL_law_641 dL_law_642 dL_law_643 ?_
    refine zl_arg C hH hl 3 (by omega) (by omega) dL_law_644 dL_law_645 dL_law_646 dL_law_647 dL_law_648 ?_
    refine lv_if_eq (tgt := 656) hx hb dL_law_649 (by decide) (fun _ => ?_) (fun hb1 => absurd hb0 hb1)
    refine lv_iconst (v := zI 0) hx hb dL_law_656 rfl ?_
    refine zl_callM (As := [.inl (z_y xs (i + 1)), .inl (z_y xs (i + 2)), .inl (0)]) (rest := [.int (zI r)]) C hH hl dL_law_657 YX5_setting rfl rfl (Nat.le_of_ble_eq_true rfl) gL_law_X5_setting (by decide) rfl (u_setting hRR hd (z_y xs (i + 1)) (z_y xs (i + 2)) (0) (z_yn xs (i + 1)) (z_yn xs (i + 2)) (by omega)) rfl (Nat.le_of_ble_eq_true rfl) (fun r2 w' H2 locs2 hp2 hH2 => ?_)
    obtain ⟨e1, h1⟩ := hp
    obtain ⟨e2, e3⟩ := hp2
    rw [e3] at hH2
    refine lv_icmp_eq (tgt := 833) hx hb dL_law_660 (by decide) (fun _ => ?_) (fun hne => absurd (by rw [e1, e2]) hne)
    exact G ax am v' _ H2 locs2 ls h1 hH2 hl
  · refine lv_iconst (v := zI 1) hx hb dL_law_625 rfl ?_
    refine lv_goto (tgt := 630) hx hb dL_law_626 (by decide) ?_
    refine zl_callX (As := [.inl (z_y xs (i + 1)), .inl (z_y xs (i + 2)), .inl (1)]) (rest := []) C hH hl dL_law_630 YX4_setting rfl rfl (Nat.le_of_ble_eq_true rfl) gL_law_X4_setting (by decide) rfl (s_setting hRR hd (z_y xs (i + 1)) (z_y xs (i + 2)) (1) (z_yn xs (i + 1)) (z_yn xs (i + 2)) (by omega)) rfl (Nat.le_of_ble_eq_true rfl) (fun r v' H locs hp hH => ?_)
    refine lv_aload_n hx hb dL_law_633 rfl (lv_at hl 2 rfl) ?_
    refine zl_arg C hH hl 1 (by omega) (by omega) dL_law_634 dL_law_635 dL_law_636 dL_law_637 dL_law_638 ?_
    refine zl_arg C hH hl 2 (by omega) (by omega) dL_law_639 dL_law_640 dL_law_641 dL_law_642 dL_law_643 ?_
    refine zl_arg C hH hl 3 (by omega) (by omega) dL_law_644 dL_law_645 dL_law_646 dL_law_647 dL_law_648 ?_
    refine lv_if_eq (tgt := 656) hx hb dL_law_649 (by decide) (fun hb1 => absurd hb1 hb0) (fun _ => ?_)
    refine lv_iconst (v := zI 1) hx hb dL_law_652 rfl ?_
    refine lv_goto (tgt := 657) hx hb dL_law_653 (by decide) ?_
    refine zl_callM (As := [.inl (z_y xs (i + 1)), .inl (z_y xs (i + 2)), .inl (1)]) (rest := [.int (zI r)]) C hH hl dL_law_657 YX5_setting rfl rfl (Nat.le_of_ble_eq_true rfl) gL_law_X5_setting (by decide) rfl (u_setting hRR hd (z_y xs (i + 1)) (z_y xs (i + 2)) (1) (z_yn xs (i + 1)) (z_yn xs (i + 2)) (by omega)) rfl (Nat.le_of_ble_eq_true rfl) (fun r2 w' H2 locs2 hp2 hH2 => ?_)
    obtain ⟨e1, h1⟩ := hp
    obtain ⟨e2, e3⟩ := hp2
    rw [e3] at hH2
    refine lv_icmp_eq (tgt := 833) hx hb dL_law_660 (by decide) (fun _ => ?_) (fun hne => absurd (by rw [e1, e2]) hne)
    exact G ax am v' _ H2 locs2 ls h1 hH2 hl
set_option maxRecDepth 100000 in
theorem zl_mark {p : Program} {l : Launch} {e : Env} {s : State} {m : MethodId} {below : List Frame} {meth : Method} {c : Code} {dC : Nat → ClassId} {dI : Nat → Nat → Nat} {cA : ClassId} {b L : Nat} {xs : Nat → Int32} (C : zl_C p s m meth c dC dI cA b L xs) {d i : Int} (hd : d ≤ 900000) (hi : 0 ≤ i) (hi5 : i + 5 ≤ L) (G : zl_G p l e s m below meth c dC dI cA b (d + 200) i 833) : zl_G p l e s m below meth c dC dI cA b d i 665 := by
  intro ax am v w H locs ls hRR hH hl
  obtain ⟨⟨hx, hb, hml, hown, hts⟩, hX, hbl, hK, hL, hr, hlk⟩ := id C
  refine lv_aload_n hx hb dL_law_665 rfl (lv_at hl 1 rfl) ?_
  refine zl_arg C hH hl 1 (by omega) (by omega) dL_law_666 dL_law_667 dL_law_668 dL_law_669 dL_law_670 ?_
  refine zl_callX (As := [.inl (z_y xs (i + 1))]) (rest := []) C hH hl dL_law_671 YX4_mark rfl rfl (Nat.le_of_ble_eq_true rfl) gL_law_X4_mark (by decide) rfl (s_mark hRR hd (z_y xs (i + 1)) (z_yn xs (i + 1))) rfl (Nat.le_of_ble_eq_true rfl) (fun r v' H locs hp hH => ?_)
  refine lv_aload_n hx hb dL_law_674 rfl (lv_at hl 2 rfl) ?_
  refine zl_arg C hH hl 1 (by omega) (by omega) dL_law_675 dL_law_676 dL_law_677 dL_law_678 dL_law_679 ?_
  refine zl_callM (As := [.inl (z_y xs (i + 1))]) (rest := [.int (zI r)]) C hH hl dL_law_680 YX5_mark rfl rfl (Nat.le_of_ble_eq_true rfl) gL_law_X5_mark (by decide) rfl (u_mark hRR hd (z_y xs (i + 1)) (z_yn xs (i + 1))) rfl (Nat.le_of_ble_eq_true rfl) (fun r2 w' H2 locs2 hp2 hH2 => ?_)
  obtain ⟨e1, h1⟩ := hp
  obtain ⟨e2, e3⟩ := hp2
  rw [e3] at hH2
  refine lv_icmp_eq (tgt := 833) hx hb dL_law_683 (by decide) (fun _ => ?_) (fun hne => absurd (by rw [e1, e2]) hne)
  exact G ax am v' _ H2 locs2 ls h1 hH2 hl
set_option maxRecDepth 100000 in
theorem zl_restore {p : Program} {l : Launch} {e : Env} {s : State} {m : MethodId} {below : List Frame} {meth : Method} {c : Code} {dC : Nat → ClassId} {dI : Nat → Nat → Nat} {cA : ClassId} {b L : Nat} {xs : Nat → Int32} (C : zl_C p s m meth c dC dI cA b L xs) {d i : Int} (hd : d ≤ 900000) (hi : 0 ≤ i) (hi5 : i + 5 ≤ L) (G : zl_G p l e s m below meth c dC dI cA b (d + 200) i 833) : zl_G p l e s m below meth c dC dI cA b d i 688 := by
  intro ax am v w H locs ls hRR hH hl
  obtain ⟨⟨hx, hb, hml, hown, hts⟩, hX, hbl, hK, hL, hr, hlk⟩ := id C
  refine lv_aload_n hx hb dL_law_688 rfl (lv_at hl 1 rfl) ?_
  refine zl_arg C hH hl 1 (by omega) (by omega) dL_law_689 dL_law_690 dL_law_691 dL_law_692 dL_law_693 ?_
  refine zl_callX (As := [.inl (z_y xs (i + 1))]) (rest := []) C hH hl dL_law_694 YX4_restore rfl rfl (Nat.le_of_ble_eq_true rfl) gL_law_X4_restore (by decide) rfl (s_restore hRR hd (z_y xs (i + 1)) (z_yn xs (i + 1))) rfl (Nat.le_of_ble_eq_true rfl) (fun r v' H locs hp hH => ?_)
  refine lv_aload_n hx hb dL_law_697 rfl (lv_at hl 2 rfl) ?_
  refine zl_arg C hH hl 1 (by omega) (by omega) dL_law_698 dL_law_699 dL_law_700 dL_law_701 dL_law_702 ?_
  refine zl_callM (As := [.inl (z_y xs (i + 1))]) (rest := [.int (zI r)]) C hH hl dL_law_703 YX5_restore rfl rfl (Nat.le_of_ble_eq_true rfl) gL_law_X5_restore (by decide) rfl (u_restore hRR hd (z_y xs (i + 1)) (z_yn xs (i + 1))) rfl (Nat.le_of_ble_eq_true rfl) (fun r2 w' H2 locs2 hp2 hH2 => ?_)
  obtain ⟨e1, h1⟩ := hp
  obtain ⟨e2, e3⟩ := hp2
  rw [e3] at hH2
  refine lv_icmp_eq (tgt := 833) hx hb dL_law_706 (by decide) (fun _ => ?_) (fun hne => absurd (by rw [e1, e2]) hne)
  exact G ax am v' _ H2 locs2 ls h1 hH2 hl
set_option maxRecDepth 100000 in
theorem zl_row {p : Program} {l : Launch} {e : Env} {s : State} {m : MethodId} {below : List Frame} {meth : Method} {c : Code} {dC : Nat → ClassId} {dI : Nat → Nat → Nat} {cA : ClassId} {b L : Nat} {xs : Nat → Int32} (C : zl_C p s m meth c dC dI cA b L xs) {d i : Int} (hd : d ≤ 900000) (hi : 0 ≤ i) (hi5 : i + 5 ≤ L) (G : zl_G p l e s m below meth c dC dI cA b (d + 200) i 833) : zl_G p l e s m below meth c dC dI cA b d i 711 := by
  intro ax am v w H locs ls hRR hH hl
  obtain ⟨⟨hx, hb, hml, hown, hts⟩, hX, hbl, hK, hL, hr, hlk⟩ := id C
  refine lv_aload_n hx hb dL_law_711 rfl (lv_at hl 1 rfl) ?_
  refine zl_arg C hH hl 1 (by omega) (by omega) dL_law_712 dL_law_713 dL_law_714 dL_law_715 dL_law_716 ?_
  refine zl_arg C hH hl 2 (by omega) (by omega) dL_law_717 dL_law_718 dL_law_719 dL_law_720 dL_law_721 ?_
  refine zl_callX (As := [.inl (z_y xs (i + 1)), .inl (z_y xs (i + 2))]) (rest := []) C hH hl dL_law_722 YX4_row rfl rfl (Nat.le_of_ble_eq_true rfl) gL_law_X4_row (by decide) rfl (s_row hRR hd (z_y xs (i + 1)) (z_y xs (i + 2)) (z_yn xs (i + 1)) (z_yn xs (i + 2))) rfl (Nat.le_of_ble_eq_true rfl) (fun r v' H locs hp hH => ?_)
  refine lv_aload_n hx hb dL_law_725 rfl (lv_at hl 2 rfl) ?_
  refine zl_arg C hH hl 1 (by omega) (by omega) dL_law_726 dL_law_727 dL_law_728 dL_law_729 dL_law_730 ?_
  refine zl_arg C hH hl 2 (by omega) (by omega) dL_law_731 dL_law_732 dL_law_733 dL_law_734 dL_law_735 ?_
  refine zl_callM (As := [.inl (z_y xs (i + 1)), .inl (z_y xs (i + 2))]) (rest := [.int (zI r)]) C hH hl dL_law_736 YX5_row rfl rfl (Nat.le_of_ble_eq_true rfl) gL_law_X5_row (by decide) rfl (u_row hRR hd (z_y xs (i + 1)) (z_y xs (i + 2)) (z_yn xs (i + 1)) (z_yn xs (i + 2))) rfl (Nat.le_of_ble_eq_true rfl) (fun r2 w' H2 locs2 hp2 hH2 => ?_)
  obtain ⟨e1, h1⟩ := hp
  obtain ⟨e2, e3⟩ := hp2
  rw [e3] at hH2
  refine lv_icmp_eq (tgt := 833) hx hb dL_law_739 (by decide) (fun _ => ?_) (fun hne => absurd (by rw [e1, e2]) hne)
  exact G ax am v' _ H2 locs2 ls h1 hH2 hl
set_option maxRecDepth 100000 in
theorem zl_place {p : Program} {l : Launch} {e : Env} {s : State} {m : MethodId} {below : List Frame} {meth : Method} {c : Code} {dC : Nat → ClassId} {dI : Nat → Nat → Nat} {cA : ClassId} {b L : Nat} {xs : Nat → Int32} (C : zl_C p s m meth c dC dI cA b L xs) {d i : Int} (hd : d ≤ 900000) (hi : 0 ≤ i) (hi5 : i + 5 ≤ L) (G : zl_G p l e s m below meth c dC dI cA b (d + 200) i 833) : zl_G p l e s m below meth c dC dI cA b d i 744 := by
  intro ax am v w H locs ls hRR hH hl
  obtain ⟨⟨hx, hb, hml, hown, hts⟩, hX, hbl, hK, hL, hr, hlk⟩ := id C
  refine lv_aload_n hx hb dL_law_744 rfl (lv_at hl 1 rfl) ?_
  refine zl_arg C hH hl 1 (by omega) (by omega) dL_law_745 dL_law_746 dL_law_747 dL_law_748 dL_law_749 ?_
  refine zl_arg C hH hl 2 (by omega) (by omega) dL_law_750 dL_law_751 dL_law_752 dL_law_753 dL_law_754 ?_
  refine zl_arg C hH hl 3 (by omega) (by omega) dL_law_755 dL_law_756 dL_law_757 dL_law_758 dL_law_759 ?_
  refine zl_callX (As := [.inl (z_y xs (i + 1)), .inl (z_y xs (i + 2)), .inl (z_y xs (i + 3))]) (rest := []) C hH hl dL_law_760 YX4_place rfl rfl (Nat.le_of_ble_eq_true rfl) gL_law_X4_place (by decide) rfl (s_place hRR hd (z_y xs (i + 1)) (z_y xs (i + 2)) (z_y xs (i + 3)) (z_yn xs (i + 1)) (z_yn xs (i + 2)) (z_yn xs (i + 3))) rfl (Nat.le_of_ble_eq_true rfl) (fun r v' H locs hp hH => ?_)
  refine lv_aload_n hx hb dL_law_763 rfl (lv_at hl 2 rfl) ?_
  refine zl_arg C hH hl 1 (by omega) (by omega) dL_law_764 dL_law_765 dL_law_766 dL_law_767 dL_law_768 ?_
  refine zl_arg C hH hl 2 (by omega) (by omega) dL_law_769 dL_law_770 dL_law_771 dL_law_772 dL_law_773 ?_
  refine zl_arg C hH hl 3 (by omega) (by omega) dL_law_774 dL_law_775 dL_law_776 dL_law_777 dL_law_778 ?_
  refine zl_callM (As := [.inl (z_y xs (i + 1)), .inl (z_y xs (i + 2)), .inl (z_y xs (i + 3))]) (rest := [.int (zI r)]) C hH hl dL_law_779 YX5_place rfl rfl (Nat.le_of_ble_eq_true rfl) gL_law_X5_place (by decide) rfl (u_place hRR hd (z_y xs (i + 1)) (z_y xs (i + 2)) (z_y xs (i + 3)) (z_yn xs (i + 1)) (z_yn xs (i + 2)) (z_yn xs (i + 3))) rfl (Nat.le_of_ble_eq_true rfl) (fun r2 w' H2 locs2 hp2 hH2 => ?_)
  obtain ⟨e1, h1⟩ := hp
  obtain ⟨e2, e3⟩ := hp2
  rw [e3] at hH2
  refine lv_icmp_eq (tgt := 833) hx hb dL_law_782 (by decide) (fun _ => ?_) (fun hne => absurd (by rw [e1, e2]) hne)
  exact G ax am v' _ H2 locs2 ls h1 hH2 hl
set_option maxRecDepth 100000 in
theorem zl_next {p : Program} {l : Launch} {e : Env} {s : State} {m : MethodId} {below : List Frame} {meth : Method} {c : Code} {dC : Nat → ClassId} {dI : Nat → Nat → Nat} {cA : ClassId} {b L : Nat} {xs : Nat → Int32} (C : zl_C p s m meth c dC dI cA b L xs) {d i : Int} (hd : d ≤ 900000) (hi : 0 ≤ i) (hi5 : i + 5 ≤ L) (G : zl_G p l e s m below meth c dC dI cA b (d + 200) i 833) : zl_G p l e s m below meth c dC dI cA b d i 787 := by
  intro ax am v w H locs ls hRR hH hl
  obtain ⟨⟨hx, hb, hml, hown, hts⟩, hX, hbl, hK, hL, hr, hlk⟩ := id C
  refine lv_aload_n hx hb dL_law_787 rfl (lv_at hl 1 rfl) ?_
  refine zl_arg C hH hl 1 (by omega) (by omega) dL_law_788 dL_law_789 dL_law_790 dL_law_791 dL_law_792 ?_
  refine zl_callX (As := [.inl (z_y xs (i + 1))]) (rest := []) C hH hl dL_law_793 YX4_next rfl rfl (Nat.le_of_ble_eq_true rfl) gL_law_X4_next (by decide) rfl (s_next hRR hd (z_y xs (i + 1)) (z_yn xs (i + 1))) rfl (Nat.le_of_ble_eq_true rfl) (fun r v' H locs hp hH => ?_)
  refine lv_aload_n hx hb dL_law_796 rfl (lv_at hl 2 rfl) ?_
  refine zl_arg C hH hl 1 (by omega) (by omega) dL_law_797 dL_law_798 dL_law_799 dL_law_800 dL_law_801 ?_
  refine zl_callM (As := [.inl (z_y xs (i + 1))]) (rest := [.int (zI r)]) C hH hl dL_law_802 YX5_next rfl rfl (Nat.le_of_ble_eq_true rfl) gL_law_X5_next (by decide) rfl (u_next hRR hd (z_y xs (i + 1)) (z_yn xs (i + 1))) rfl (Nat.le_of_ble_eq_true rfl) (fun r2 w' H2 locs2 hp2 hH2 => ?_)
  obtain ⟨e1, h1⟩ := hp
  obtain ⟨e2, e3⟩ := hp2
  rw [e3] at hH2
  refine lv_icmp_eq (tgt := 833) hx hb dL_law_805 (by decide) (fun _ => ?_) (fun hne => absurd (by rw [e1, e2]) hne)
  exact G ax am v' _ H2 locs2 ls h1 hH2 hl
set_option maxRecDepth 100000 in
theorem zl_count {p : Program} {l : Launch} {e : Env} {s : State} {m : MethodId} {below : List Frame} {meth : Method} {c : Code} {dC : Nat → ClassId} {dI : Nat → Nat → Nat} {cA : ClassId} {b L : Nat} {xs : Nat → Int32} (C : zl_C p s m meth c dC dI cA b L xs) {d i : Int} (hd : d ≤ 900000) (hi : 0 ≤ i) (hi5 : i + 5 ≤ L) (G : zl_G p l e s m below meth c dC dI cA b (d + 200) i 833) : zl_G p l e s m below meth c dC dI cA b d i 810 := by
  intro ax am v w H locs ls hRR hH hl
  obtain ⟨⟨hx, hb, hml, hown, hts⟩, hX, hbl, hK, hL, hr, hlk⟩ := id C
  refine lv_aload_n hx hb dL_law_810 rfl (lv_at hl 1 rfl) ?_
  refine zl_arg C hH hl 1 (by omega) (by omega) dL_law_811 dL_law_812 dL_law_813 dL_law_814 dL_law_815 ?_
  refine zl_callX (As := [.inl (z_y xs (i + 1))]) (rest := []) C hH hl dL_law_816 YX4_count rfl rfl (Nat.le_of_ble_eq_true rfl) gL_law_X4_count (by decide) rfl (s_count hRR hd (z_y xs (i + 1)) (z_yn xs (i + 1))) rfl (Nat.le_of_ble_eq_true rfl) (fun r v' H locs hp hH => ?_)
  refine lv_aload_n hx hb dL_law_819 rfl (lv_at hl 2 rfl) ?_
  refine zl_arg C hH hl 1 (by omega) (by omega) dL_law_820 dL_law_821 dL_law_822 dL_law_823 dL_law_824 ?_
  refine zl_callM (As := [.inl (z_y xs (i + 1))]) (rest := [.int (zI r)]) C hH hl dL_law_825 YX5_count rfl rfl (Nat.le_of_ble_eq_true rfl) gL_law_X5_count (by decide) rfl (u_count hRR hd (z_y xs (i + 1)) (z_yn xs (i + 1))) rfl (Nat.le_of_ble_eq_true rfl) (fun r2 w' H2 locs2 hp2 hH2 => ?_)
  obtain ⟨e1, h1⟩ := hp
  obtain ⟨e2, e3⟩ := hp2
  rw [e3] at hH2
  refine lv_icmp_eq (tgt := 833) hx hb dL_law_828 (by decide) (fun _ => ?_) (fun hne => absurd (by rw [e1, e2]) hne)
  exact G ax am v' _ H2 locs2 ls h1 hH2 hl
