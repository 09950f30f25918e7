set_option maxRecDepth 100000 in
theorem zl_step5 {p : Program} {l : Launch} {e : Env} {s : State} {m : MethodId} {below : List Frame} {meth : Method} {c : Code} {dC : Nat → ClassId} {dI : Nat → Nat → Nat} {cA : ClassId} {b L : Nat} {xs : Nat → Int32} (C : zl_C p s m meth c dC dI cA b L xs) {d i : Int} (G : zl_G p l e s m below meth c dC dI cA b d (i + 5) 18) : zl_G p l e s m below meth c dC dI cA b d i 833 := by
  intro ax am v w H locs ls hRR hH hl
  obtain ⟨⟨hx, hb, hml, hown, hts⟩, hX, hbl, hK, hL, hr, hlk⟩ := id C
  have hl : lv_has ls 4 [(0, .ref b), (1, .ref (ax 0)), (2, .ref (am 0)), (3, .int (zI i))] := hl
  refine lv_iinc (v := zI (i + 5)) (lv' := [(3, .int (zI (i + 5))), (0, .ref b), (1, .ref (ax 0)), (2, .ref (am 0))]) hx hb dL_law_833 hl (k := 3) rfl (zI_add i 5) (by decide) rfl (fun ls hl => ?_)
  refine lv_goto (tgt := 18) hx hb dL_law_836 (by decide) ?_
  exact G ax am v w H locs ls hRR hH (lv_sub hl [1, 2, 3, 0] rfl)
set_option maxRecDepth 100000 in
theorem zl_loop {p : Program} {l : Launch} {e : Env} {s : State} {m : MethodId} {below : List Frame} {meth : Method} {c : Code} {dC : Nat → ClassId} {dI : Nat → Nat → Nat} {cA : ClassId} {b L : Nat} {xs : Nat → Int32} (C : zl_C p s m meth c dC dI cA b L xs) : ∀ (n : Nat) (d i : Int), 0 ≤ i → L < i + 5 * n + 5 → i ≤ L → d + 200 * n ≤ 900000 → zl_G p l e s m below meth c dC dI cA b d i 18 := by
  intro n
  induction n with
  | zero =>
    intro d i h0 hn hiL hdn ax am v w H locs ls hRR hH hl
    obtain ⟨⟨hx, hb, hml, hown, hts⟩, hX, hbl, hK, hL, hr, hlk⟩ := id C
    have hbA : ¬ (fun q : Nat => s.heap.size ≤ q) b := Nat.not_le.mpr hbl
    refine lv_iload_n hx hb dL_law_18 rfl (lv_at hl 3 rfl) ?_
    refine lv_aload_n hx hb dL_law_19 rfl (lv_at hl 0 rfl) ?_
    refine va_slen hx hb hX hbl hbA hH.2.2 dL_law_20 ?_
    rw [show Int32.ofNat L = zI (L : Int) from (zI_n L).symm]
    refine lv_iconst (v := zI 5) hx hb dL_law_21 rfl ?_
    refine lv_isub hx hb dL_law_22 ?_
    rw [zI_sub]
    refine lv_icmp_gt (tgt := 839) hx hb dL_law_23 (by decide) (fun _ => ?_) (fun h => absurd ((zI_lt (by omega) (by omega)).mpr (by omega)) h)
    refine lv_iconst (v := 1) hx hb dL_law_839 (by decide) ?_
    refine va_forget (fun q hq => hH.2.2.2.2 q hq) ?_
    exact lw_ret hx hb hr hlk dL_law_840
  | succ n ih =>
    intro d i h0 hn hiL hdn ax am v w H locs ls hRR hH hl
    obtain ⟨⟨hx, hb, hml, hown, hts⟩, hX, hbl, hK, hL, hr, hlk⟩ := id C
    have hbA : ¬ (fun q : Nat => s.heap.size ≤ q) b := Nat.not_le.mpr hbl
    refine lv_iload_n hx hb dL_law_18 rfl (lv_at hl 3 rfl) ?_
    refine lv_aload_n hx hb dL_law_19 rfl (lv_at hl 0 rfl) ?_
    refine va_slen hx hb hX hbl hbA hH.2.2 dL_law_20 ?_
    rw [show Int32.ofNat L = zI (L : Int) from (zI_n L).symm]
    refine lv_iconst (v := zI 5) hx hb dL_law_21 rfl ?_
    refine lv_isub hx hb dL_law_22 ?_
    rw [zI_sub]
    refine lv_icmp_gt (tgt := 839) hx hb dL_law_23 (by decide) (fun _ => ?_) (fun h => ?_)
    · refine lv_iconst (v := 1) hx hb dL_law_839 (by decide) ?_
      refine va_forget (fun q hq => hH.2.2.2.2 q hq) ?_
      exact lw_ret hx hb hr hlk dL_law_840
    · have hle : i + 5 ≤ L := by
        have hno : ¬ ((L : Int) - 5 < i) := fun q => h ((zI_lt (x := (L : Int) - 5) (y := i) (by omega) (by omega)).mpr q)
        omega
      have G1 : zl_G p l e s m below meth c dC dI cA b (d + 200) i 833 := zl_step5 C (ih (d + 200) (i + 5) (by omega) (by omega) (by omega) (by omega))
      have G0 : zl_G p l e s m below meth c dC dI cA b d i 833 := fun ax am v w H locs ls hRR hH hl => G1 ax am v w H locs ls (RR_le hRR (by omega)) hH hl
      refine lv_aload_n hx hb dL_law_26 rfl (lv_at hl 0 rfl) ?_
      refine lv_iload_n hx hb dL_law_27 rfl (lv_at hl 3 rfl) ?_
      refine va_sld hx hb hX hbl hbA hH.2.2 (zI_in h0 (by omega) (by omega)) dL_law_28 ?_
      refine lv_bipush (v := 31) hx hb dL_law_29 (by decide) ?_
      refine lv_iand hx hb dL_law_31 ?_
      obtain ⟨j, hj, ej⟩ := pk_andE (xs (zI i).toNatClampNeg) (m := 31) 5 (by decide)
      rw [ej]
      have et : (nI j).toInt = (j : Int) := nI_toInt (by omega)
      have hd9 : d ≤ 900000 := by omega
      by_cases hj19 : j < 19
      · rcases (show j = 0 ∨ j = 1 ∨ j = 2 ∨ j = 3 ∨ j = 4 ∨ j = 5 ∨ j = 6 ∨ j = 7 ∨ j = 8 ∨ j = 9 ∨ j = 10 ∨ j = 11 ∨ j = 12 ∨ j = 13 ∨ j = 14 ∨ j = 15 ∨ j = 16 ∨ j = 17 ∨ j = 18 by omega) with rfl | rfl | rfl | rfl | rfl | rfl | rfl | rfl | rfl | rfl | rfl | rfl | rfl | rfl | rfl | rfl | rfl | rfl | rfl
        · refine lv_tableIn (tgt := 124) hx hb dL_law_32 (by rw [et]; omega) (by rw [et]; omega) (by rw [et]; rfl) (by decide) ?_
          exact zl_state C hd9 h0 hle G1 ax am v w H locs ls hRR hH hl
        · refine lv_tableIn (tgt := 177) hx hb dL_law_32 (by rw [et]; omega) (by rw [et]; omega) (by rw [et]; rfl) (by decide) ?_
          exact zl_put C hd9 h0 hle G1 ax am v w H locs ls hRR hH hl
        · refine lv_tableIn (tgt := 230) hx hb dL_law_32 (by rw [et]; omega) (by rw [et]; omega) (by rw [et]; rfl) (by decide) ?_
          exact zl_get C hd9 h0 hle G1 ax am v w H locs ls hRR hH hl
        · refine lv_tableIn (tgt := 273) hx hb dL_law_32 (by rw [et]; omega) (by rw [et]; omega) (by rw [et]; rfl) (by decide) ?_
          exact zl_remove C hd9 h0 hle G1 ax am v w H locs ls hRR hH hl
        · refine lv_tableIn (tgt := 316) hx hb dL_law_32 (by rw [et]; omega) (by rw [et]; omega) (by rw [et]; rfl) (by decide) ?_
          exact zl_add C hd9 h0 hle G1 ax am v w H locs ls hRR hH hl
        · refine lv_tableIn (tgt := 359) hx hb dL_law_32 (by rw [et]; omega) (by rw [et]; omega) (by rw [et]; rfl) (by decide) ?_
          exact zl_at C hd9 h0 hle G1 ax am v w H locs ls hRR hH hl
        · refine lv_tableIn (tgt := 402) hx hb dL_law_32 (by rw [et]; omega) (by rw [et]; omega) (by rw [et]; rfl) (by decide) ?_
          exact zl_clear C hd9 h0 hle G1 ax am v w H locs ls hRR hH hl
        · refine lv_tableIn (tgt := 435) hx hb dL_law_32 (by rw [et]; omega) (by rw [et]; omega) (by rw [et]; rfl) (by decide) ?_
          exact zl_held C hd9 h0 hle G1 ax am v w H locs ls hRR hH hl
        · refine lv_tableIn (tgt := 494) hx hb dL_law_32 (by rw [et]; omega) (by rw [et]; omega) (by rw [et]; rfl) (by decide) ?_
          exact zl_left C hd9 h0 hle G1 ax am v w H locs ls hRR hH hl
        · refine lv_tableIn (tgt := 537) hx hb dL_law_32 (by rw [et]; omega) (by rw [et]; omega) (by rw [et]; rfl) (by decide) ?_
          exact zl_tick C hd9 h0 hle G1 ax am v w H locs ls hRR hH hl
        · refine lv_tableIn (tgt := 560) hx hb dL_law_32 (by rw [et]; omega) (by rw [et]; omega) (by rw [et]; rfl) (by decide) ?_
          exact zl_watermark C hd9 h0 hle G1 ax am v w H locs ls hRR hH hl
        · refine lv_tableIn (tgt := 583) hx hb dL_law_32 (by rw [et]; omega) (by rw [et]; omega) (by rw [et]; rfl) (by decide) ?_
          exact zl_sweep C hd9 h0 hle G1 ax am v w H locs ls hRR hH hl
        · refine lv_tableIn (tgt := 606) hx hb dL_law_32 (by rw [et]; omega) (by rw [et]; omega) (by rw [et]; rfl) (by decide) ?_
          exact zl_setting C hd9 h0 hle G1 ax am v w H locs ls hRR hH hl
        · refine lv_tableIn (tgt := 665) hx hb dL_law_32 (by rw [et]; omega) (by rw [et]; omega) (by rw [et]; rfl) (by decide) ?_
          exact zl_mark C hd9 h0 hle G1 ax am v w H locs ls hRR hH hl
        · refine lv_tableIn (tgt := 688) hx hb dL_law_32 (by rw [et]; omega) (by rw [et]; omega) (by rw [et]; rfl) (by decide) ?_
          exact zl_restore C hd9 h0 hle G1 ax am v w H locs ls hRR hH hl
        · refine lv_tableIn (tgt := 711) hx hb dL_law_32 (by rw [et]; omega) (by rw [et]; omega) (by rw [et]; rfl) (by decide) ?_
          exact zl_row C hd9 h0 hle G1 ax am v w H locs ls hRR hH hl
        · refine lv_tableIn (tgt := 744) hx hb dL_law_32 (by rw [et]; omega) (by rw [et]; omega) (by rw [et]; rfl) (by decide) ?_
          exact zl_place C hd9 h0 hle G1 ax am v w H locs ls hRR hH hl
        · refine lv_tableIn (tgt := 787) hx hb dL_law_32 (by rw [et]; omega) (by rw [et]; omega) (by rw [et]; rfl) (by decide) ?_
          exact zl_next C hd9 h0 hle G1 ax am v w H locs ls hRR hH hl
        · refine lv_tableIn (tgt := 810) hx hb dL_law_32 (by rw [et]; omega) (by rw [et]; omega) (by rw [et]; rfl) (by decide) ?_
          exact zl_count C hd9 h0 hle G1 ax am v w H locs ls hRR hH hl
      · refine lv_tableOut (tgt := 833) hx hb dL_law_32 (Or.inr (by rw [et]; omega)) (by decide) ?_
        exact G0 ax am v w H locs ls hRR hH hl
set_option maxHeartbeats 4000000 in
set_option maxRecDepth 100000 in
theorem whole_start {p : Program} {e : Env} {s : State} {m : MethodId} {below : List Frame} {meth : Method} {c : Code} (l : Launch) {b L : Nat} {xs : Nat → Int32} (hL : L ≤ 2560) (C0 : lw_At p s m meth c b L xs) : W p l e room_1 s m #[Value.ref b] below meth c s.heap [] 0 0 (lw_Z below #[Value.ref b] s) (entryFrame m ([Value.ref b] : List Value).toArray 4) := by
  obtain ⟨hx, hb, hr, hml, hown, hts0, hX, hbl, hlocks, hgv⟩ := id C0
  have hts : ∀ w ∈ wsL_law, w.before #[Value.ref b] s = true := fun w h => hts0 w (wsL_law_in w h)
  have hA : ∀ q : Nat, s.heap.size ≤ q → (fun q : Nat => s.heap.size ≤ q) q := fun _ h => h
  have hbA : ¬ (fun q : Nat => s.heap.size ≤ q) b := Nat.not_le.mpr hbl
  obtain ⟨c0, iS0, hKn0⟩ := u_known (C := RX0) (T := TX0) (N := 4) (n := 4) hts0 inX0 (hts0 (.instantiable RX0 4) (by decide +kernel))
  obtain ⟨c1, iS1, hKn1⟩ := u_known (C := RX1) (T := TX1) (N := 6) (n := 6) hts0 inX1 (hts0 (.instantiable RX1 6) (by decide +kernel))
  obtain ⟨c2, iS2, hKn2⟩ := u_known (C := RX2) (T := TX2) (N := 4) (n := 4) hts0 inX2 (hts0 (.instantiable RX2 4) (by decide +kernel))
  obtain ⟨c3, iS3, hKn3⟩ := u_known (C := RX3) (T := TX3) (N := 6) (n := 6) hts0 inX3 (hts0 (.instantiable RX3 6) (by decide +kernel))
  obtain ⟨c4, iS4, hKn4⟩ := u_known (C := RX4) (T := TX4) (N := 5) (n := 5) hts0 inX4 (hts0 (.instantiable RX4 5) (by decide +kernel))
  obtain ⟨c5, iS5, hKn5⟩ := u_known (C := RX5) (T := TX5) (N := 20) (n := 20) hts0 inX5 (hts0 (.instantiable RX5 20) (by decide +kernel))
  obtain ⟨dC, dI, hKc⟩ : ∃ (dC : Nat → ClassId) (dI : Nat → Nat → Nat), ∀ (k : Nat) (q : vw_C), vwCl[k]? = some q → u_Kn s q.1 q.2.1 q.2.2 (dC k) (dI k) := by
    refine ⟨fun k => if k = 0 then c0 else if k = 1 then c1 else if k = 2 then c2 else if k = 3 then c3 else if k = 4 then c4 else c5, fun k => if k = 0 then iS0 else if k = 1 then iS1 else if k = 2 then iS2 else if k = 3 then iS3 else if k = 4 then iS4 else iS5, ?_⟩
    intro k q hq
    match k, hq with
    | 0, hq => cases hq; exact hKn0
    | 1, hq => cases hq; exact hKn1
    | 2, hq => cases hq; exact hKn2
    | 3, hq => cases hq; exact hKn3
    | 4, hq => cases hq; exact hKn4
    | 5, hq => cases hq; exact hKn5
    | k + 6, hq => simp [vwCl] at hq
  obtain ⟨cA, kA, comp, hcA, hkA, hkind⟩ := Cond.arrayClass_spec (hts0 (.arrayClass .int) (by decide +kernel))
  have hK : va_K (dC, dI) vwCl [(cA, .int)] s := by
    refine ⟨hKc, fun k q h => ?_⟩
    match k, h with
    | 0, h =>
      cases h
      exact ⟨fun n z => ⟨fun k h => (by cases h), kA, hkA, comp, hkind⟩, hcA⟩
    | k + 1, h => simp at h
  have hS : va_S (fun q : Nat => s.heap.size ≤ q) s.heap s.heap [] := va_S.rf
  have hP : va_P (dC, dI) vwCl [] s.heap := fun k q h => by simp at h
  have hD : va_D (fun q : Nat => s.heap.size ≤ q) [] := ⟨fun i j p q h => by simp at h, fun k q h => by simp at h⟩
  have hN1 : va_Nw (.methodLinkNest RX4 11 yX3_init "StateEnds") s := va_Nw.of rfl (hts0 (.methodLinkNest RX4 11 yX3_init "StateEnds") (by decide +kernel))
  have hN2 : va_Nw (.methodLinkNest RX4 25 yX2_init "StateEnds") s := va_Nw.of rfl (hts0 (.methodLinkNest RX4 25 yX2_init "StateEnds") (by decide +kernel))
  have hl := lv_entry ([.ref b]) (n := 4) (Nat.le_of_ble_eq_true rfl)
  rw [lg_entry_eq]
  generalize (lg_sl ([.ref b]) ++ List.replicate (4 - (lg_sl ([.ref b])).length) Slot.unset).toArray = ls at hl ⊢
  have hl : lv_has ls 4 [(0, .ref b)] := hl
  refine va_new (ci := 4) (fs := [.null, .null, .null, .null, .int (zI 0)]) (C := RX4) (T := TX4) (N := 5) hx hb hts inlX4 tyX4 tyX4_ok hown (hts (.classLink RL 7 RX4) (by decide +kernel)) (hts (.instantiable RX4 5) (by decide +kernel)) (hts (.initialized RX4) (by decide +kernel)) hK hP hD hS hA rfl (fun j hj => by rcases (show j = 0 ∨ j = 1 ∨ j = 2 ∨ j = 3 ∨ j = 4 by omega) with rfl | rfl | rfl | rfl | rfl <;> first | rfl | exact z_dv) (Nat.le_of_ble_eq_true rfl) (Nat.le_of_ble_eq_true rfl) dL_law_0 (fun qx H hP hD hS => ?_)
  have hP : va_P (dC, dI) vwCl [(qx, .inr (4, [.null, .null, .null, .null, .int (zI 0)]))] H := hP
  have hD : va_D (fun q : Nat => s.heap.size ≤ q) [(qx, .inr (4, [.null, .null, .null, .null, .int (zI 0)]))] := hD
  refine lv_dup hx hb dL_law_3 rfl ?_
  have hFc := va_free (wc := [(qx, .inr (4, [.null, .null, .null, .null, .int (zI 0)]))]) hD hS hA [0] rfl
  refine va_callv (va_runI (As := []) (rest := [.ref qx]) ⟨hx, hb, hml, hown, hts⟩ (c_X4_init l dC dI cA qx H.size) (cwI 0 hts gL_law_X4_init rfl rfl rfl (hts (.initialized RX4) (by decide +kernel)) (hts (.methodLink RL 9 yX4_init) (by decide +kernel)) (hts (.instanceMethod yX4_init) (by decide +kernel)) rfl (by decide +kernel) ⟨Nat.le_of_ble_eq_true rfl, Nat.le_of_ble_eq_true rfl⟩) ⟨fun a U g mk q => by obtain ⟨q0, q1, qP, qK, qD, n1, n2⟩ := q; exact ⟨q0, q1, qP, va_K.moved (u := U) (U := U.calling g mk a) (Vm.Alike.refl U.vm) qK, qD, va_Nw.same rfl (rfl : U.vm = (U.calling g mk a).vm) n1, va_Nw.same rfl (rfl : U.vm = (U.calling g mk a).vm) n2⟩, fun U hU hW => ⟨rfl, by rw [hU], by rw [hU]; exact hP, va_K.moved hW.alike hK, hD.weaken (fun _ _ _ _ => trivial), va_Nw.warmM hW hN1, va_Nw.warmM hW hN2⟩⟩ rfl rfl hl.1 rfl (lv_room (Nat.le_of_ble_eq_true rfl)) dL_law_4 ⟨Nat.le_of_ble_eq_true rfl, Nat.le_of_ble_eq_true rfl⟩) hS (fun q _ h => hFc q h) hFc (fun ax t H1 locs ht hvm hw hB hz1 hk1 hS => ?_)
  obtain ⟨hP1, hK1, hD1⟩ := hB
  rw [ht] at hP1
  rw [zs_w_r] at hP1 hD1
  subst hw
  have hP : va_P (dC, dI) vwCl (zs_wr cA ax z_V0 0 shX) H1 := hP1
  have hD : va_D (fun q : Nat => s.heap.size ≤ q) (zs_wr cA ax z_V0 0 shX) := hD1.weaken (fun _ q _ h => hFc q.1 h)
  generalize H1 = H at hP hS ⊢
  refine lv_astore_n (lv' := [(1, .ref (ax 0)), (0, .ref b)]) hx hb dL_law_7 rfl hl (by decide) rfl (fun ls hl => ?_)
  refine va_new (ci := 5) (fs := [.int (zI 0), .null, .null, .null, .null, .null, .null, .null, .null, .null, .null, .null, .null, .int (zI 0), .int (zI 0), .null, .int (zI 0), .int (zI 0), .null, .null]) (C := RX5) (T := TX5) (N := 20) hx hb hts inlX5 tyX5 tyX5_ok hown (hts (.classLink RL 10 RX5) (by decide +kernel)) (hts (.instantiable RX5 20) (by decide +kernel)) (hts (.initialized RX5) (by decide +kernel)) hK hP hD hS hA rfl (fun j hj => by rcases (show j = 0 ∨ j = 1 ∨ j = 2 ∨ j = 3 ∨ j = 4 ∨ j = 5 ∨ j = 6 ∨ j = 7 ∨ j = 8 ∨ j = 9 ∨ j = 10 ∨ j = 11 ∨ j = 12 ∨ j = 13 ∨ j = 14 ∨ j = 15 ∨ j = 16 ∨ j = 17 ∨ j = 18 ∨ j = 19 by omega) with rfl | rfl | rfl | rfl | rfl | rfl | rfl | rfl | rfl | rfl | rfl | rfl | rfl | rfl | rfl | rfl | rfl | rfl | rfl | rfl <;> first | rfl | exact z_dv) (Nat.le_of_ble_eq_true rfl) (Nat.le_of_ble_eq_true rfl) dL_law_8 (fun qm H hP hD hS => ?_)
  refine lv_dup hx hb dL_law_11 rfl ?_
  have hPc := hP.sub (ws' := [(qm, .inr (5, [.int (zI 0), .null, .null, .null, .null, .null, .null, .null, .null, .null, .null, .null, .null, .int (zI 0), .int (zI 0), .null, .int (zI 0), .int (zI 0), .null, .null]))]) [20] rfl
  have hDc := hD.sub (ws' := [(qm, .inr (5, [.int (zI 0), .null, .null, .null, .null, .null, .null, .null, .null, .null, .null, .null, .null, .int (zI 0), .int (zI 0), .null, .int (zI 0), .int (zI 0), .null, .null]))]) [20] (by decide) rfl
  have hFc := va_free (wc := [(qm, .inr (5, [.int (zI 0), .null, .null, .null, .null, .null, .null, .null, .null, .null, .null, .null, .null, .int (zI 0), .int (zI 0), .null, .int (zI 0), .int (zI 0), .null, .null]))]) hD hS hA [20] rfl
  refine va_callv (va_runI (As := []) (rest := [.ref qm]) ⟨hx, hb, hml, hown, hts⟩ (c_X5_init l dC dI cA qm H.size) (cwI 0 hts gL_law_X5_init rfl rfl rfl (hts (.initialized RX5) (by decide +kernel)) (hts (.methodLink RL 12 yX5_init) (by decide +kernel)) (hts (.instanceMethod yX5_init) (by decide +kernel)) rfl (by decide +kernel) ⟨Nat.le_of_ble_eq_true rfl, Nat.le_of_ble_eq_true rfl⟩) ⟨fun a U g mk q => by obtain ⟨q0, q1, qP, qK, qD⟩ := q; exact ⟨q0, q1, qP, va_K.moved (u := U) (U := U.calling g mk a) (Vm.Alike.refl U.vm) qK, qD⟩, fun U hU hW => ⟨rfl, by rw [hU], by rw [hU]; exact hPc, va_K.moved hW.alike hK, hDc.weaken (fun _ _ _ _ => trivial)⟩⟩ rfl rfl hl.1 rfl (lv_room (Nat.le_of_ble_eq_true rfl)) dL_law_12 ⟨Nat.le_of_ble_eq_true rfl, Nat.le_of_ble_eq_true rfl⟩) hS (fun q _ h => hFc q h) hFc (fun am t H1 locs ht hvm hw hB hz1 hk1 hS => ?_)
  obtain ⟨hP1, hK1, hD1⟩ := hB
  rw [ht] at hP1
  rw [zs_w_r] at hP1 hD1
  subst hw
  obtain ⟨hP, hD⟩ := va_join (wr := zs_wr cA ax z_V0 0 shX) (w1 := zs_wr cA am z_W0 0 shM) hP hD [20] [0, 1, 2, 3, 4, 5, 6, 7, 8, 9, 10, 11, 12, 13, 14, 15, 16, 17, 18, 19] rfl rfl (by decide) (by decide) hk1 hFc hP1 hD1
  generalize H1 = H at hP hS ⊢
  refine lv_astore_n (lv' := [(2, .ref (am 0)), (1, .ref (ax 0)), (0, .ref b)]) hx hb dL_law_15 rfl hl (by decide) rfl (fun ls hl => ?_)
  refine lv_iconst (v := zI 0) hx hb dL_law_16 rfl ?_
  refine lv_istore_n (lv' := [(3, .int (zI 0)), (2, .ref (am 0)), (1, .ref (ax 0)), (0, .ref b)]) hx hb dL_law_17 rfl hl (by decide) rfl (fun ls hl => ?_)
  refine W.widen (k := 36) (n := 9103) (Nat.le_of_ble_eq_true rfl) (Nat.le_of_ble_eq_true rfl) ?_
  exact zl_loop (xs := xs) (L := L) ⟨⟨hx, hb, hml, hown, hts⟩, hX, hbl, hK, hL, hr, hlocks⟩ 512 0 0 (by omega) (by omega) (by omega) (by omega) ax am z_V0 z_W0 H locs ls RR_0 ⟨hP, hD, hS⟩ (lv_sub hl [3, 2, 1, 0] rfl)
