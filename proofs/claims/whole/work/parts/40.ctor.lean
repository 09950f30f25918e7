
def z_0 : zs_V := fun _ _ => 0
def zs_wr (cA : ClassId) (a : Nat → Nat) (v : zs_V) : Nat → List zs_C → va_W
  | _, [] => []
  | k, c :: cs => (a k, zs_ce cA a v c) :: zs_wr cA a v (k + 1) cs
theorem zs_wr_at (cA : ClassId) (a : Nat → Nat) (v : zs_V) (sh : List zs_C) : ∀ (k i : Nat), (zs_wr cA a v k sh)[i]? = (sh[i]?).map (fun c => (a (k + i), zs_ce cA a v c)) := by
  induction sh with
  | nil => intro k i; rfl
  | cons c cs ih =>
    intro k i
    cases i with
    | zero => rfl
    | succ i =>
      show (zs_wr cA a v (k + 1) cs)[i]? = (cs[i]?).map _
      rw [ih (k + 1) i]
      congr 1
      funext c
      rw [show k + 1 + i = k + (i + 1) by omega]
theorem zs_w_r (cA : ClassId) (a : Nat → Nat) (v : zs_V) (sh : List zs_C) : zs_w cA a v sh = zs_wr cA a v 0 sh := by
  apply List.ext_getElem?
  intro i
  rw [zs_wr_at]
  unfold zs_w
  rw [List.getElem?_mapIdx]
  congr 1
  funext c
  rw [Nat.zero_add]
theorem zs_cA {D : va_G} {cl : List vw_C} {cA cB : ClassId} {s : State} (h : va_K D cl [(cA, .int), (cB, .int)] s) : cB = cA := by
  have h1 := (h.2 0 (cA, .int) rfl).2
  have h2 := (h.2 1 (cB, .int) rfl).2
  exact Option.some.inj (h2.symm.trans h1)
theorem z_dv : defaultValue .int = Value.int (zI 0) := by
  rw [zI_0]
  rfl
section ZT
variable {p : Program} {l : Launch} {e : Env} {R : Room} {s : State} {m : MethodId} {args : Array Value} {below : List Frame} {meth : Method} {c : Code} {H : Heap} {locs : List Loc} {cells slots : Nat} {Q : State → Prop}
variable {cc : ByteArray} {pc : Nat} {ls : Array Slot} {rest : List Value} {D : va_G} {cl : List vw_C} {A : Nat → Prop} {h0 : Nat} {cA : ClassId} {ws : va_W} {H0 : Heap}
/-- a new array of ints into a final field of this object -/
theorem zs_arr (hexec : p.tables.exec = Jvm.exec) (hb : c.code = cc) {own C : String} {T : u_T} {N ci index : Nat} {Ts : List Cond} (hts : ∀ w ∈ Ts, w.before args s = true) (hin : ∀ w ∈ u_ws C T N, w ∈ Ts) (ty0 : Nat → FieldType) (hty : ∀ k, k < N → parseFieldDescriptor (T k).2.2.1 = some (ty0 k)) (hnm : ∀ a, a < N → ∀ b, b < N → a ≠ b → (T a).2.1 ≠ (T b).2.1) (hown : s.vm.findClass own = some m.cls) (hK : va_K D cl [(cA, .int)] s) (hP : va_P D cl ws H) (hD : va_D A ws) (hS : va_S A H0 H locs) (hA : ∀ q, H0.size ≤ q → A q) {fs : List Value} (he : ws[0]? = some (h0, .inr (ci, fs))) (hc : cl[ci]? = some (C, T, N)) (j : Nat) (hj : j < N) (hlink : Cond.fieldLink own index (T j).1 (T j).2.1 (T j).2.2.1 ∈ Ts) (hfin : (T j).2.2.2 = true) (hin2 : meth.name = "<init>") (hdecl : (T j).1 = own) (htj : parseFieldDescriptor (T j).2.2.1 = some (.array .int)) (hl : j < fs.length) (harr : Cond.arrayClass .int ∈ Ts) (r N' : Nat) (hN : N' < 100000000) (hcells : cells + 1 ≤ R.cells) (hslots : slots + N' ≤ R.slots) (hd1 : decode cc pc = .ok (.newarray .int, 2)) (hd2 : decode cc (pc + 2) = .ok (.putfield index, 3))
    (kk : ∀ (q : Nat) (H1 : Heap) (locs1 : List Loc), va_P D cl ((ws.set 0 (h0, .inr (ci, fs.set j (.ref q)))) ++ [(q, .inl (cA, N', .inl (fun i : Nat => zI (z_0 r (i : Int)))))]) H1 → va_D A ((ws.set 0 (h0, .inr (ci, fs.set j (.ref q)))) ++ [(q, .inl (cA, N', .inl (fun i : Nat => zI (z_0 r (i : Int)))))]) → va_S A H0 H1 locs1 → W p l e R s m args below meth c H1 locs1 (cells + 1) (slots + N') Q (F0 m (pc + 5) ls rest)) : W p l e R s m args below meth c H locs cells slots Q (F0 m pc ls (.int (zI (N' : Int)) :: .ref h0 :: rest)) := by
  have hlen : 0 < ws.length := (List.getElem?_eq_some_iff.mp he).1
  refine va_newa (atype := .int) (ty := .int) (N' := N') (a0 := (N', .inl (fun i : Nat => zI (z_0 r (i : Int))))) hexec hb (hts _ harr) rfl hK hP hD hS hA (fun cB => ?_) ?_ ?_ ?_ hcells hslots hd1 (fun q cB H1 hK1 hP1 hD1 hS1 => ?_)
  · show arrV cB N' (fun i => Value.int (zI 0)) = _
    rw [z_dv]
  · rw [← zI_0, zI_lt (by omega) zn_0]
    omega
  · rw [zI_clamp (by omega) (by omega)]
    omega
  · show N' * 4 ≤ 536870912
    omega
  · have eB := zs_cA hK1
    subst eB
    refine va_putF (ty := .array .int) hexec hb hts hin ty0 hty hnm hown hK hP1 hD1 hS1 0 (by rw [List.getElem?_append_left hlen]; exact he) hc j hj (hts _ hlink) (fun _ h9 => h9) hfin hin2 hdecl htj rfl rfl hl hd2 (fun H2 locs2 hP2 hD2 hS2 => ?_)
    rw [List.set_append_left _ _ hlen] at hP2 hD2
    exact kk q H2 locs2 hP2 hD2 hS2
end ZT
def z_ad (l : List Nat) : Nat → Nat := fun i => l.getD i 0
def shSt : List zs_C := [.inl (3, [some (.inl 1), some (.inl 2), some (.inl 3), some (.inl 4), some (.inl 5), some (.inr 15)]), .inr (0, 6), .inr (1, 6), .inr (2, 6), .inr (3, 6), .inr (4, 2)]
def shPl : List zs_C := [.inl (1, [some (.inl 1), some (.inl 2), some (.inl 3), some (.inl 4), some (.inl 5), some (.inr 16)]), .inr (5, 200), .inr (6, 200), .inr (7, 200), .inr (8, 200), .inr (9, 200)]
def shRo : List zs_C := [.inl (2, [some (.inl 1), some (.inr 17), some (.inr 18), some (.inr 19)]), .inr (10, 900)]
def shMa : List zs_C := [.inl (0, [some (.inl 1), some (.inl 2), some (.inl 3), some (.inl 4)]), .inr (11, 600), .inr (12, 600), .inr (13, 600), .inr (14, 3)]
set_option maxRecDepth 20000 in
theorem nX3_init_X3 : ∀ w ∈ u_ws RX3 TX3 6, w ∈ wsX3_init := by decide +kernel
set_option maxRecDepth 20000 in
theorem fX3_init_9 : Cond.fieldLink RX3 9 (TX3 0).1 (TX3 0).2.1 (TX3 0).2.2.1 ∈ wsX3_init := by decide +kernel
set_option maxRecDepth 20000 in
theorem fX3_init_15 : Cond.fieldLink RX3 15 (TX3 1).1 (TX3 1).2.1 (TX3 1).2.2.1 ∈ wsX3_init := by decide +kernel
set_option maxRecDepth 20000 in
theorem fX3_init_18 : Cond.fieldLink RX3 18 (TX3 2).1 (TX3 2).2.1 (TX3 2).2.2.1 ∈ wsX3_init := by decide +kernel
set_option maxRecDepth 20000 in
theorem fX3_init_21 : Cond.fieldLink RX3 21 (TX3 3).1 (TX3 3).2.1 (TX3 3).2.2.1 ∈ wsX3_init := by decide +kernel
set_option maxRecDepth 20000 in
theorem fX3_init_24 : Cond.fieldLink RX3 24 (TX3 4).1 (TX3 4).2.1 (TX3 4).2.2.1 ∈ wsX3_init := by decide +kernel
set_option maxRecDepth 20000 in
theorem fX3_init_27 : Cond.fieldLink RX3 27 (TX3 5).1 (TX3 5).2.1 (TX3 5).2.2.1 ∈ wsX3_init := by decide +kernel
set_option maxHeartbeats 4000000 in
set_option maxRecDepth 100000 in
theorem c_X3_init (l : Launch) (dC : Nat → ClassId) (dI : Nat → Nat → Nat) (cA : ClassId) (h0 sz : Nat) : Met l yX3_init wsX3_init ({ frames := 1, cells := 5, slots := 26, locals := 40 }) (va_Pc [.ref h0] (fun U => U.heap.size = sz ∧ va_P (dC, dI) vwCl [(h0, .inr (3, [.null, .null, .null, .null, .null, .int (zI 0)]))] U.heap ∧ va_K (dC, dI) vwCl [(cA, .int)] U ∧ va_D (fun _ => True) [(h0, .inr (3, [.null, .null, .null, .null, .null, .int (zI 0)]))])) (va_Qv (fun a : Nat → Nat => a 0 = h0) (fun a t => zs_B dC dI cA a (va_A [(h0, .inr (3, [.null, .null, .null, .null, .null, .int (zI 0)]))] sz) shSt z_0 t) (va_A [(h0, .inr (3, [.null, .null, .null, .null, .null, .int (zI 0)]))] sz)) 5 26 (va_A [(h0, .inr (3, [.null, .null, .null, .null, .null, .int (zI 0)]))] sz) := by
  refine Met.ofW (cc := cX3_init) (maxL := 1) (ret := none) (by decide +kernel) rfl ?_
  intro p e s m args below meth c s₁ B hml hv
  obtain ⟨rfl, hsz, hP, hK, hD0⟩ := hv
  have hx := B.exec
  have hb := B.bytes
  have hr := B.returns
  have hts := atoms_spec (ws := wsX3_init) B.pre
  have hown : s.vm.findClass RX3 = some m.cls := findClass_of_methodNamed B.named
  have hlocks := B.notSynchronized
  have hin : meth.name = "<init>" := (name_of_methodNamed B.named B.method).1
  subst hsz
  have hD := hD0.self (sz := s.heap.size)
  generalize hAe : va_A [(h0, .inr (3, [.null, .null, .null, .null, .null, .int (zI 0)]))] s.heap.size = A at hD ⊢
  have hA : ∀ q : Nat, s.heap.size ≤ q → A q := fun q h => by rw [← hAe]; exact Or.inr h
  have hS : va_S A s.heap s.heap [] := va_S.rf
  have hP : va_P (dC, dI) vwCl [(h0, .inr (3, [.null, .null, .null, .null, .null, .int (zI 0)]))] s.heap := hP
  have hl := lv_entry ([.ref h0]) (n := 1) (Nat.le_of_ble_eq_true rfl)
  rw [lg_entry_eq]
  generalize (lg_sl ([.ref h0]) ++ List.replicate (1 - (lg_sl ([.ref h0])).length) Slot.unset).toArray = ls at hl ⊢
  have hl : lv_has ls 1 [(0, .ref h0)] := hl
  refine lv_aload_n hx hb dX3_init_0 rfl (lv_at hl 0 rfl) ?_
  refine W.objInit hx hb hown (hts (.methodLink RX3 3 objectInit) (by decide +kernel)) (hts (.instanceMethod objectInit) (by decide +kernel)) (hts (.code objectInit ⟨#[0xb1]⟩ 1 none) (by decide +kernel)) rfl (by rw [hml]; exact hl.1) rfl dX3_init_1 (Nat.le_of_ble_eq_true rfl) (Nat.le_of_ble_eq_true rfl) ?_
  refine W.eq (g2 := F0 m 4 ls []) rfl ?_
  refine lv_aload_n hx hb dX3_init_4 rfl (lv_at hl 0 rfl) ?_
  refine lv_bipush (v := zI ((6 : Nat) : Int)) hx hb dX3_init_5 (by decide) ?_
  refine zs_arr (own := RX3) (Ts := wsX3_init) hx hb hts nX3_init_X3 tyX3 tyX3_ok nmX3 hown hK hP hD hS hA rfl rfl 0 (by decide) fX3_init_9 rfl hin rfl (by decide +kernel) (Nat.le_of_ble_eq_true rfl) (by decide +kernel) 0 6 (by decide) (Nat.le_of_ble_eq_true rfl) (Nat.le_of_ble_eq_true rfl) dX3_init_7 dX3_init_9 (fun q1 H locs hP hD hS => ?_)
  have hP : va_P (dC, dI) vwCl [(h0, .inr (3, [.ref q1, .null, .null, .null, .null, .int (zI 0)])), (q1, .inl (cA, 6, .inl (fun i : Nat => zI (z_0 0 (i : Int)))))] H := hP
  have hD : va_D A [(h0, .inr (3, [.ref q1, .null, .null, .null, .null, .int (zI 0)])), (q1, .inl (cA, 6, .inl (fun i : Nat => zI (z_0 0 (i : Int)))))] := hD
  refine lv_aload_n hx hb dX3_init_12 rfl (lv_at hl 0 rfl) ?_
  refine lv_bipush (v := zI ((6 : Nat) : Int)) hx hb dX3_init_13 (by decide) ?_
  refine zs_arr (own := RX3) (Ts := wsX3_init) hx hb hts nX3_init_X3 tyX3 tyX3_ok nmX3 hown hK hP hD hS hA rfl rfl 1 (by decide) fX3_init_15 rfl hin rfl (by decide +kernel) (Nat.le_of_ble_eq_true rfl) (by decide +kernel) 1 6 (by decide) (Nat.le_of_ble_eq_true rfl) (Nat.le_of_ble_eq_true rfl) dX3_init_15 dX3_init_17 (fun q2 H locs hP hD hS => ?_)
  have hP : va_P (dC, dI) vwCl [(h0, .inr (3, [.ref q1, .ref q2, .null, .null, .null, .int (zI 0)])), (q1, .inl (cA, 6, .inl (fun i : Nat => zI (z_0 0 (i : Int))))), (q2, .inl (cA, 6, .inl (fun i : Nat => zI (z_0 1 (i : Int)))))] H := hP
  have hD : va_D A [(h0, .inr (3, [.ref q1, .ref q2, .null, .null, .null, .int (zI 0)])), (q1, .inl (cA, 6, .inl (fun i : Nat => zI (z_0 0 (i : Int))))), (q2, .inl (cA, 6, .inl (fun i : Nat => zI (z_0 1 (i : Int)))))] := hD
  refine lv_aload_n hx hb dX3_init_20 rfl (lv_at hl 0 rfl) ?_
  refine lv_bipush (v := zI ((6 : Nat) : Int)) hx hb dX3_init_21 (by decide) ?_
  refine zs_arr (own := RX3) (Ts := wsX3_init) hx hb hts nX3_init_X3 tyX3 tyX3_ok nmX3 hown hK hP hD hS hA rfl rfl 2 (by decide) fX3_init_18 rfl hin rfl (by decide +kernel) (Nat.le_of_ble_eq_true rfl) (by decide +kernel) 2 6 (by decide) (Nat.le_of_ble_eq_true rfl) (Nat.le_of_ble_eq_true rfl) dX3_init_23 dX3_init_25 (fun q3 H locs hP hD hS => ?_)
  have hP : va_P (dC, dI) vwCl [(h0, .inr (3, [.ref q1, .ref q2, .ref q3, .null, .null, .int (zI 0)])), (q1, .inl (cA, 6, .inl (fun i : Nat => zI (z_0 0 (i : Int))))), (q2, .inl (cA, 6, .inl (fun i : Nat => zI (z_0 1 (i : Int))))), (q3, .inl (cA, 6, .inl (fun i : Nat => zI (z_0 2 (i : Int)))))] H := hP
  have hD : va_D A [(h0, .inr (3, [.ref q1, .ref q2, .ref q3, .null, .null, .int (zI 0)])), (q1, .inl (cA, 6, .inl (fun i : Nat => zI (z_0 0 (i : Int))))), (q2, .inl (cA, 6, .inl (fun i : Nat => zI (z_0 1 (i : Int))))), (q3, .inl (cA, 6, .inl (fun i : Nat => zI (z_0 2 (i : Int)))))] := hD
  refine lv_aload_n hx hb dX3_init_28 rfl (lv_at hl 0 rfl) ?_
  refine lv_bipush (v := zI ((6 : Nat) : Int)) hx hb dX3_init_29 (by decide) ?_
  refine zs_arr (own := RX3) (Ts := wsX3_init) hx hb hts nX3_init_X3 tyX3 tyX3_ok nmX3 hown hK hP hD hS hA rfl rfl 3 (by decide) fX3_init_21 rfl hin rfl (by decide +kernel) (Nat.le_of_ble_eq_true rfl) (by decide +kernel) 3 6 (by decide) (Nat.le_of_ble_eq_true rfl) (Nat.le_of_ble_eq_true rfl) dX3_init_31 dX3_init_33 (fun q4 H locs hP hD hS => ?_)
  have hP : va_P (dC, dI) vwCl [(h0, .inr (3, [.ref q1, .ref q2, .ref q3, .ref q4, .null, .int (zI 0)])), (q1, .inl (cA, 6, .inl (fun i : Nat => zI (z_0 0 (i : Int))))), (q2, .inl (cA, 6, .inl (fun i : Nat => zI (z_0 1 (i : Int))))), (q3, .inl (cA, 6, .inl (fun i : Nat => zI (z_0 2 (i : Int))))), (q4, .inl (cA, 6, .inl (fun i : Nat => zI (z_0 3 (i : Int)))))] H := hP
  have hD : va_D A [(h0, .inr (3, [.ref q1, .ref q2, .ref q3, .ref q4, .null, .int (zI 0)])), (q1, .inl (cA, 6, .inl (fun i : Nat => zI (z_0 0 (i : Int))))), (q2, .inl (cA, 6, .inl (fun i : Nat => zI (z_0 1 (i : Int))))), (q3, .inl (cA, 6, .inl (fun i : Nat => zI (z_0 2 (i : Int))))), (q4, .inl (cA, 6, .inl (fun i : Nat => zI (z_0 3 (i : Int)))))] := hD
  refine lv_aload_n hx hb dX3_init_36 rfl (lv_at hl 0 rfl) ?_
  refine lv_iconst (v := zI ((2 : Nat) : Int)) hx hb dX3_init_37 (by decide) ?_
  refine zs_arr (own := RX3) (Ts := wsX3_init) hx hb hts nX3_init_X3 tyX3 tyX3_ok nmX3 hown hK hP hD hS hA rfl rfl 4 (by decide) fX3_init_24 rfl hin rfl (by decide +kernel) (Nat.le_of_ble_eq_true rfl) (by decide +kernel) 4 2 (by decide) (Nat.le_of_ble_eq_true rfl) (Nat.le_of_ble_eq_true rfl) dX3_init_38 dX3_init_40 (fun q5 H locs hP hD hS => ?_)
  have hP : va_P (dC, dI) vwCl [(h0, .inr (3, [.ref q1, .ref q2, .ref q3, .ref q4, .ref q5, .int (zI 0)])), (q1, .inl (cA, 6, .inl (fun i : Nat => zI (z_0 0 (i : Int))))), (q2, .inl (cA, 6, .inl (fun i : Nat => zI (z_0 1 (i : Int))))), (q3, .inl (cA, 6, .inl (fun i : Nat => zI (z_0 2 (i : Int))))), (q4, .inl (cA, 6, .inl (fun i : Nat => zI (z_0 3 (i : Int))))), (q5, .inl (cA, 2, .inl (fun i : Nat => zI (z_0 4 (i : Int)))))] H := hP
  have hD : va_D A [(h0, .inr (3, [.ref q1, .ref q2, .ref q3, .ref q4, .ref q5, .int (zI 0)])), (q1, .inl (cA, 6, .inl (fun i : Nat => zI (z_0 0 (i : Int))))), (q2, .inl (cA, 6, .inl (fun i : Nat => zI (z_0 1 (i : Int))))), (q3, .inl (cA, 6, .inl (fun i : Nat => zI (z_0 2 (i : Int))))), (q4, .inl (cA, 6, .inl (fun i : Nat => zI (z_0 3 (i : Int))))), (q5, .inl (cA, 2, .inl (fun i : Nat => zI (z_0 4 (i : Int)))))] := hD
  refine lv_aload_n hx hb dX3_init_43 rfl (lv_at hl 0 rfl) ?_
  refine lv_iconst (v := zI 0) hx hb dX3_init_44 rfl ?_
  refine va_put (D := (dC, dI)) (ci := 3) (v := .int (zI 0)) (ty := .int) (C := RX3) (T := TX3) (N := 6) hx hb hts nX3_init_X3 tyX3 tyX3_ok nmX3 hown hK hP hD hS 0 rfl rfl 5 (by decide) (hts _ fX3_init_27) (fun _ h9 => h9) rfl (by decide +kernel) rfl rfl (Nat.le_of_ble_eq_true rfl) dX3_init_45 (fun H locs hP hD hS => ?_)
  have hP : va_P (dC, dI) vwCl [(h0, .inr (3, [.ref q1, .ref q2, .ref q3, .ref q4, .ref q5, .int (zI 0)])), (q1, .inl (cA, 6, .inl (fun i : Nat => zI (z_0 0 (i : Int))))), (q2, .inl (cA, 6, .inl (fun i : Nat => zI (z_0 1 (i : Int))))), (q3, .inl (cA, 6, .inl (fun i : Nat => zI (z_0 2 (i : Int))))), (q4, .inl (cA, 6, .inl (fun i : Nat => zI (z_0 3 (i : Int))))), (q5, .inl (cA, 2, .inl (fun i : Nat => zI (z_0 4 (i : Int)))))] H := hP
  have hD : va_D A [(h0, .inr (3, [.ref q1, .ref q2, .ref q3, .ref q4, .ref q5, .int (zI 0)])), (q1, .inl (cA, 6, .inl (fun i : Nat => zI (z_0 0 (i : Int))))), (q2, .inl (cA, 6, .inl (fun i : Nat => zI (z_0 1 (i : Int))))), (q3, .inl (cA, 6, .inl (fun i : Nat => zI (z_0 2 (i : Int))))), (q4, .inl (cA, 6, .inl (fun i : Nat => zI (z_0 3 (i : Int))))), (q5, .inl (cA, 2, .inl (fun i : Nat => zI (z_0 4 (i : Int)))))] := hD
  refine W.widen (k := 5) (n := 26) (Nat.le_of_ble_eq_true rfl) (Nat.le_of_ble_eq_true rfl) ?_
  exact W.vret hx hb hr (fun t ht hW => ⟨⟨(z_ad [h0, q1, q2, q3, q4, q5]), rfl, rfl, by rw [ht, zs_w_r]; exact hP, va_K.moved hW.alike hK, by rw [zs_w_r]; exact hD⟩, hS.F ht⟩) hS.2.2 dX3_init_48
set_option maxRecDepth 20000 in
theorem nX1_init_X1 : ∀ w ∈ u_ws RX1 TX1 6, w ∈ wsX1_init := by decide +kernel
set_option maxRecDepth 20000 in
theorem fX1_init_9 : Cond.fieldLink RX1 9 (TX1 0).1 (TX1 0).2.1 (TX1 0).2.2.1 ∈ wsX1_init := by decide +kernel
set_option maxRecDepth 20000 in
theorem fX1_init_15 : Cond.fieldLink RX1 15 (TX1 1).1 (TX1 1).2.1 (TX1 1).2.2.1 ∈ wsX1_init := by decide +kernel
set_option maxRecDepth 20000 in
theorem fX1_init_18 : Cond.fieldLink RX1 18 (TX1 2).1 (TX1 2).2.1 (TX1 2).2.2.1 ∈ wsX1_init := by decide +kernel
set_option maxRecDepth 20000 in
theorem fX1_init_21 : Cond.fieldLink RX1 21 (TX1 3).1 (TX1 3).2.1 (TX1 3).2.2.1 ∈ wsX1_init := by decide +kernel
set_option maxRecDepth 20000 in
theorem fX1_init_24 : Cond.fieldLink RX1 24 (TX1 4).1 (TX1 4).2.1 (TX1 4).2.2.1 ∈ wsX1_init := by decide +kernel
set_option maxRecDepth 20000 in
theorem fX1_init_27 : Cond.fieldLink RX1 27 (TX1 5).1 (TX1 5).2.1 (TX1 5).2.2.1 ∈ wsX1_init := by decide +kernel
set_option maxHeartbeats 4000000 in
set_option maxRecDepth 100000 in
theorem c_X1_init (l : Launch) (dC : Nat → ClassId) (dI : Nat → Nat → Nat) (cA : ClassId) (h0 sz : Nat) : Met l yX1_init wsX1_init ({ frames := 1, cells := 5, slots := 1000, locals := 40 }) (va_Pc [.ref h0] (fun U => U.heap.size = sz ∧ va_P (dC, dI) vwCl [(h0, .inr (1, [.null, .null, .null, .null, .null, .int (zI 0)]))] U.heap ∧ va_K (dC, dI) vwCl [(cA, .int)] U ∧ va_D (fun _ => True) [(h0, .inr (1, [.null, .null, .null, .null, .null, .int (zI 0)]))])) (va_Qv (fun a : Nat → Nat => a 0 = h0) (fun a t => zs_B dC dI cA a (va_A [(h0, .inr (1, [.null, .null, .null, .null, .null, .int (zI 0)]))] sz) shPl (zs_fill z_0 5 0 200 (-1)) t) (va_A [(h0, .inr (1, [.null, .null, .null, .null, .null, .int (zI 0)]))] sz)) 5 1000 (va_A [(h0, .inr (1, [.null, .null, .null, .null, .null, .int (zI 0)]))] sz) := by
  refine Met.ofW (cc := cX1_init) (maxL := 1) (ret := none) (by decide +kernel) rfl ?_
  intro p e s m args below meth c s₁ B hml hv
  obtain ⟨rfl, hsz, hP, hK, hD0⟩ := hv
  have hx := B.exec
  have hb := B.bytes
  have hr := B.returns
  have hts := atoms_spec (ws := wsX1_init) B.pre
  have hown : s.vm.findClass RX1 = some m.cls := findClass_of_methodNamed B.named
  have hlocks := B.notSynchronized
  have hin : meth.name = "<init>" := (name_of_methodNamed B.named B.method).1
  subst hsz
  have hD := hD0.self (sz := s.heap.size)
  generalize hAe : va_A [(h0, .inr (1, [.null, .null, .null, .null, .null, .int (zI 0)]))] s.heap.size = A at hD ⊢
  have hA : ∀ q : Nat, s.heap.size ≤ q → A q := fun q h => by rw [← hAe]; exact Or.inr h
  have hS : va_S A s.heap s.heap [] := va_S.rf
  have hP : va_P (dC, dI) vwCl [(h0, .inr (1, [.null, .null, .null, .null, .null, .int (zI 0)]))] s.heap := hP
  have hl := lv_entry ([.ref h0]) (n := 1) (Nat.le_of_ble_eq_true rfl)
  rw [lg_entry_eq]
  generalize (lg_sl ([.ref h0]) ++ List.replicate (1 - (lg_sl ([.ref h0])).length) Slot.unset).toArray = ls at hl ⊢
  have hl : lv_has ls 1 [(0, .ref h0)] := hl
  refine lv_aload_n hx hb dX1_init_0 rfl (lv_at hl 0 rfl) ?_
  refine W.objInit hx hb hown (hts (.methodLink RX1 3 objectInit) (by decide +kernel)) (hts (.instanceMethod objectInit) (by decide +kernel)) (hts (.code objectInit ⟨#[0xb1]⟩ 1 none) (by decide +kernel)) rfl (by rw [hml]; exact hl.1) rfl dX1_init_1 (Nat.le_of_ble_eq_true rfl) (Nat.le_of_ble_eq_true rfl) ?_
  refine W.eq (g2 := F0 m 4 ls []) rfl ?_
  refine lv_aload_n hx hb dX1_init_4 rfl (lv_at hl 0 rfl) ?_
  refine lv_sipush (v := zI ((200 : Nat) : Int)) hx hb dX1_init_5 (by decide) ?_
  refine zs_arr (own := RX1) (Ts := wsX1_init) hx hb hts nX1_init_X1 tyX1 tyX1_ok nmX1 hown hK hP hD hS hA rfl rfl 0 (by decide) fX1_init_9 rfl hin rfl (by decide +kernel) (Nat.le_of_ble_eq_true rfl) (by decide +kernel) 5 200 (by decide) (Nat.le_of_ble_eq_true rfl) (Nat.le_of_ble_eq_true rfl) dX1_init_8 dX1_init_10 (fun q1 H locs hP hD hS => ?_)
  have hP : va_P (dC, dI) vwCl [(h0, .inr (1, [.ref q1, .null, .null, .null, .null, .int (zI 0)])), (q1, .inl (cA, 200, .inl (fun i : Nat => zI (z_0 5 (i : Int)))))] H := hP
  have hD : va_D A [(h0, .inr (1, [.ref q1, .null, .null, .null, .null, .int (zI 0)])), (q1, .inl (cA, 200, .inl (fun i : Nat => zI (z_0 5 (i : Int)))))] := hD
  refine lv_aload_n hx hb dX1_init_13 rfl (lv_at hl 0 rfl) ?_
  refine lv_sipush (v := zI ((200 : Nat) : Int)) hx hb dX1_init_14 (by decide) ?_
  refine zs_arr (own := RX1) (Ts := wsX1_init) hx hb hts nX1_init_X1 tyX1 tyX1_ok nmX1 hown hK hP hD hS hA rfl rfl 1 (by decide) fX1_init_15 rfl hin rfl (by decide +kernel) (Nat.le_of_ble_eq_true rfl) (by decide +kernel) 6 200 (by decide) (Nat.le_of_ble_eq_true rfl) (Nat.le_of_ble_eq_true rfl) dX1_init_17 dX1_init_19 (fun q2 H locs hP hD hS => ?_)
  have hP : va_P (dC, dI) vwCl [(h0, .inr (1, [.ref q1, .ref q2, .null, .null, .null, .int (zI 0)])), (q1, .inl (cA, 200, .inl (fun i : Nat => zI (z_0 5 (i : Int))))), (q2, .inl (cA, 200, .inl (fun i : Nat => zI (z_0 6 (i : Int)))))] H := hP
  have hD : va_D A [(h0, .inr (1, [.ref q1, .ref q2, .null, .null, .null, .int (zI 0)])), (q1, .inl (cA, 200, .inl (fun i : Nat => zI (z_0 5 (i : Int))))), (q2, .inl (cA, 200, .inl (fun i : Nat => zI (z_0 6 (i : Int)))))] := hD
  refine lv_aload_n hx hb dX1_init_22 rfl (lv_at hl 0 rfl) ?_
  refine lv_sipush (v := zI ((200 : Nat) : Int)) hx hb dX1_init_23 (by decide) ?_
  refine zs_arr (own := RX1) (Ts := wsX1_init) hx hb hts nX1_init_X1 tyX1 tyX1_ok nmX1 hown hK hP hD hS hA rfl rfl 2 (by decide) fX1_init_18 rfl hin rfl (by decide +kernel) (Nat.le_of_ble_eq_true rfl) (by decide +kernel) 7 200 (by decide) (Nat.le_of_ble_eq_true rfl) (Nat.le_of_ble_eq_true rfl) dX1_init_26 dX1_init_28 (fun q3 H locs hP hD hS => ?_)
  have hP : va_P (dC, dI) vwCl [(h0, .inr (1, [.ref q1, .ref q2, .ref q3, .null, .null, .int (zI 0)])), (q1, .inl (cA, 200, .inl (fun i : Nat => zI (z_0 5 (i : Int))))), (q2, .inl (cA, 200, .inl (fun i : Nat => zI (z_0 6 (i : Int))))), (q3, .inl (cA, 200, .inl (fun i : Nat => zI (z_0 7 (i : Int)))))] H := hP
  have hD : va_D A [(h0, .inr (1, [.ref q1, .ref q2, .ref q3, .null, .null, .int (zI 0)])), (q1, .inl (cA, 200, .inl (fun i : Nat => zI (z_0 5 (i : Int))))), (q2, .inl (cA, 200, .inl (fun i : Nat => zI (z_0 6 (i : Int))))), (q3, .inl (cA, 200, .inl (fun i : Nat => zI (z_0 7 (i : Int)))))] := hD
  refine lv_aload_n hx hb dX1_init_31 rfl (lv_at hl 0 rfl) ?_
  refine lv_sipush (v := zI ((200 : Nat) : Int)) hx hb dX1_init_32 (by decide) ?_
  refine zs_arr (own := RX1) (Ts := wsX1_init) hx hb hts nX1_init_X1 tyX1 tyX1_ok nmX1 hown hK hP hD hS hA rfl rfl 3 (by decide) fX1_init_21 rfl hin rfl (by decide +kernel) (Nat.le_of_ble_eq_true rfl) (by decide +kernel) 8 200 (by decide) (Nat.le_of_ble_eq_true rfl) (Nat.le_of_ble_eq_true rfl) dX1_init_35 dX1_init_37 (fun q4 H locs hP hD hS => ?_)
  have hP : va_P (dC, dI) vwCl [(h0, .inr (1, [.ref q1, .ref q2, .ref q3, .ref q4, .null, .int (zI 0)])), (q1, .inl (cA, 200, .inl (fun i : Nat => zI (z_0 5 (i : Int))))), (q2, .inl (cA, 200, .inl (fun i : Nat => zI (z_0 6 (i : Int))))), (q3, .inl (cA, 200, .inl (fun i : Nat => zI (z_0 7 (i : Int))))), (q4, .inl (cA, 200, .inl (fun i : Nat => zI (z_0 8 (i : Int)))))] H := hP
  have hD : va_D A [(h0, .inr (1, [.ref q1, .ref q2, .ref q3, .ref q4, .null, .int (zI 0)])), (q1, .inl (cA, 200, .inl (fun i : Nat => zI (z_0 5 (i : Int))))), (q2, .inl (cA, 200, .inl (fun i : Nat => zI (z_0 6 (i : Int))))), (q3, .inl (cA, 200, .inl (fun i : Nat => zI (z_0 7 (i : Int))))), (q4, .inl (cA, 200, .inl (fun i : Nat => zI (z_0 8 (i : Int)))))] := hD
  refine lv_aload_n hx hb dX1_init_40 rfl (lv_at hl 0 rfl) ?_
  refine lv_sipush (v := zI ((200 : Nat) : Int)) hx hb dX1_init_41 (by decide) ?_
  refine zs_arr (own := RX1) (Ts := wsX1_init) hx hb hts nX1_init_X1 tyX1 tyX1_ok nmX1 hown hK hP hD hS hA rfl rfl 4 (by decide) fX1_init_24 rfl hin rfl (by decide +kernel) (Nat.le_of_ble_eq_true rfl) (by decide +kernel) 9 200 (by decide) (Nat.le_of_ble_eq_true rfl) (Nat.le_of_ble_eq_true rfl) dX1_init_44 dX1_init_46 (fun q5 H locs hP hD hS => ?_)
  have hP : va_P (dC, dI) vwCl [(h0, .inr (1, [.ref q1, .ref q2, .ref q3, .ref q4, .ref q5, .int (zI 0)])), (q1, .inl (cA, 200, .inl (fun i : Nat => zI (z_0 5 (i : Int))))), (q2, .inl (cA, 200, .inl (fun i : Nat => zI (z_0 6 (i : Int))))), (q3, .inl (cA, 200, .inl (fun i : Nat => zI (z_0 7 (i : Int))))), (q4, .inl (cA, 200, .inl (fun i : Nat => zI (z_0 8 (i : Int))))), (q5, .inl (cA, 200, .inl (fun i : Nat => zI (z_0 9 (i : Int)))))] H := hP
  have hD : va_D A [(h0, .inr (1, [.ref q1, .ref q2, .ref q3, .ref q4, .ref q5, .int (zI 0)])), (q1, .inl (cA, 200, .inl (fun i : Nat => zI (z_0 5 (i : Int))))), (q2, .inl (cA, 200, .inl (fun i : Nat => zI (z_0 6 (i : Int))))), (q3, .inl (cA, 200, .inl (fun i : Nat => zI (z_0 7 (i : Int))))), (q4, .inl (cA, 200, .inl (fun i : Nat => zI (z_0 8 (i : Int))))), (q5, .inl (cA, 200, .inl (fun i : Nat => zI (z_0 9 (i : Int)))))] := hD
  refine lv_aload_n hx hb dX1_init_49 rfl (lv_at hl 0 rfl) ?_
  refine lv_iconst (v := zI 0) hx hb dX1_init_50 rfl ?_
  refine va_put (D := (dC, dI)) (ci := 1) (v := .int (zI 0)) (ty := .int) (C := RX1) (T := TX1) (N := 6) hx hb hts nX1_init_X1 tyX1 tyX1_ok nmX1 hown hK hP hD hS 0 rfl rfl 5 (by decide) (hts _ fX1_init_27) (fun _ h9 => h9) rfl (by decide +kernel) rfl rfl (Nat.le_of_ble_eq_true rfl) dX1_init_51 (fun H locs hP hD hS => ?_)
  have hP : va_P (dC, dI) vwCl [(h0, .inr (1, [.ref q1, .ref q2, .ref q3, .ref q4, .ref q5, .int (zI 0)])), (q1, .inl (cA, 200, .inl (fun i : Nat => zI (z_0 5 (i : Int))))), (q2, .inl (cA, 200, .inl (fun i : Nat => zI (z_0 6 (i : Int))))), (q3, .inl (cA, 200, .inl (fun i : Nat => zI (z_0 7 (i : Int))))), (q4, .inl (cA, 200, .inl (fun i : Nat => zI (z_0 8 (i : Int))))), (q5, .inl (cA, 200, .inl (fun i : Nat => zI (z_0 9 (i : Int)))))] H := hP
  have hD : va_D A [(h0, .inr (1, [.ref q1, .ref q2, .ref q3, .ref q4, .ref q5, .int (zI 0)])), (q1, .inl (cA, 200, .inl (fun i : Nat => zI (z_0 5 (i : Int))))), (q2, .inl (cA, 200, .inl (fun i : Nat => zI (z_0 6 (i : Int))))), (q3, .inl (cA, 200, .inl (fun i : Nat => zI (z_0 7 (i : Int))))), (q4, .inl (cA, 200, .inl (fun i : Nat => zI (z_0 8 (i : Int))))), (q5, .inl (cA, 200, .inl (fun i : Nat => zI (z_0 9 (i : Int)))))] := hD
  refine lv_aload_n hx hb dX1_init_54 rfl (lv_at hl 0 rfl) ?_
  refine va_get (D := (dC, dI)) (ci := 1) (v := .ref q1) (C := RX1) (T := TX1) (N := 6) hx hb hts nX1_init_X1 hown hK hP 0 rfl rfl 0 (by decide) (hts _ fX1_init_9) (fun _ h9 => h9) rfl dX1_init_55 ?_
  refine lv_iconst (v := zI (-1)) hx hb dX1_init_58 (by decide) ?_
  have hPc := hP.sub (ws' := [(q1, .inl (cA, 200, .inl (fun i : Nat => zI (z_0 5 (i : Int)))))]) [1] rfl
  have hDc := hD.sub (ws' := [(q1, .inl (cA, 200, .inl (fun i : Nat => zI (z_0 5 (i : Int)))))]) [1] (by decide) rfl
  have hFc := va_free (wc := [(q1, .inl (cA, 200, .inl (fun i : Nat => zI (z_0 5 (i : Int)))))]) hD hS hA [1] rfl
  have hMt := zs_met YJ7_fill_53178 (As := [.inr 0, .inl (-1)]) (by decide) (t_fill (sh := [.inr (5, 200)]) (q := 0) (r := 5) (N := 200) rfl rfl (by decide) (-1) z_0) l dC dI cA (fun _ => q1) H.size
  rw [show zs_w cA (fun _ => q1) z_0 [.inr (5, 200)] = [(q1, .inl (cA, 200, .inl (fun i : Nat => zI (z_0 5 (i : Int)))))] from zs_w_r cA (fun _ => q1) z_0 [.inr (5, 200)]] at hMt
  refine va_callv (va_runS (As := [.ref q1, .int (zI (-1))]) (rest := []) ⟨hx, hb, hml, hown, hts⟩ hMt (va_cwS 2 hts gX1_init_J7_fill_53178 rfl rfl rfl (by decide +kernel) ⟨Nat.le_of_ble_eq_true rfl, Nat.le_of_ble_eq_true rfl⟩) ⟨zs_blind, fun U hU hW => ⟨rfl, by rw [hU], by rw [hU, zs_w_r]; exact hPc, va_K.moved hW.alike hK, by rw [zs_w_r]; exact hDc.weaken (fun _ _ _ _ => trivial)⟩⟩ rfl rfl hl.1 rfl (lv_room (Nat.le_of_ble_eq_true rfl)) dX1_init_59 ⟨Nat.le_of_ble_eq_true rfl, Nat.le_of_ble_eq_true rfl⟩) hS (fun q _ h => hFc q h) hFc (fun u t H1 locs ht hvm hw hB hz1 hk1 hS => ?_)
  obtain ⟨-, rfl⟩ := hw
  obtain ⟨hP1, hK1, hD1⟩ := hB
  rw [ht] at hP1
  rw [zs_w_r] at hP1 hD1
  obtain ⟨hP, hD⟩ := va_join (wr := [(h0, .inr (1, [.ref q1, .ref q2, .ref q3, .ref q4, .ref q5, .int (zI 0)])), (q2, .inl (cA, 200, .inl (fun i : Nat => zI (z_0 6 (i : Int))))), (q3, .inl (cA, 200, .inl (fun i : Nat => zI (z_0 7 (i : Int))))), (q4, .inl (cA, 200, .inl (fun i : Nat => zI (z_0 8 (i : Int))))), (q5, .inl (cA, 200, .inl (fun i : Nat => zI (z_0 9 (i : Int)))))]) (w1 := [(q1, .inl (cA, 200, .inl (fun i : Nat => zI ((zs_fill z_0 5 0 200 (-1)) 5 (i : Int)))))]) hP hD [1] [0, 2, 3, 4, 5] rfl rfl (by decide) (by decide) hk1 hFc hP1 hD1
  generalize H1 = H at hP hS ⊢
  have hP := hP.sub (ws' := [(h0, .inr (1, [.ref q1, .ref q2, .ref q3, .ref q4, .ref q5, .int (zI 0)])), (q1, .inl (cA, 200, .inl (fun i : Nat => zI ((zs_fill z_0 5 0 200 (-1)) 5 (i : Int))))), (q2, .inl (cA, 200, .inl (fun i : Nat => zI (z_0 6 (i : Int))))), (q3, .inl (cA, 200, .inl (fun i : Nat => zI (z_0 7 (i : Int))))), (q4, .inl (cA, 200, .inl (fun i : Nat => zI (z_0 8 (i : Int))))), (q5, .inl (cA, 200, .inl (fun i : Nat => zI (z_0 9 (i : Int)))))]) [0, 5, 1, 2, 3, 4] rfl
  have hD := hD.sub (ws' := [(h0, .inr (1, [.ref q1, .ref q2, .ref q3, .ref q4, .ref q5, .int (zI 0)])), (q1, .inl (cA, 200, .inl (fun i : Nat => zI ((zs_fill z_0 5 0 200 (-1)) 5 (i : Int))))), (q2, .inl (cA, 200, .inl (fun i : Nat => zI (z_0 6 (i : Int))))), (q3, .inl (cA, 200, .inl (fun i : Nat => zI (z_0 7 (i : Int))))), (q4, .inl (cA, 200, .inl (fun i : Nat => zI (z_0 8 (i : Int))))), (q5, .inl (cA, 200, .inl (fun i : Nat => zI (z_0 9 (i : Int)))))]) [0, 5, 1, 2, 3, 4] (by decide) rfl
  refine W.widen (k := 5) (n := 1000) (Nat.le_of_ble_eq_true rfl) (Nat.le_of_ble_eq_true rfl) ?_
  exact W.vret hx hb hr (fun t ht hW => ⟨⟨(z_ad [h0, q1, q2, q3, q4, q5]), rfl, rfl, by rw [ht, zs_w_r]; exact hP, va_K.moved hW.alike hK, by rw [zs_w_r]; exact hD⟩, hS.F ht⟩) hS.2.2 dX1_init_62
set_option maxRecDepth 20000 in
theorem nX2_init_X2 : ∀ w ∈ u_ws RX2 TX2 4, w ∈ wsX2_init := by decide +kernel
set_option maxRecDepth 20000 in
theorem fX2_init_9 : Cond.fieldLink RX2 9 (TX2 0).1 (TX2 0).2.1 (TX2 0).2.2.1 ∈ wsX2_init := by decide +kernel
set_option maxRecDepth 20000 in
theorem fX2_init_15 : Cond.fieldLink RX2 15 (TX2 1).1 (TX2 1).2.1 (TX2 1).2.2.1 ∈ wsX2_init := by decide +kernel
set_option maxRecDepth 20000 in
theorem fX2_init_19 : Cond.fieldLink RX2 19 (TX2 2).1 (TX2 2).2.1 (TX2 2).2.2.1 ∈ wsX2_init := by decide +kernel
set_option maxRecDepth 20000 in
theorem fX2_init_22 : Cond.fieldLink RX2 22 (TX2 3).1 (TX2 3).2.1 (TX2 3).2.2.1 ∈ wsX2_init := by decide +kernel
set_option maxHeartbeats 4000000 in
set_option maxRecDepth 100000 in
theorem c_X2_init (l : Launch) (dC : Nat → ClassId) (dI : Nat → Nat → Nat) (cA : ClassId) (h0 sz : Nat) : Met l yX2_init wsX2_init ({ frames := 1, cells := 1, slots := 900, locals := 40 }) (va_Pc [.ref h0] (fun U => U.heap.size = sz ∧ va_P (dC, dI) vwCl [(h0, .inr (2, [.null, .int (zI 0), .int (zI 0), .int (zI 0)]))] U.heap ∧ va_K (dC, dI) vwCl [(cA, .int)] U ∧ va_D (fun _ => True) [(h0, .inr (2, [.null, .int (zI 0), .int (zI 0), .int (zI 0)]))])) (va_Qv (fun a : Nat → Nat => a 0 = h0) (fun a t => zs_B dC dI cA a (va_A [(h0, .inr (2, [.null, .int (zI 0), .int (zI 0), .int (zI 0)]))] sz) shRo z_0 t) (va_A [(h0, .inr (2, [.null, .int (zI 0), .int (zI 0), .int (zI 0)]))] sz)) 1 900 (va_A [(h0, .inr (2, [.null, .int (zI 0), .int (zI 0), .int (zI 0)]))] sz) := by
  refine Met.ofW (cc := cX2_init) (maxL := 1) (ret := none) (by decide +kernel) rfl ?_
  intro p e s m args below meth c s₁ B hml hv
  obtain ⟨rfl, hsz, hP, hK, hD0⟩ := hv
  have hx := B.exec
  have hb := B.bytes
  have hr := B.returns
  have hts := atoms_spec (ws := wsX2_init) B.pre
  have hown : s.vm.findClass RX2 = some m.cls := findClass_of_methodNamed B.named
  have hlocks := B.notSynchronized
  have hin : meth.name = "<init>" := (name_of_methodNamed B.named B.method).1
  subst hsz
  have hD := hD0.self (sz := s.heap.size)
  generalize hAe : va_A [(h0, .inr (2, [.null, .int (zI 0), .int (zI 0), .int (zI 0)]))] s.heap.size = A at hD ⊢
  have hA : ∀ q : Nat, s.heap.size ≤ q → A q := fun q h => by rw [← hAe]; exact Or.inr h
  have hS : va_S A s.heap s.heap [] := va_S.rf
  have hP : va_P (dC, dI) vwCl [(h0, .inr (2, [.null, .int (zI 0), .int (zI 0), .int (zI 0)]))] s.heap := hP
  have hl := lv_entry ([.ref h0]) (n := 1) (Nat.le_of_ble_eq_true rfl)
  rw [lg_entry_eq]
  generalize (lg_sl ([.ref h0]) ++ List.replicate (1 - (lg_sl ([.ref h0])).length) Slot.unset).toArray = ls at hl ⊢
  have hl : lv_has ls 1 [(0, .ref h0)] := hl
  refine lv_aload_n hx hb dX2_init_0 rfl (lv_at hl 0 rfl) ?_
  refine W.objInit hx hb hown (hts (.methodLink RX2 3 objectInit) (by decide +kernel)) (hts (.instanceMethod objectInit) (by decide +kernel)) (hts (.code objectInit ⟨#[0xb1]⟩ 1 none) (by decide +kernel)) rfl (by rw [hml]; exact hl.1) rfl dX2_init_1 (Nat.le_of_ble_eq_true rfl) (Nat.le_of_ble_eq_true rfl) ?_
  refine W.eq (g2 := F0 m 4 ls []) rfl ?_
  refine lv_aload_n hx hb dX2_init_4 rfl (lv_at hl 0 rfl) ?_
  refine lv_sipush (v := zI ((900 : Nat) : Int)) hx hb dX2_init_5 (by decide) ?_
  refine zs_arr (own := RX2) (Ts := wsX2_init) hx hb hts nX2_init_X2 tyX2 tyX2_ok nmX2 hown hK hP hD hS hA rfl rfl 0 (by decide) fX2_init_9 rfl hin rfl (by decide +kernel) (Nat.le_of_ble_eq_true rfl) (by decide +kernel) 10 900 (by decide) (Nat.le_of_ble_eq_true rfl) (Nat.le_of_ble_eq_true rfl) dX2_init_8 dX2_init_10 (fun q1 H locs hP hD hS => ?_)
  have hP : va_P (dC, dI) vwCl [(h0, .inr (2, [.ref q1, .int (zI 0), .int (zI 0), .int (zI 0)])), (q1, .inl (cA, 900, .inl (fun i : Nat => zI (z_0 10 (i : Int)))))] H := hP
  have hD : va_D A [(h0, .inr (2, [.ref q1, .int (zI 0), .int (zI 0), .int (zI 0)])), (q1, .inl (cA, 900, .inl (fun i : Nat => zI (z_0 10 (i : Int)))))] := hD
  refine lv_aload_n hx hb dX2_init_13 rfl (lv_at hl 0 rfl) ?_
  refine lv_iconst (v := zI 0) hx hb dX2_init_14 rfl ?_
  refine va_put (D := (dC, dI)) (ci := 2) (v := .int (zI 0)) (ty := .int) (C := RX2) (T := TX2) (N := 4) hx hb hts nX2_init_X2 tyX2 tyX2_ok nmX2 hown hK hP hD hS 0 rfl rfl 1 (by decide) (hts _ fX2_init_15) (fun _ h9 => h9) rfl (by decide +kernel) rfl rfl (Nat.le_of_ble_eq_true rfl) dX2_init_15 (fun H locs hP hD hS => ?_)
  have hP : va_P (dC, dI) vwCl [(h0, .inr (2, [.ref q1, .int (zI 0), .int (zI 0), .int (zI 0)])), (q1, .inl (cA, 900, .inl (fun i : Nat => zI (z_0 10 (i : Int)))))] H := hP
  have hD : va_D A [(h0, .inr (2, [.ref q1, .int (zI 0), .int (zI 0), .int (zI 0)])), (q1, .inl (cA, 900, .inl (fun i : Nat => zI (z_0 10 (i : Int)))))] := hD
  refine lv_aload_n hx hb dX2_init_18 rfl (lv_at hl 0 rfl) ?_
  refine lv_iconst (v := zI 0) hx hb dX2_init_19 rfl ?_
  refine va_put (D := (dC, dI)) (ci := 2) (v := .int (zI 0)) (ty := .int) (C := RX2) (T := TX2) (N := 4) hx hb hts nX2_init_X2 tyX2 tyX2_ok nmX2 hown hK hP hD hS 0 rfl rfl 2 (by decide) (hts _ fX2_init_19) (fun _ h9 => h9) rfl (by decide +kernel) rfl rfl (Nat.le_of_ble_eq_true rfl) dX2_init_20 (fun H locs hP hD hS => ?_)
  have hP : va_P (dC, dI) vwCl [(h0, .inr (2, [.ref q1, .int (zI 0), .int (zI 0), .int (zI 0)])), (q1, .inl (cA, 900, .inl (fun i : Nat => zI (z_0 10 (i : Int)))))] H := hP
  have hD : va_D A [(h0, .inr (2, [.ref q1, .int (zI 0), .int (zI 0), .int (zI 0)])), (q1, .inl (cA, 900, .inl (fun i : Nat => zI (z_0 10 (i : Int)))))] := hD
  refine lv_aload_n hx hb dX2_init_23 rfl (lv_at hl 0 rfl) ?_
  refine lv_iconst (v := zI 0) hx hb dX2_init_24 rfl ?_
  refine va_put (D := (dC, dI)) (ci := 2) (v := .int (zI 0)) (ty := .int) (C := RX2) (T := TX2) (N := 4) hx hb hts nX2_init_X2 tyX2 tyX2_ok nmX2 hown hK hP hD hS 0 rfl rfl 3 (by decide) (hts _ fX2_init_22) (fun _ h9 => h9) rfl (by decide +kernel) rfl rfl (Nat.le_of_ble_eq_true rfl) dX2_init_25 (fun H locs hP hD hS => ?_)
  have hP : va_P (dC, dI) vwCl [(h0, .inr (2, [.ref q1, .int (zI 0), .int (zI 0), .int (zI 0)])), (q1, .inl (cA, 900, .inl (fun i : Nat => zI (z_0 10 (i : Int)))))] H := hP
  have hD : va_D A [(h0, .inr (2, [.ref q1, .int (zI 0), .int (zI 0), .int (zI 0)])), (q1, .inl (cA, 900, .inl (fun i : Nat => zI (z_0 10 (i : Int)))))] := hD
  refine W.widen (k := 1) (n := 900) (Nat.le_of_ble_eq_true rfl) (Nat.le_of_ble_eq_true rfl) ?_
  exact W.vret hx hb hr (fun t ht hW => ⟨⟨(z_ad [h0, q1]), rfl, rfl, by rw [ht, zs_w_r]; exact hP, va_K.moved hW.alike hK, by rw [zs_w_r]; exact hD⟩, hS.F ht⟩) hS.2.2 dX2_init_28
set_option maxRecDepth 20000 in
theorem nX0_init_X0 : ∀ w ∈ u_ws RX0 TX0 4, w ∈ wsX0_init := by decide +kernel
set_option maxRecDepth 20000 in
theorem fX0_init_9 : Cond.fieldLink RX0 9 (TX0 0).1 (TX0 0).2.1 (TX0 0).2.2.1 ∈ wsX0_init := by decide +kernel
set_option maxRecDepth 20000 in
theorem fX0_init_15 : Cond.fieldLink RX0 15 (TX0 1).1 (TX0 1).2.1 (TX0 1).2.2.1 ∈ wsX0_init := by decide +kernel
set_option maxRecDepth 20000 in
theorem fX0_init_18 : Cond.fieldLink RX0 18 (TX0 2).1 (TX0 2).2.1 (TX0 2).2.2.1 ∈ wsX0_init := by decide +kernel
set_option maxRecDepth 20000 in
theorem fX0_init_21 : Cond.fieldLink RX0 21 (TX0 3).1 (TX0 3).2.1 (TX0 3).2.2.1 ∈ wsX0_init := by decide +kernel
set_option maxHeartbeats 4000000 in
set_option maxRecDepth 100000 in
theorem c_X0_init (l : Launch) (dC : Nat → ClassId) (dI : Nat → Nat → Nat) (cA : ClassId) (h0 sz : Nat) : Met l yX0_init wsX0_init ({ frames := 1, cells := 4, slots := 1803, locals := 40 }) (va_Pc [.ref h0] (fun U => U.heap.size = sz ∧ va_P (dC, dI) vwCl [(h0, .inr (0, [.null, .null, .null, .null]))] U.heap ∧ va_K (dC, dI) vwCl [(cA, .int)] U ∧ va_D (fun _ => True) [(h0, .inr (0, [.null, .null, .null, .null]))])) (va_Qv (fun a : Nat → Nat => a 0 = h0) (fun a t => zs_B dC dI cA a (va_A [(h0, .inr (0, [.null, .null, .null, .null]))] sz) shMa (zs_fill z_0 14 0 3 (-1)) t) (va_A [(h0, .inr (0, [.null, .null, .null, .null]))] sz)) 4 1803 (va_A [(h0, .inr (0, [.null, .null, .null, .null]))] sz) := by
  refine Met.ofW (cc := cX0_init) (maxL := 1) (ret := none) (by decide +kernel) rfl ?_
  intro p e s m args below meth c s₁ B hml hv
  obtain ⟨rfl, hsz, hP, hK, hD0⟩ := hv
  have hx := B.exec
  have hb := B.bytes
  have hr := B.returns
  have hts := atoms_spec (ws := wsX0_init) B.pre
  have hown : s.vm.findClass RX0 = some m.cls := findClass_of_methodNamed B.named
  have hlocks := B.notSynchronized
  have hin : meth.name = "<init>" := (name_of_methodNamed B.named B.method).1
  subst hsz
  have hD := hD0.self (sz := s.heap.size)
  generalize hAe : va_A [(h0, .inr (0, [.null, .null, .null, .null]))] s.heap.size = A at hD ⊢
  have hA : ∀ q : Nat, s.heap.size ≤ q → A q := fun q h => by rw [← hAe]; exact Or.inr h
  have hS : va_S A s.heap s.heap [] := va_S.rf
  have hP : va_P (dC, dI) vwCl [(h0, .inr (0, [.null, .null, .null, .null]))] s.heap := hP
  have hl := lv_entry ([.ref h0]) (n := 1) (Nat.le_of_ble_eq_true rfl)
  rw [lg_entry_eq]
  generalize (lg_sl ([.ref h0]) ++ List.replicate (1 - (lg_sl ([.ref h0])).length) Slot.unset).toArray = ls at hl ⊢
  have hl : lv_has ls 1 [(0, .ref h0)] := hl
  refine lv_aload_n hx hb dX0_init_0 rfl (lv_at hl 0 rfl) ?_
  refine W.objInit hx hb hown (hts (.methodLink RX0 3 objectInit) (by decide +kernel)) (hts (.instanceMethod objectInit) (by decide +kernel)) (hts (.code objectInit ⟨#[0xb1]⟩ 1 none) (by decide +kernel)) rfl (by rw [hml]; exact hl.1) rfl dX0_init_1 (Nat.le_of_ble_eq_true rfl) (Nat.le_of_ble_eq_true rfl) ?_
  refine W.eq (g2 := F0 m 4 ls []) rfl ?_
  refine lv_aload_n hx hb dX0_init_4 rfl (lv_at hl 0 rfl) ?_
  refine lv_sipush (v := zI ((600 : Nat) : Int)) hx hb dX0_init_5 (by decide) ?_
  refine zs_arr (own := RX0) (Ts := wsX0_init) hx hb hts nX0_init_X0 tyX0 tyX0_ok nmX0 hown hK hP hD hS hA rfl rfl 0 (by decide) fX0_init_9 rfl hin rfl (by decide +kernel) (Nat.le_of_ble_eq_true rfl) (by decide +kernel) 11 600 (by decide) (Nat.le_of_ble_eq_true rfl) (Nat.le_of_ble_eq_true rfl) dX0_init_8 dX0_init_10 (fun q1 H locs hP hD hS => ?_)
  have hP : va_P (dC, dI) vwCl [(h0, .inr (0, [.ref q1, .null, .null, .null])), (q1, .inl (cA, 600, .inl (fun i : Nat => zI (z_0 11 (i : Int)))))] H := hP
  have hD : va_D A [(h0, .inr (0, [.ref q1, .null, .null, .null])), (q1, .inl (cA, 600, .inl (fun i : Nat => zI (z_0 11 (i : Int)))))] := hD
  refine lv_aload_n hx hb dX0_init_13 rfl (lv_at hl 0 rfl) ?_
  refine lv_sipush (v := zI ((600 : Nat) : Int)) hx hb dX0_init_14 (by decide) ?_
  refine zs_arr (own := RX0) (Ts := wsX0_init) hx hb hts nX0_init_X0 tyX0 tyX0_ok nmX0 hown hK hP hD hS hA rfl rfl 1 (by decide) fX0_init_15 rfl hin rfl (by decide +kernel) (Nat.le_of_ble_eq_true rfl) (by decide +kernel) 12 600 (by decide) (Nat.le_of_ble_eq_true rfl) (Nat.le_of_ble_eq_true rfl) dX0_init_17 dX0_init_19 (fun q2 H locs hP hD hS => ?_)
  have hP : va_P (dC, dI) vwCl [(h0, .inr (0, [.ref q1, .ref q2, .null, .null])), (q1, .inl (cA, 600, .inl (fun i : Nat => zI (z_0 11 (i : Int))))), (q2, .inl (cA, 600, .inl (fun i : Nat => zI (z_0 12 (i : Int)))))] H := hP
  have hD : va_D A [(h0, .inr (0, [.ref q1, .ref q2, .null, .null])), (q1, .inl (cA, 600, .inl (fun i : Nat => zI (z_0 11 (i : Int))))), (q2, .inl (cA, 600, .inl (fun i : Nat => zI (z_0 12 (i : Int)))))] := hD
  refine lv_aload_n hx hb dX0_init_22 rfl (lv_at hl 0 rfl) ?_
  refine lv_sipush (v := zI ((600 : Nat) : Int)) hx hb dX0_init_23 (by decide) ?_
  refine zs_arr (own := RX0) (Ts := wsX0_init) hx hb hts nX0_init_X0 tyX0 tyX0_ok nmX0 hown hK hP hD hS hA rfl rfl 2 (by decide) fX0_init_18 rfl hin rfl (by decide +kernel) (Nat.le_of_ble_eq_true rfl) (by decide +kernel) 13 600 (by decide) (Nat.le_of_ble_eq_true rfl) (Nat.le_of_ble_eq_true rfl) dX0_init_26 dX0_init_28 (fun q3 H locs hP hD hS => ?_)
  have hP : va_P (dC, dI) vwCl [(h0, .inr (0, [.ref q1, .ref q2, .ref q3, .null])), (q1, .inl (cA, 600, .inl (fun i : Nat => zI (z_0 11 (i : Int))))), (q2, .inl (cA, 600, .inl (fun i : Nat => zI (z_0 12 (i : Int))))), (q3, .inl (cA, 600, .inl (fun i : Nat => zI (z_0 13 (i : Int)))))] H := hP
  have hD : va_D A [(h0, .inr (0, [.ref q1, .ref q2, .ref q3, .null])), (q1, .inl (cA, 600, .inl (fun i : Nat => zI (z_0 11 (i : Int))))), (q2, .inl (cA, 600, .inl (fun i : Nat => zI (z_0 12 (i : Int))))), (q3, .inl (cA, 600, .inl (fun i : Nat => zI (z_0 13 (i : Int)))))] := hD
  refine lv_aload_n hx hb dX0_init_31 rfl (lv_at hl 0 rfl) ?_
  refine lv_iconst (v := zI ((3 : Nat) : Int)) hx hb dX0_init_32 (by decide) ?_
  refine zs_arr (own := RX0) (Ts := wsX0_init) hx hb hts nX0_init_X0 tyX0 tyX0_ok nmX0 hown hK hP hD hS hA rfl rfl 3 (by decide) fX0_init_21 rfl hin rfl (by decide +kernel) (Nat.le_of_ble_eq_true rfl) (by decide +kernel) 14 3 (by decide) (Nat.le_of_ble_eq_true rfl) (Nat.le_of_ble_eq_true rfl) dX0_init_33 dX0_init_35 (fun q4 H locs hP hD hS => ?_)
  have hP : va_P (dC, dI) vwCl [(h0, .inr (0, [.ref q1, .ref q2, .ref q3, .ref q4])), (q1, .inl (cA, 600, .inl (fun i : Nat => zI (z_0 11 (i : Int))))), (q2, .inl (cA, 600, .inl (fun i : Nat => zI (z_0 12 (i : Int))))), (q3, .inl (cA, 600, .inl (fun i : Nat => zI (z_0 13 (i : Int))))), (q4, .inl (cA, 3, .inl (fun i : Nat => zI (z_0 14 (i : Int)))))] H := hP
  have hD : va_D A [(h0, .inr (0, [.ref q1, .ref q2, .ref q3, .ref q4])), (q1, .inl (cA, 600, .inl (fun i : Nat => zI (z_0 11 (i : Int))))), (q2, .inl (cA, 600, .inl (fun i : Nat => zI (z_0 12 (i : Int))))), (q3, .inl (cA, 600, .inl (fun i : Nat => zI (z_0 13 (i : Int))))), (q4, .inl (cA, 3, .inl (fun i : Nat => zI (z_0 14 (i : Int)))))] := hD
  refine lv_aload_n hx hb dX0_init_38 rfl (lv_at hl 0 rfl) ?_
  refine va_get (D := (dC, dI)) (ci := 0) (v := .ref q4) (C := RX0) (T := TX0) (N := 4) hx hb hts nX0_init_X0 hown hK hP 0 rfl rfl 3 (by decide) (hts _ fX0_init_21) (fun _ h9 => h9) rfl dX0_init_39 ?_
  refine lv_iconst (v := zI (-1)) hx hb dX0_init_42 (by decide) ?_
  have hPc := hP.sub (ws' := [(q4, .inl (cA, 3, .inl (fun i : Nat => zI (z_0 14 (i : Int)))))]) [4] rfl
  have hDc := hD.sub (ws' := [(q4, .inl (cA, 3, .inl (fun i : Nat => zI (z_0 14 (i : Int)))))]) [4] (by decide) rfl
  have hFc := va_free (wc := [(q4, .inl (cA, 3, .inl (fun i : Nat => zI (z_0 14 (i : Int)))))]) hD hS hA [4] rfl
  have hMt := zs_met YJ7_fill_53178 (As := [.inr 0, .inl (-1)]) (by decide) (t_fill (sh := [.inr (14, 3)]) (q := 0) (r := 14) (N := 3) rfl rfl (by decide) (-1) z_0) l dC dI cA (fun _ => q4) H.size
  rw [show zs_w cA (fun _ => q4) z_0 [.inr (14, 3)] = [(q4, .inl (cA, 3, .inl (fun i : Nat => zI (z_0 14 (i : Int)))))] from zs_w_r cA (fun _ => q4) z_0 [.inr (14, 3)]] at hMt
  refine va_callv (va_runS (As := [.ref q4, .int (zI (-1))]) (rest := []) ⟨hx, hb, hml, hown, hts⟩ hMt (va_cwS 2 hts gX0_init_J7_fill_53178 rfl rfl rfl (by decide +kernel) ⟨Nat.le_of_ble_eq_true rfl, Nat.le_of_ble_eq_true rfl⟩) ⟨zs_blind, fun U hU hW => ⟨rfl, by rw [hU], by rw [hU, zs_w_r]; exact hPc, va_K.moved hW.alike hK, by rw [zs_w_r]; exact hDc.weaken (fun _ _ _ _ => trivial)⟩⟩ rfl rfl hl.1 rfl (lv_room (Nat.le_of_ble_eq_true rfl)) dX0_init_43 ⟨Nat.le_of_ble_eq_true rfl, Nat.le_of_ble_eq_true rfl⟩) hS (fun q _ h => hFc q h) hFc (fun u t H1 locs ht hvm hw hB hz1 hk1 hS => ?_)
  obtain ⟨-, rfl⟩ := hw
  obtain ⟨hP1, hK1, hD1⟩ := hB
  rw [ht] at hP1
  rw [zs_w_r] at hP1 hD1
  obtain ⟨hP, hD⟩ := va_join (wr := [(h0, .inr (0, [.ref q1, .ref q2, .ref q3, .ref q4])), (q1, .inl (cA, 600, .inl (fun i : Nat => zI (z_0 11 (i : Int))))), (q2, .inl (cA, 600, .inl (fun i : Nat => zI (z_0 12 (i : Int))))), (q3, .inl (cA, 600, .inl (fun i : Nat => zI (z_0 13 (i : Int)))))]) (w1 := [(q4, .inl (cA, 3, .inl (fun i : Nat => zI ((zs_fill z_0 14 0 3 (-1)) 14 (i : Int)))))]) hP hD [4] [0, 1, 2, 3] rfl rfl (by decide) (by decide) hk1 hFc hP1 hD1
  generalize H1 = H at hP hS ⊢
  have hP := hP.sub (ws' := [(h0, .inr (0, [.ref q1, .ref q2, .ref q3, .ref q4])), (q1, .inl (cA, 600, .inl (fun i : Nat => zI (z_0 11 (i : Int))))), (q2, .inl (cA, 600, .inl (fun i : Nat => zI (z_0 12 (i : Int))))), (q3, .inl (cA, 600, .inl (fun i : Nat => zI (z_0 13 (i : Int))))), (q4, .inl (cA, 3, .inl (fun i : Nat => zI ((zs_fill z_0 14 0 3 (-1)) 14 (i : Int)))))]) [0, 1, 2, 3, 4] rfl
  have hD := hD.sub (ws' := [(h0, .inr (0, [.ref q1, .ref q2, .ref q3, .ref q4])), (q1, .inl (cA, 600, .inl (fun i : Nat => zI (z_0 11 (i : Int))))), (q2, .inl (cA, 600, .inl (fun i : Nat => zI (z_0 12 (i : Int))))), (q3, .inl (cA, 600, .inl (fun i : Nat => zI (z_0 13 (i : Int))))), (q4, .inl (cA, 3, .inl (fun i : Nat => zI ((zs_fill z_0 14 0 3 (-1)) 14 (i : Int)))))]) [0, 1, 2, 3, 4] (by decide) rfl
  refine W.widen (k := 4) (n := 1803) (Nat.le_of_ble_eq_true rfl) (Nat.le_of_ble_eq_true rfl) ?_
  exact W.vret hx hb hr (fun t ht hW => ⟨⟨(z_ad [h0, q1, q2, q3, q4]), rfl, rfl, by rw [ht, zs_w_r]; exact hP, va_K.moved hW.alike hK, by rw [zs_w_r]; exact hD⟩, hS.F ht⟩) hS.2.2 dX0_init_46
