/-! a method: its own name, bytes, words, locals, answer, room -/
abbrev zs_M : Type := String × ByteArray × List Cond × Nat × Option FieldType × Room
def zs_B (dC : Nat → ClassId) (dI : Nat → Nat → Nat) (cA : ClassId) (a : Nat → Nat) (A : Nat → Prop) (sh : List zs_C) (v : zs_V) (t : State) : Prop := va_P (dC, dI) vwCl (zs_w cA a v sh) t.heap ∧ va_K (dC, dI) vwCl [(cA, .int)] t ∧ va_D A (zs_w cA a v sh)
def zs_Q (ret : Option FieldType) (post : Int → zs_V → Prop) (B : zs_V → State → Prop) (A : Nat → Prop) : Array Value → State → Outcome → State → Prop := match ret with
  | none => va_Qv (fun u => post 0 u) B A
  | some _ => va_Qi (fun r u => ∃ x, r = zI x ∧ post x u) B A
/-- from pc, with locals lv and stack st, in the world sh with the state v, the method comes to its end with post -/
def zs_R (M : zs_M) (k n : Nat) (sh : List zs_C) (post : Int → zs_V → Prop) (v : zs_V) (pc : Nat) (lv : List (Option zs_A)) (st : List zs_A) : Prop :=
  ∀ (p : Program) (l : Launch) (e : Env) (s : State) (m : MethodId) (args : Array Value) (below : List Frame) (meth : Method) (c : Code) (dC : Nat → ClassId) (dI : Nat → Nat → Nat) (cA : ClassId) (a : Nat → Nat) (A : Nat → Prop) (H : Heap) (locs : List Loc) (ls : Array Slot),
    CallFix p m c M.2.1 M.2.2.2.1 s args M.2.2.1 M.1 → meth.sig.returnType = M.2.2.2.2.1 → meth.locks = false → va_K (dC, dI) vwCl [(cA, .int)] s → (∀ q : Nat, s.heap.size ≤ q → A q) →
    zs_L a ls M.2.2.2.1 lv → va_P (dC, dI) vwCl (zs_w cA a v sh) H → va_D A (zs_w cA a v sh) → va_S A s.heap H locs →
    W p l e M.2.2.2.2.2 s m args below meth c H locs k n (MQ below (zs_Q M.2.2.2.2.1 post (zs_B dC dI cA a A sh) A) args s k n A) (F0 m pc ls (st.map (zs_v a)))
section ZR
variable {M : zs_M} {k n : Nat} {sh : List zs_C} {post : Int → zs_V → Prop} {v : zs_V} {pc : Nat} {lv lv' : List (Option zs_A)} {st : List zs_A}
theorem zs_iconst {i x : Int} (hd : decode M.2.1 pc = .ok (.iconst i, 1)) (hx : Int32.ofInt i = zI x) (kk : zs_R M k n sh post v (pc + 1) lv (.inl x :: st)) : zs_R M k n sh post v pc lv st := by
  intro p l e s m args below meth c dC dI cA a A H locs ls hF hr hlk hK hA hL hP hD hS
  exact lv_iconst hF.1 hF.2.1 hd hx (kk p l e s m args below meth c dC dI cA a A H locs ls hF hr hlk hK hA hL hP hD hS)
theorem zs_bipush {i x : Int} (hd : decode M.2.1 pc = .ok (.bipush i, 2)) (hx : (Int8.ofInt i).toInt32 = zI x) (kk : zs_R M k n sh post v (pc + 2) lv (.inl x :: st)) : zs_R M k n sh post v pc lv st := by
  intro p l e s m args below meth c dC dI cA a A H locs ls hF hr hlk hK hA hL hP hD hS
  exact lv_bipush hF.1 hF.2.1 hd hx (kk p l e s m args below meth c dC dI cA a A H locs ls hF hr hlk hK hA hL hP hD hS)
theorem zs_sipush {i x : Int} (hd : decode M.2.1 pc = .ok (.sipush i, 3)) (hx : (Int16.ofInt i).toInt32 = zI x) (kk : zs_R M k n sh post v (pc + 3) lv (.inl x :: st)) : zs_R M k n sh post v pc lv st := by
  intro p l e s m args below meth c dC dI cA a A H locs ls hF hr hlk hK hA hL hP hD hS
  exact lv_sipush hF.1 hF.2.1 hd hx (kk p l e s m args below meth c dC dI cA a A H locs ls hF hr hlk hK hA hL hP hD hS)
theorem zs_ldc {i : Nat} {x : Int} {w : Int32} (hd : decode M.2.1 pc = .ok (.ldc i, 2)) (hc : Cond.constant M.1 i w ∈ M.2.2.1) (hx : w = zI x) (kk : zs_R M k n sh post v (pc + 2) lv (.inl x :: st)) : zs_R M k n sh post v pc lv st := by
  intro p l e s m args below meth c dC dI cA a A H locs ls hF hr hlk hK hA hL hP hD hS
  subst hx
  exact lv_ldc hF.1 hF.2.1 hF.2.2.2.1 (hF.2.2.2.2 _ hc) hd (kk p l e s m args below meth c dC dI cA a A H locs ls hF hr hlk hK hA hL hP hD hS)
theorem zs_iload_n {j : Fin 4} {x : Int} (hd : decode M.2.1 pc = .ok (.iload_n j, 1)) (hl : lv[(j : Nat)]? = some (some (.inl x))) (kk : zs_R M k n sh post v (pc + 1) lv (.inl x :: st)) : zs_R M k n sh post v pc lv st := by
  intro p l e s m args below meth c dC dI cA a A H locs ls hF hr hlk hK hA hL hP hD hS
  exact lv_iload_n hF.1 hF.2.1 hd rfl (hL.2.2 _ _ hl) (kk p l e s m args below meth c dC dI cA a A H locs ls hF hr hlk hK hA hL hP hD hS)
theorem zs_iload {j : Nat} {x : Int} (hd : decode M.2.1 pc = .ok (.iload j, 2)) (hl : lv[j]? = some (some (.inl x))) (kk : zs_R M k n sh post v (pc + 2) lv (.inl x :: st)) : zs_R M k n sh post v pc lv st := by
  intro p l e s m args below meth c dC dI cA a A H locs ls hF hr hlk hK hA hL hP hD hS
  exact lv_iload hF.1 hF.2.1 hd (hL.2.2 _ _ hl) (kk p l e s m args below meth c dC dI cA a A H locs ls hF hr hlk hK hA hL hP hD hS)
theorem zs_aload_n {j : Fin 4} {x : Nat} (hd : decode M.2.1 pc = .ok (.aload_n j, 1)) (hl : lv[(j : Nat)]? = some (some (.inr x))) (kk : zs_R M k n sh post v (pc + 1) lv (.inr x :: st)) : zs_R M k n sh post v pc lv st := by
  intro p l e s m args below meth c dC dI cA a A H locs ls hF hr hlk hK hA hL hP hD hS
  exact lv_aload_n hF.1 hF.2.1 hd rfl (hL.2.2 _ _ hl) (kk p l e s m args below meth c dC dI cA a A H locs ls hF hr hlk hK hA hL hP hD hS)
theorem zs_aload {j : Nat} {x : Nat} (hd : decode M.2.1 pc = .ok (.aload j, 2)) (hl : lv[j]? = some (some (.inr x))) (kk : zs_R M k n sh post v (pc + 2) lv (.inr x :: st)) : zs_R M k n sh post v pc lv st := by
  intro p l e s m args below meth c dC dI cA a A H locs ls hF hr hlk hK hA hL hP hD hS
  exact lv_aload hF.1 hF.2.1 hd (hL.2.2 _ _ hl) (kk p l e s m args below meth c dC dI cA a A H locs ls hF hr hlk hK hA hL hP hD hS)
theorem zs_istore_n {j : Fin 4} {x : Int} (hd : decode M.2.1 pc = .ok (.istore_n j, 1)) (hj : (j : Nat) < M.2.2.2.1) (hv : lv.set j (some (.inl x)) = lv') (kk : zs_R M k n sh post v (pc + 1) lv' st) : zs_R M k n sh post v pc lv (.inl x :: st) := by
  intro p l e s m args below meth c dC dI cA a A H locs ls hF hr hlk hK hA hL hP hD hS
  exact lv_istore_n hF.1 hF.2.1 hd rfl (zs_L_has hL) hj rfl (fun ls2 hl2 => kk p l e s m args below meth c dC dI cA a A H locs ls2 hF hr hlk hK hA (hv ▸ zs_L_set (x := .inl x) rfl hl2) hP hD hS)
theorem zs_istore {j : Nat} {x : Int} (hd : decode M.2.1 pc = .ok (.istore j, 2)) (hj : (j : Nat) < M.2.2.2.1) (hv : lv.set j (some (.inl x)) = lv') (kk : zs_R M k n sh post v (pc + 2) lv' st) : zs_R M k n sh post v pc lv (.inl x :: st) := by
  intro p l e s m args below meth c dC dI cA a A H locs ls hF hr hlk hK hA hL hP hD hS
  exact lv_istore hF.1 hF.2.1 hd (zs_L_has hL) hj rfl (fun ls2 hl2 => kk p l e s m args below meth c dC dI cA a A H locs ls2 hF hr hlk hK hA (hv ▸ zs_L_set (x := .inl x) rfl hl2) hP hD hS)
theorem zs_iinc {j : Nat} {i x : Int} (hd : decode M.2.1 pc = .ok (.iinc j i, 3)) (hl : lv[j]? = some (some (.inl x))) (hj : j < M.2.2.2.1) (hv : lv.set j (some (.inl (x + i))) = lv') (kk : zs_R M k n sh post v (pc + 3) lv' st) : zs_R M k n sh post v pc lv st := by
  intro p l e s m args below meth c dC dI cA a A H locs ls hF hr hlk hK hA hL hP hD hS
  obtain ⟨k0, hk0⟩ := List.getElem?_of_mem (zs_mem_prs (a := a) hl)
  exact lv_iinc (v := zI (x + i)) hF.1 hF.2.1 hd (zs_L_has hL) hk0 (zI_add x i) hj rfl (fun ls2 hl2 => kk p l e s m args below meth c dC dI cA a A H locs ls2 hF hr hlk hK hA (hv ▸ zs_L_set (x := .inl (x + i)) rfl hl2) hP hD hS)
theorem zs_iadd {x y : Int} (hd : decode M.2.1 pc = .ok (.iadd, 1)) (kk : zs_R M k n sh post v (pc + 1) lv (.inl (x + y) :: st)) : zs_R M k n sh post v pc lv (.inl y :: .inl x :: st) := by
  intro p l e s m args below meth c dC dI cA a A H locs ls hF hr hlk hK hA hL hP hD hS
  have h := kk p l e s m args below meth c dC dI cA a A H locs ls hF hr hlk hK hA hL hP hD hS
  refine lv_iadd hF.1 hF.2.1 hd ?_
  rw [zI_add]
  exact h
theorem zs_isub {x y : Int} (hd : decode M.2.1 pc = .ok (.isub, 1)) (kk : zs_R M k n sh post v (pc + 1) lv (.inl (x - y) :: st)) : zs_R M k n sh post v pc lv (.inl y :: .inl x :: st) := by
  intro p l e s m args below meth c dC dI cA a A H locs ls hF hr hlk hK hA hL hP hD hS
  have h := kk p l e s m args below meth c dC dI cA a A H locs ls hF hr hlk hK hA hL hP hD hS
  refine lv_isub hF.1 hF.2.1 hd ?_
  rw [zI_sub]
  exact h
theorem zs_imul {x y : Int} (hd : decode M.2.1 pc = .ok (.imul, 1)) (kk : zs_R M k n sh post v (pc + 1) lv (.inl (x * y) :: st)) : zs_R M k n sh post v pc lv (.inl y :: .inl x :: st) := by
  intro p l e s m args below meth c dC dI cA a A H locs ls hF hr hlk hK hA hL hP hD hS
  have h := kk p l e s m args below meth c dC dI cA a A H locs ls hF hr hlk hK hA hL hP hD hS
  refine lv_imul hF.1 hF.2.1 hd ?_
  rw [zI_mul]
  exact h
theorem zs_idiv {x y : Int} (hd : decode M.2.1 pc = .ok (.idiv, 1)) (hx : 0 ≤ x ∧ x < 2147483648) (hy : 0 < y ∧ y < 2147483648) (kk : zs_R M k n sh post v (pc + 1) lv (.inl (x / y) :: st)) : zs_R M k n sh post v pc lv (.inl y :: .inl x :: st) := by
  intro p l e s m args below meth c dC dI cA a A H locs ls hF hr hlk hK hA hL hP hD hS
  have h := kk p l e s m args below meth c dC dI cA a A H locs ls hF hr hlk hK hA hL hP hD hS
  have hx' : zn x := ⟨by omega, hx.2⟩
  have hy' : zn y := ⟨by omega, hy.2⟩
  refine lv_idiv hF.1 hF.2.1 hd (fun q => by rw [← zI_0, zI_eq hy' zn_0] at q; omega) ?_
  rw [zI_div hx' hx.1 hy' hy.1]
  exact h
theorem zs_irem {x y : Int} (hd : decode M.2.1 pc = .ok (.irem, 1)) (hx : 0 ≤ x ∧ x < 2147483648) (hy : 0 < y ∧ y < 2147483648) (kk : zs_R M k n sh post v (pc + 1) lv (.inl (x % y) :: st)) : zs_R M k n sh post v pc lv (.inl y :: .inl x :: st) := by
  intro p l e s m args below meth c dC dI cA a A H locs ls hF hr hlk hK hA hL hP hD hS
  have h := kk p l e s m args below meth c dC dI cA a A H locs ls hF hr hlk hK hA hL hP hD hS
  have hx' : zn x := ⟨by omega, hx.2⟩
  have hy' : zn y := ⟨by omega, hy.2⟩
  refine lv_irem hF.1 hF.2.1 hd (fun q => by rw [← zI_0, zI_eq hy' zn_0] at q; omega) ?_
  rw [zI_rem hx' hx.1 hy' hy.1]
  exact h
theorem zs_dup {x : zs_A} (hd : decode M.2.1 pc = .ok (.dup, 1)) (kk : zs_R M k n sh post v (pc + 1) lv (x :: x :: st)) : zs_R M k n sh post v pc lv (x :: st) := by
  intro p l e s m args below meth c dC dI cA a A H locs ls hF hr hlk hK hA hL hP hD hS
  exact lv_dup hF.1 hF.2.1 hd (zs_cat a x) (kk p l e s m args below meth c dC dI cA a A H locs ls hF hr hlk hK hA hL hP hD hS)
theorem zs_dup2 {x y : zs_A} (hd : decode M.2.1 pc = .ok (.dup2, 1)) (kk : zs_R M k n sh post v (pc + 1) lv (x :: y :: x :: y :: st)) : zs_R M k n sh post v pc lv (x :: y :: st) := by
  intro p l e s m args below meth c dC dI cA a A H locs ls hF hr hlk hK hA hL hP hD hS
  exact lv_dup2_11 hF.1 hF.2.1 hd (zs_cat a x) (zs_cat a y) (kk p l e s m args below meth c dC dI cA a A H locs ls hF hr hlk hK hA hL hP hD hS)
theorem zs_goto {off : Int} {tgt : Nat} (hd : decode M.2.1 pc = .ok (.goto off, 3)) (ht : (pc : Int) + off = (tgt : Int)) (kk : zs_R M k n sh post v tgt lv st) : zs_R M k n sh post v pc lv st := by
  intro p l e s m args below meth c dC dI cA a A H locs ls hF hr hlk hK hA hL hP hD hS
  exact lv_goto hF.1 hF.2.1 hd ht (kk p l e s m args below meth c dC dI cA a A H locs ls hF hr hlk hK hA hL hP hD hS)
theorem zs_icmp_eq {x y : Int} {off : Int} {tgt : Nat} (hd : decode M.2.1 pc = .ok (.if_icmp .eq off, 3)) (ht : (pc : Int) + off = (tgt : Int)) (hx : zn x) (hy : zn y) (kt : x = y → zs_R M k n sh post v tgt lv st) (kf : ¬ x = y → zs_R M k n sh post v (pc + 3) lv st) : zs_R M k n sh post v pc lv (.inl y :: .inl x :: st) := by
  intro p l e s m args below meth c dC dI cA a A H locs ls hF hr hlk hK hA hL hP hD hS
  exact lv_icmp_eq hF.1 hF.2.1 hd ht (fun h => kt ((zI_eq hx hy).mp h) p l e s m args below meth c dC dI cA a A H locs ls hF hr hlk hK hA hL hP hD hS) (fun h => kf (fun q => h ((zI_eq hx hy).mpr q)) p l e s m args below meth c dC dI cA a A H locs ls hF hr hlk hK hA hL hP hD hS)
theorem zs_icmp_ne {x y : Int} {off : Int} {tgt : Nat} (hd : decode M.2.1 pc = .ok (.if_icmp .ne off, 3)) (ht : (pc : Int) + off = (tgt : Int)) (hx : zn x) (hy : zn y) (kt : ¬ x = y → zs_R M k n sh post v tgt lv st) (kf : x = y → zs_R M k n sh post v (pc + 3) lv st) : zs_R M k n sh post v pc lv (.inl y :: .inl x :: st) := by
  intro p l e s m args below meth c dC dI cA a A H locs ls hF hr hlk hK hA hL hP hD hS
  exact lv_icmp_ne hF.1 hF.2.1 hd ht (fun h => kt (fun q => h ((zI_eq hx hy).mpr q)) p l e s m args below meth c dC dI cA a A H locs ls hF hr hlk hK hA hL hP hD hS) (fun h => kf ((zI_eq hx hy).mp h) p l e s m args below meth c dC dI cA a A H locs ls hF hr hlk hK hA hL hP hD hS)
theorem zs_icmp_lt {x y : Int} {off : Int} {tgt : Nat} (hd : decode M.2.1 pc = .ok (.if_icmp .lt off, 3)) (ht : (pc : Int) + off = (tgt : Int)) (hx : zn x) (hy : zn y) (kt : x < y → zs_R M k n sh post v tgt lv st) (kf : ¬ x < y → zs_R M k n sh post v (pc + 3) lv st) : zs_R M k n sh post v pc lv (.inl y :: .inl x :: st) := by
  intro p l e s m args below meth c dC dI cA a A H locs ls hF hr hlk hK hA hL hP hD hS
  exact lv_icmp_lt hF.1 hF.2.1 hd ht (fun h => kt ((zI_lt hx hy).mp h) p l e s m args below meth c dC dI cA a A H locs ls hF hr hlk hK hA hL hP hD hS) (fun h => kf (fun q => h ((zI_lt hx hy).mpr q)) p l e s m args below meth c dC dI cA a A H locs ls hF hr hlk hK hA hL hP hD hS)
theorem zs_icmp_ge {x y : Int} {off : Int} {tgt : Nat} (hd : decode M.2.1 pc = .ok (.if_icmp .ge off, 3)) (ht : (pc : Int) + off = (tgt : Int)) (hx : zn x) (hy : zn y) (kt : y ≤ x → zs_R M k n sh post v tgt lv st) (kf : ¬ y ≤ x → zs_R M k n sh post v (pc + 3) lv st) : zs_R M k n sh post v pc lv (.inl y :: .inl x :: st) := by
  intro p l e s m args below meth c dC dI cA a A H locs ls hF hr hlk hK hA hL hP hD hS
  exact lv_icmp_ge hF.1 hF.2.1 hd ht (fun h => kt ((zI_le hy hx).mp h) p l e s m args below meth c dC dI cA a A H locs ls hF hr hlk hK hA hL hP hD hS) (fun h => kf (fun q => h ((zI_le hy hx).mpr q)) p l e s m args below meth c dC dI cA a A H locs ls hF hr hlk hK hA hL hP hD hS)
theorem zs_icmp_gt {x y : Int} {off : Int} {tgt : Nat} (hd : decode M.2.1 pc = .ok (.if_icmp .gt off, 3)) (ht : (pc : Int) + off = (tgt : Int)) (hx : zn x) (hy : zn y) (kt : y < x → zs_R M k n sh post v tgt lv st) (kf : ¬ y < x → zs_R M k n sh post v (pc + 3) lv st) : zs_R M k n sh post v pc lv (.inl y :: .inl x :: st) := by
  intro p l e s m args below meth c dC dI cA a A H locs ls hF hr hlk hK hA hL hP hD hS
  exact lv_icmp_gt hF.1 hF.2.1 hd ht (fun h => kt ((zI_lt hy hx).mp h) p l e s m args below meth c dC dI cA a A H locs ls hF hr hlk hK hA hL hP hD hS) (fun h => kf (fun q => h ((zI_lt hy hx).mpr q)) p l e s m args below meth c dC dI cA a A H locs ls hF hr hlk hK hA hL hP hD hS)
theorem zs_icmp_le {x y : Int} {off : Int} {tgt : Nat} (hd : decode M.2.1 pc = .ok (.if_icmp .le off, 3)) (ht : (pc : Int) + off = (tgt : Int)) (hx : zn x) (hy : zn y) (kt : x ≤ y → zs_R M k n sh post v tgt lv st) (kf : ¬ x ≤ y → zs_R M k n sh post v (pc + 3) lv st) : zs_R M k n sh post v pc lv (.inl y :: .inl x :: st) := by
  intro p l e s m args below meth c dC dI cA a A H locs ls hF hr hlk hK hA hL hP hD hS
  exact lv_icmp_le hF.1 hF.2.1 hd ht (fun h => kt ((zI_le hx hy).mp h) p l e s m args below meth c dC dI cA a A H locs ls hF hr hlk hK hA hL hP hD hS) (fun h => kf (fun q => h ((zI_le hx hy).mpr q)) p l e s m args below meth c dC dI cA a A H locs ls hF hr hlk hK hA hL hP hD hS)
theorem zs_if_eq {x : Int} {off : Int} {tgt : Nat} (hd : decode M.2.1 pc = .ok (.ifCond .eq off, 3)) (ht : (pc : Int) + off = (tgt : Int)) (hx : zn x) (kt : x = 0 → zs_R M k n sh post v tgt lv st) (kf : ¬ x = 0 → zs_R M k n sh post v (pc + 3) lv st) : zs_R M k n sh post v pc lv (.inl x :: st) := by
  intro p l e s m args below meth c dC dI cA a A H locs ls hF hr hlk hK hA hL hP hD hS
  exact lv_if_eq hF.1 hF.2.1 hd ht (fun h => kt ((zI_eq hx zn_0).mp (by rw [zI_0]; exact h)) p l e s m args below meth c dC dI cA a A H locs ls hF hr hlk hK hA hL hP hD hS) (fun h => kf (fun q => h (by have q2 := (zI_eq hx zn_0).mpr q; rw [zI_0] at q2; exact q2)) p l e s m args below meth c dC dI cA a A H locs ls hF hr hlk hK hA hL hP hD hS)
theorem zs_if_ne {x : Int} {off : Int} {tgt : Nat} (hd : decode M.2.1 pc = .ok (.ifCond .ne off, 3)) (ht : (pc : Int) + off = (tgt : Int)) (hx : zn x) (kt : ¬ x = 0 → zs_R M k n sh post v tgt lv st) (kf : x = 0 → zs_R M k n sh post v (pc + 3) lv st) : zs_R M k n sh post v pc lv (.inl x :: st) := by
  intro p l e s m args below meth c dC dI cA a A H locs ls hF hr hlk hK hA hL hP hD hS
  exact lv_if_ne hF.1 hF.2.1 hd ht (fun h => kt (fun q => h (q ▸ zI_0)) p l e s m args below meth c dC dI cA a A H locs ls hF hr hlk hK hA hL hP hD hS) (fun h => kf ((zI_eq hx zn_0).mp (h.trans zI_0.symm)) p l e s m args below meth c dC dI cA a A H locs ls hF hr hlk hK hA hL hP hD hS)
theorem zs_if_lt {x : Int} {off : Int} {tgt : Nat} (hd : decode M.2.1 pc = .ok (.ifCond .lt off, 3)) (ht : (pc : Int) + off = (tgt : Int)) (hx : zn x) (kt : x < 0 → zs_R M k n sh post v tgt lv st) (kf : ¬ x < 0 → zs_R M k n sh post v (pc + 3) lv st) : zs_R M k n sh post v pc lv (.inl x :: st) := by
  intro p l e s m args below meth c dC dI cA a A H locs ls hF hr hlk hK hA hL hP hD hS
  exact lv_if_lt hF.1 hF.2.1 hd ht (fun h => kt ((zI_lt hx zn_0).mp (by rw [zI_0]; exact h)) p l e s m args below meth c dC dI cA a A H locs ls hF hr hlk hK hA hL hP hD hS) (fun h => kf (fun q => h (by have q2 := (zI_lt hx zn_0).mpr q; rw [zI_0] at q2; exact q2)) p l e s m args below meth c dC dI cA a A H locs ls hF hr hlk hK hA hL hP hD hS)
theorem zs_if_ge {x : Int} {off : Int} {tgt : Nat} (hd : decode M.2.1 pc = .ok (.ifCond .ge off, 3)) (ht : (pc : Int) + off = (tgt : Int)) (hx : zn x) (kt : 0 ≤ x → zs_R M k n sh post v tgt lv st) (kf : ¬ 0 ≤ x → zs_R M k n sh post v (pc + 3) lv st) : zs_R M k n sh post v pc lv (.inl x :: st) := by
  intro p l e s m args below meth c dC dI cA a A H locs ls hF hr hlk hK hA hL hP hD hS
  exact lv_if_ge hF.1 hF.2.1 hd ht (fun h => kt ((zI_le zn_0 hx).mp (by rw [zI_0]; exact h)) p l e s m args below meth c dC dI cA a A H locs ls hF hr hlk hK hA hL hP hD hS) (fun h => kf (fun q => h (by have q2 := (zI_le zn_0 hx).mpr q; rw [zI_0] at q2; exact q2)) p l e s m args below meth c dC dI cA a A H locs ls hF hr hlk hK hA hL hP hD hS)
theorem zs_if_gt {x : Int} {off : Int} {tgt : Nat} (hd : decode M.2.1 pc = .ok (.ifCond .gt off, 3)) (ht : (pc : Int) + off = (tgt : Int)) (hx : zn x) (kt : 0 < x → zs_R M k n sh post v tgt lv st) (kf : ¬ 0 < x → zs_R M k n sh post v (pc + 3) lv st) : zs_R M k n sh post v pc lv (.inl x :: st) := by
  intro p l e s m args below meth c dC dI cA a A H locs ls hF hr hlk hK hA hL hP hD hS
  exact lv_if_gt hF.1 hF.2.1 hd ht (fun h => kt ((zI_lt zn_0 hx).mp (by rw [zI_0]; exact h)) p l e s m args below meth c dC dI cA a A H locs ls hF hr hlk hK hA hL hP hD hS) (fun h => kf (fun q => h (by have q2 := (zI_lt zn_0 hx).mpr q; rw [zI_0] at q2; exact q2)) p l e s m args below meth c dC dI cA a A H locs ls hF hr hlk hK hA hL hP hD hS)
theorem zs_if_le {x : Int} {off : Int} {tgt : Nat} (hd : decode M.2.1 pc = .ok (.ifCond .le off, 3)) (ht : (pc : Int) + off = (tgt : Int)) (hx : zn x) (kt : x ≤ 0 → zs_R M k n sh post v tgt lv st) (kf : ¬ x ≤ 0 → zs_R M k n sh post v (pc + 3) lv st) : zs_R M k n sh post v pc lv (.inl x :: st) := by
  intro p l e s m args below meth c dC dI cA a A H locs ls hF hr hlk hK hA hL hP hD hS
  exact lv_if_le hF.1 hF.2.1 hd ht (fun h => kt ((zI_le hx zn_0).mp (by rw [zI_0]; exact h)) p l e s m args below meth c dC dI cA a A H locs ls hF hr hlk hK hA hL hP hD hS) (fun h => kf (fun q => h (by have q2 := (zI_le hx zn_0).mpr q; rw [zI_0] at q2; exact q2)) p l e s m args below meth c dC dI cA a A H locs ls hF hr hlk hK hA hL hP hD hS)
theorem zs_swIn {dflt lo hi : Int} {offs : Array Int} {len : Nat} {x : Int} {off : Int} {tgt : Nat} (hd : decode M.2.1 pc = .ok (.tableswitch dflt lo hi offs, len)) (hx : zn x) (h1 : ¬ x < lo) (h2 : ¬ hi < x) (ho : offs[(x - lo).toNat]? = some off) (ht : (pc : Int) + off = (tgt : Int)) (kk : zs_R M k n sh post v tgt lv st) : zs_R M k n sh post v pc lv (.inl x :: st) := by
  intro p l e s m args below meth c dC dI cA a A H locs ls hF hr hlk hK hA hL hP hD hS
  exact lv_tableIn hF.1 hF.2.1 hd (by rw [zI_t hx]; exact h1) (by rw [zI_t hx]; exact h2) (by rw [zI_t hx]; exact ho) ht (kk p l e s m args below meth c dC dI cA a A H locs ls hF hr hlk hK hA hL hP hD hS)
theorem zs_swOut {dflt lo hi : Int} {offs : Array Int} {len : Nat} {x : Int} {tgt : Nat} (hd : decode M.2.1 pc = .ok (.tableswitch dflt lo hi offs, len)) (hx : zn x) (h : x < lo ∨ hi < x) (ht : (pc : Int) + dflt = (tgt : Int)) (kk : zs_R M k n sh post v tgt lv st) : zs_R M k n sh post v pc lv (.inl x :: st) := by
  intro p l e s m args below meth c dC dI cA a A H locs ls hF hr hlk hK hA hL hP hD hS
  exact lv_tableOut hF.1 hF.2.1 hd (by rw [zI_t hx]; exact h) ht (kk p l e s m args below meth c dC dI cA a A H locs ls hF hr hlk hK hA hL hP hD hS)
theorem zs_geti {q ci j r i : Nat} {fs : List zs_F} {C : String} {T : u_T} {N : Nat} (hd : decode M.2.1 pc = .ok (.getfield i, 3)) (hs : sh[q]? = some (.inl (ci, fs))) (hf : fs[j]? = some (some (.inr r))) (hc : vwCl[ci]? = some (C, T, N)) (hj : j < N) (hin : ∀ w ∈ u_ws C T N, w ∈ M.2.2.1) (hlk : Cond.fieldLink M.1 i (T j).1 (T j).2.1 (T j).2.2.1 ∈ M.2.2.1) (kk : zs_R M k n sh post v (pc + 3) lv (.inl (v r 0) :: st)) : zs_R M k n sh post v pc lv (.inr q :: st) := by
  have hlk1 := hlk
  intro p l e s m args below meth c dC dI cA a A H locs ls hF hr hlk hK hA hL hP hD hS
  exact va_get hF.1 hF.2.1 hF.2.2.2.2 hin hF.2.2.2.1 hK hP q (zs_w_at hs) hc j hj (hF.2.2.2.2 _ hlk1) (fun _ h9 => h9) (v := .int (zI (v r 0))) (by rw [List.getElem?_map, hf]; rfl) hd (kk p l e s m args below meth c dC dI cA a A H locs ls hF hr hlk hK hA hL hP hD hS)
theorem zs_getr {q ci j d i : Nat} {fs : List zs_F} {C : String} {T : u_T} {N : Nat} (hd : decode M.2.1 pc = .ok (.getfield i, 3)) (hs : sh[q]? = some (.inl (ci, fs))) (hf : fs[j]? = some (some (.inl d))) (hc : vwCl[ci]? = some (C, T, N)) (hj : j < N) (hin : ∀ w ∈ u_ws C T N, w ∈ M.2.2.1) (hlk : Cond.fieldLink M.1 i (T j).1 (T j).2.1 (T j).2.2.1 ∈ M.2.2.1) (kk : zs_R M k n sh post v (pc + 3) lv (.inr d :: st)) : zs_R M k n sh post v pc lv (.inr q :: st) := by
  have hlk1 := hlk
  intro p l e s m args below meth c dC dI cA a A H locs ls hF hr hlk hK hA hL hP hD hS
  exact va_get hF.1 hF.2.1 hF.2.2.2.2 hin hF.2.2.2.1 hK hP q (zs_w_at hs) hc j hj (hF.2.2.2.2 _ hlk1) (fun _ h9 => h9) (v := .ref (a d)) (by rw [List.getElem?_map, hf]; rfl) hd (kk p l e s m args below meth c dC dI cA a A H locs ls hF hr hlk hK hA hL hP hD hS)
theorem zs_puti {q ci j r i : Nat} {fs : List zs_F} {C : String} {T : u_T} {N : Nat} {x : Int} (hd : decode M.2.1 pc = .ok (.putfield i, 3)) (hs : sh[q]? = some (.inl (ci, fs))) (hf : fs[j]? = some (some (.inr r))) (hm : zs_men r (sh.set q (.inl (ci, fs.set j none))) = false) (hc : vwCl[ci]? = some (C, T, N)) (hj : j < N) (hin : ∀ w ∈ u_ws C T N, w ∈ M.2.2.1) (ty0 : Nat → FieldType) (hty : ∀ k, k < N → parseFieldDescriptor (T k).2.2.1 = some (ty0 k)) (hnm : ∀ a, a < N → ∀ b, b < N → a ≠ b → (T a).2.1 ≠ (T b).2.1) (hfin : (T j).2.2.2 = false) (htj : parseFieldDescriptor (T j).2.2.1 = some .int) (hlk : Cond.fieldLink M.1 i (T j).1 (T j).2.1 (T j).2.2.1 ∈ M.2.2.1) (kk : zs_R M k n sh post (zs_put v r 0 x) (pc + 3) lv st) : zs_R M k n sh post v pc lv (.inl x :: .inr q :: st) := by
  have hlk1 := hlk
  intro p l e s m args below meth c dC dI cA a A H locs ls hF hr hlk hK hA hL hP hD hS
  have hmc : zs_mc r (.inl (ci, fs.set j none)) = false := by
    simp only [zs_men, List.any_eq_false] at hm
    have hq : q < sh.length := (List.getElem?_eq_some_iff.mp hs).1
    simpa using hm _ (List.mem_of_getElem? (i := q) (List.getElem?_set_self hq))
  have hE := zs_w_put (cA := cA) (a := a) (v := v) (i := 0) (x := x) hm hs (zs_ce_fld (cA := cA) (a := a) (v := v) (x := x) hf hmc)
  refine va_put hF.1 hF.2.1 hF.2.2.2.2 hin ty0 hty hnm hF.2.2.2.1 hK hP hD hS q (zs_w_at hs) hc j hj (hF.2.2.2.2 _ hlk1) (fun _ h9 => h9) hfin htj rfl rfl (by simpa using (List.getElem?_eq_some_iff.mp hf).1) hd (fun H1 locs1 hP1 hD1 hS1 => ?_)
  have hP1 : va_P (dC, dI) vwCl (zs_w cA a (zs_put v r 0 x) sh) H1 := hE ▸ hP1
  have hD1 : va_D A (zs_w cA a (zs_put v r 0 x) sh) := hE ▸ hD1
  exact kk p l e s m args below meth c dC dI cA a A H1 locs1 ls hF hr hlk hK hA hL hP1 hD1 hS1
theorem zs_iaload {q r N : Nat} {i : Int} (hd : decode M.2.1 pc = .ok (.iaload, 1)) (hs : sh[q]? = some (.inr (r, N))) (hN : N < 2147483648) (h0 : 0 ≤ i) (h1 : i < N) (kk : zs_R M k n sh post v (pc + 1) lv (.inl (v r i) :: st)) : zs_R M k n sh post v pc lv (.inl i :: .inr q :: st) := by
  intro p l e s m args below meth c dC dI cA a A H locs ls hF hr hlk hK hA hL hP hD hS
  have h := kk p l e s m args below meth c dC dI cA a A H locs ls hF hr hlk hK hA hL hP hD hS
  refine va_iald hF.1 hF.2.1 hK hP q 0 (zs_w_at hs) rfl (zI_in h0 h1 hN) hd ?_
  rw [zI_clamp h0 (by omega)]
  rw [show ((i.toNat : Int)) = i by omega]
  exact h
theorem zs_iastore {q r N : Nat} {i x : Int} (hd : decode M.2.1 pc = .ok (.iastore, 1)) (hs : sh[q]? = some (.inr (r, N))) (hm : zs_men r (sh.set q (.inl (0, []))) = false) (hN : N < 2147483648) (h0 : 0 ≤ i) (h1 : i < N) (kk : zs_R M k n sh post (zs_put v r i x) (pc + 1) lv st) : zs_R M k n sh post v pc lv (.inl x :: .inl i :: .inr q :: st) := by
  intro p l e s m args below meth c dC dI cA a A H locs ls hF hr hlk hK hA hL hP hD hS
  have hE := zs_w_put (cA := cA) (a := a) (v := v) (i := i) (x := x) hm hs (zs_ce_arr (cA := cA) (a := a) (v := v) (n := N) (x := x) h0 (by omega))
  refine va_iast hF.1 hF.2.1 hK hP hD hS q 0 (zs_w_at hs) rfl (zI_in h0 h1 hN) hd (fun H1 locs1 hP1 hD1 hS1 => ?_)
  rw [hE] at hP1 hD1
  exact kk p l e s m args below meth c dC dI cA a A H1 locs1 ls hF hr hlk hK hA hL hP1 hD1 hS1
theorem zs_alen {q r N : Nat} (hd : decode M.2.1 pc = .ok (.arraylength, 1)) (hs : sh[q]? = some (.inr (r, N))) (kk : zs_R M k n sh post v (pc + 1) lv (.inl (N : Int) :: st)) : zs_R M k n sh post v pc lv (.inr q :: st) := by
  intro p l e s m args below meth c dC dI cA a A H locs ls hF hr hlk hK hA hL hP hD hS
  have h := kk p l e s m args below meth c dC dI cA a A H locs ls hF hr hlk hK hA hL hP hD hS
  exact va_alen hF.1 hF.2.1 hK hP q 0 (zs_w_at hs) rfl (v := zI (N : Int)) (zI_n N).symm hd h
theorem zs_ret {x : Int} {ty : FieldType} (hd : decode M.2.1 pc = .ok (.ireturn, 1)) (ht : M.2.2.2.2.1 = some ty) (hn : narrow ty (.int (zI x)) = .int (zI x)) (hp : post x v) : zs_R M k n sh post v pc lv [.inl x] := by
  intro p l e s m args below meth c dC dI cA a A H locs ls hF hr hlk hK hA hL hP hD hS
  rw [ht] at hr ⊢
  exact W.zret hF.1 hF.2.1 hr hn (fun t htt hW => ⟨⟨zI x, v, rfl, ⟨x, rfl, hp⟩, by rw [htt]; exact hP, va_K.moved hW.alike hK, hD⟩, hS.F htt⟩) hS.2.2 hd hlk
theorem zs_iret {x : Int} (hd : decode M.2.1 pc = .ok (.ireturn, 1)) (ht : M.2.2.2.2.1 = some .int) (hp : post x v) : zs_R M k n sh post v pc lv [.inl x] := zs_ret hd ht rfl hp
theorem zs_z0 : narrow .boolean (.int (zI 0)) = .int (zI 0) := by decide +kernel
theorem zs_z1 : narrow .boolean (.int (zI 1)) = .int (zI 1) := by decide +kernel
theorem zs_zret {x : Int} (hd : decode M.2.1 pc = .ok (.ireturn, 1)) (ht : M.2.2.2.2.1 = some .boolean) (hx : x = 0 ∨ x = 1) (hp : post x v) : zs_R M k n sh post v pc lv [.inl x] := by
  refine zs_ret hd ht ?_ hp
  rcases hx with rfl | rfl
  · exact zs_z0
  · exact zs_z1
theorem zs_vret (hd : decode M.2.1 pc = .ok (.return_, 1)) (ht : M.2.2.2.2.1 = none) (hp : post 0 v) : zs_R M k n sh post v pc lv [] := by
  intro p l e s m args below meth c dC dI cA a A H locs ls hF hr hlk hK hA hL hP hD hS
  rw [ht] at hr ⊢
  exact W.vret hF.1 hF.2.1 hr (fun t htt hW => ⟨⟨v, rfl, hp, by rw [htt]; exact hP, va_K.moved hW.alike hK, hD⟩, hS.F htt⟩) hS.2.2 hd hlk
end ZR
