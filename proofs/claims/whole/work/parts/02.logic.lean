/-! numbers: every int of the machine is zI of a whole number -/
def zI (x : Int) : Int32 := Int32.ofInt x
abbrev zn (x : Int) : Prop := -2147483648 ≤ x ∧ x < 2147483648
theorem zI_t {x : Int} (h : zn x) : (zI x).toInt = x := Int32.toInt_ofInt_of_le h.1 h.2
theorem zI_of (x : Int32) : zI x.toInt = x := Int32.ofInt_toInt x
theorem zn_of (x : Int32) : zn x.toInt := ⟨Int32.le_toInt x, Int32.toInt_lt x⟩
theorem zI_n (n : Nat) : zI (n : Int) = nI n := by
  unfold zI nI
  exact Int32.ofInt_eq_ofNat
theorem zI_add (x y : Int) : zI x + zI y = zI (x + y) := (Int32.ofInt_add x y).symm
theorem zI_sub (x y : Int) : zI x - zI y = zI (x - y) := (Int32.ofInt_sub x y).symm
theorem zI_mul (x y : Int) : zI x * zI y = zI (x * y) := (Int32.ofInt_mul x y).symm
theorem zI_lt {x y : Int} (hx : zn x) (hy : zn y) : zI x < zI y ↔ x < y := by
  rw [Int32.lt_iff_toInt_lt, zI_t hx, zI_t hy]
theorem zI_le {x y : Int} (hx : zn x) (hy : zn y) : zI x ≤ zI y ↔ x ≤ y := by
  rw [Int32.le_iff_toInt_le, zI_t hx, zI_t hy]
theorem zI_eq {x y : Int} (hx : zn x) (hy : zn y) : zI x = zI y ↔ x = y := by
  rw [← Int32.toInt_inj, zI_t hx, zI_t hy]
theorem zI_0 : zI 0 = 0 := by decide +kernel
theorem zn_0 : zn 0 := by unfold zn; omega
theorem zI_div {x y : Int} (hx : zn x) (h0 : 0 ≤ x) (hy : zn y) (h1 : 0 < y) : zI x / zI y = zI (x / y) := by
  obtain ⟨a, rfl⟩ := Int.eq_ofNat_of_zero_le h0
  obtain ⟨b, rfl⟩ := Int.eq_ofNat_of_zero_le (Int.le_of_lt h1)
  unfold zn at hx hy
  rw [zI_n, zI_n, pk_div (by omega) (by omega) (by omega), ← zI_n]
  rfl
theorem zI_rem {x y : Int} (hx : zn x) (h0 : 0 ≤ x) (hy : zn y) (h1 : 0 < y) : zI x - zI x / zI y * zI y = zI (x % y) := by
  rw [zI_div hx h0 hy h1, zI_mul, zI_sub]
  congr 1
  have := Int.emod_add_mul_ediv x y
  rw [Int.mul_comm (x / y) y]
  omega
theorem zI_in {x : Int} {n : Nat} (h0 : 0 ≤ x) (h1 : x < n) (hn : n < 2147483648) : vp_in (zI x) n := by
  rw [vp_in_iff, zI_t ⟨by omega, by omega⟩]
  exact ⟨h0, h1⟩
theorem zI_clamp {x : Int} (h0 : 0 ≤ x) (h1 : x < 2147483648) : (zI x).toNatClampNeg = x.toNat := by
  show (zI x).toInt.toNat = x.toNat
  rw [zI_t ⟨by omega, h1⟩]
/-! the state of a world: registers r, each a row of numbers -/
abbrev zs_V : Type := Nat → Int → Int
def zs_put (v : zs_V) (r : Nat) (k x : Int) : zs_V := fun r' k' => if r' = r then (if k' = k then x else v r' k') else v r' k'
abbrev zs_A : Type := Int ⊕ Nat
abbrev zs_F : Type := Option (Nat ⊕ Nat)
abbrev zs_C : Type := (Nat × List zs_F) ⊕ (Nat × Nat)
def zs_v (a : Nat → Nat) : zs_A → Value
  | .inl x => .int (zI x)
  | .inr k => .ref (a k)
def zs_fv (a : Nat → Nat) (v : zs_V) : zs_F → Value
  | none => .null
  | some (.inl c) => .ref (a c)
  | some (.inr r) => .int (zI (v r 0))
def zs_ce (cA : ClassId) (a : Nat → Nat) (v : zs_V) : zs_C → va_E
  | .inl o => .inr (o.1, o.2.map (zs_fv a v))
  | .inr q => .inl (cA, q.2, .inl (fun j : Nat => zI (v q.1 (j : Int))))
def zs_w (cA : ClassId) (a : Nat → Nat) (v : zs_V) (sh : List zs_C) : va_W := sh.mapIdx (fun i c => (a i, zs_ce cA a v c))
theorem zs_w_at {cA : ClassId} {a : Nat → Nat} {v : zs_V} {sh : List zs_C} {q : Nat} {cx : zs_C} (hs : sh[q]? = some cx) : (zs_w cA a v sh)[q]? = some (a q, zs_ce cA a v cx) := by
  simp [zs_w, List.getElem?_mapIdx, hs]
/-- does a cell speak of register r? -/
def zs_mf (r : Nat) : zs_F → Bool
  | some (.inr r') => r' == r
  | _ => false
def zs_mc (r : Nat) : zs_C → Bool
  | .inl o => o.2.any (zs_mf r)
  | .inr q => q.1 == r
def zs_men (r : Nat) (sh : List zs_C) : Bool := sh.any (zs_mc r)
theorem zs_fv_put {a : Nat → Nat} {v : zs_V} {r : Nat} {i x : Int} {f : zs_F} (h : zs_mf r f = false) : zs_fv a (zs_put v r i x) f = zs_fv a v f := by
  match f, h with
  | none, _ => rfl
  | some (.inl c), _ => rfl
  | some (.inr r'), h =>
    have hr : r' ≠ r := by simpa [zs_mf] using h
    simp [zs_fv, zs_put, hr]
theorem zs_ce_put {cA : ClassId} {a : Nat → Nat} {v : zs_V} {r : Nat} {i x : Int} {c : zs_C} (h : zs_mc r c = false) : zs_ce cA a (zs_put v r i x) c = zs_ce cA a v c := by
  match c, h with
  | .inl o, h =>
    simp only [zs_ce]
    congr 2
    apply List.map_congr_left
    intro f hf
    apply zs_fv_put
    simp only [zs_mc, List.any_eq_false] at h
    exact by simpa using h f hf
  | .inr q, h =>
    have hr : q.1 ≠ r := by simpa [zs_mc] using h
    simp [zs_ce, zs_put, hr]
theorem zs_w_put {cA : ClassId} {a : Nat → Nat} {v : zs_V} {sh : List zs_C} {q r : Nat} {i x : Int} {cx cb : zs_C} {E : va_E} (hm : zs_men r (sh.set q cb) = false) (hs : sh[q]? = some cx) (he : zs_ce cA a (zs_put v r i x) cx = E) : (zs_w cA a v sh).set q (a q, E) = zs_w cA a (zs_put v r i x) sh := by
  have hq : q < sh.length := (List.getElem?_eq_some_iff.mp hs).1
  apply List.ext_getElem?
  intro j
  by_cases hj : j = q
  · subst hj
    rw [zs_w_at hs, he, List.getElem?_set_self]
    simpa [zs_w] using hq
  · rw [List.getElem?_set_ne (fun h => hj h.symm)]
    unfold zs_w
    rw [List.getElem?_mapIdx, List.getElem?_mapIdx]
    cases hc : sh[j]? with
    | none => rfl
    | some c =>
      have hmem : c ∈ sh.set q cb := by
        apply List.mem_of_getElem? (i := j)
        rw [List.getElem?_set_ne (fun h => hj h.symm)]
        exact hc
      have h1 : zs_mc r c = false := by
        simp only [zs_men, List.any_eq_false] at hm
        simpa using hm c hmem
      simp [zs_ce_put h1]
theorem zs_ce_arr {cA : ClassId} {a : Nat → Nat} {v : zs_V} {r n : Nat} {k x : Int} (h0 : 0 ≤ k) (h1 : k < 2147483648) : zs_ce cA a (zs_put v r k x) (.inr (r, n)) = .inl (cA, n, .inl (upd (fun j : Nat => zI (v r (j : Int))) (zI k).toNatClampNeg (zI x))) := by
  simp only [zs_ce, zs_put, if_true]
  congr 3
  congr 1
  funext j
  rw [zI_clamp h0 h1]
  unfold upd
  by_cases hj : j = k.toNat
  · subst hj
    rw [if_pos rfl, if_pos (by omega)]
  · rw [if_neg hj, if_neg (by omega)]
theorem zs_ce_fld {cA : ClassId} {a : Nat → Nat} {v : zs_V} {r ci j : Nat} {fs : List zs_F} {x : Int} (hf : fs[j]? = some (some (.inr r))) (hm : zs_mc r (.inl (ci, fs.set j none)) = false) : zs_ce cA a (zs_put v r 0 x) (.inl (ci, fs)) = .inr (ci, (fs.map (zs_fv a v)).set j (.int (zI x))) := by
  have hj : j < fs.length := (List.getElem?_eq_some_iff.mp hf).1
  simp only [zs_ce]
  congr 2
  apply List.ext_getElem?
  intro i
  by_cases hi : i = j
  · subst hi
    rw [List.getElem?_set_self (by simpa using hj), List.getElem?_map, hf]
    simp [zs_fv, zs_put]
  · rw [List.getElem?_set_ne (fun h => hi h.symm), List.getElem?_map, List.getElem?_map]
    cases hc : fs[i]? with
    | none => rfl
    | some f =>
      have hmem : f ∈ fs.set j none := by
        apply List.mem_of_getElem? (i := i)
        rw [List.getElem?_set_ne (fun h => hi h.symm)]
        exact hc
      have h1 : zs_mf r f = false := by
        simp only [zs_mc, List.any_eq_false] at hm
        simpa using hm f hmem
      simp [zs_fv_put h1]
/-! locals -/
def zs_L (a : Nat → Nat) (ls : Array Slot) (nL : Nat) (lv : List (Option zs_A)) : Prop := ls.size = nL ∧ lv_wf ls ∧ ∀ (i : Nat) (x : zs_A), lv[i]? = some (some x) → ls[i]? = some (.val (zs_v a x))
def zs_prs (a : Nat → Nat) (lv : List (Option zs_A)) : List (Nat × Value) := lv.zipIdx.filterMap (fun q => q.1.map (fun x => (q.2, zs_v a x)))
theorem zs_cat (a : Nat → Nat) (x : zs_A) : (zs_v a x).category = 1 := by
  cases x <;> rfl
theorem zs_prs_mem {a : Nat → Nat} {lv : List (Option zs_A)} {q : Nat × Value} (h : q ∈ zs_prs a lv) : ∃ x, lv[q.1]? = some (some x) ∧ q.2 = zs_v a x := by
  obtain ⟨y, hy, hq⟩ := List.mem_filterMap.mp h
  obtain ⟨o, i⟩ := y
  have h1 := List.mem_zipIdx_iff_getElem?.mp hy
  cases o with
  | none => simp at hq
  | some x =>
    simp at hq
    subst hq
    exact ⟨x, h1, rfl⟩
theorem zs_mem_prs {a : Nat → Nat} {lv : List (Option zs_A)} {i : Nat} {x : zs_A} (h : lv[i]? = some (some x)) : (i, zs_v a x) ∈ zs_prs a lv := by
  apply List.mem_filterMap.mpr
  exact ⟨(some x, i), List.mem_zipIdx_iff_getElem?.mpr h, rfl⟩
theorem zs_L_has {a : Nat → Nat} {ls : Array Slot} {nL : Nat} {lv : List (Option zs_A)} (h : zs_L a ls nL lv) : lv_has ls nL (zs_prs a lv) := by
  refine ⟨h.1, h.2.1, fun q hq => ?_⟩
  obtain ⟨x, h1, h2⟩ := zs_prs_mem hq
  rw [h2]
  exact h.2.2 _ _ h1
theorem zs_L_set {a : Nat → Nat} {ls : Array Slot} {nL : Nat} {lv : List (Option zs_A)} {j : Nat} {x : zs_A} {w : Value} (hw : w = zs_v a x) (h : lv_has ls nL ((j, w) :: (zs_prs a lv).filter (fun q => !(q.1 == j) && !(q.1 + 1 == j && q.2.category == 2)))) : zs_L a ls nL (lv.set j (some x)) := by
  refine ⟨h.1, h.2.1, fun i y hy => ?_⟩
  by_cases hi : i = j
  · subst hi
    have : y = x := by
      have hl : i < (lv.set i (some x)).length := (List.getElem?_eq_some_iff.mp hy).1
      rw [List.getElem?_set_self (by simpa using hl)] at hy
      simpa using hy.symm
    subst this
    rw [← hw]
    exact h.2.2 (i, w) List.mem_cons_self
  · rw [List.getElem?_set_ne (fun h => hi h.symm)] at hy
    refine h.2.2 (i, zs_v a y) (List.mem_cons_of_mem _ (List.mem_filter.mpr ⟨zs_mem_prs hy, ?_⟩))
    simp [hi, zs_cat]
def zs_ent (nL : Nat) (As : List zs_A) : List (Option zs_A) := As.map some ++ List.replicate (nL - As.length) none
theorem zs_lv_args (a : Nat → Nat) : ∀ (As : List zs_A) (k i : Nat) (x : zs_A), As[i]? = some x → (k + i, zs_v a x) ∈ lv_args k (As.map (zs_v a))
  | [], k, i, x, h => by simp at h
  | y :: As, k, 0, x, h => by
    simp at h
    subst h
    simp [lv_args]
  | y :: As, k, i + 1, x, h => by
    have := zs_lv_args a As (k + 1) i x (by simpa using h)
    simp only [List.map_cons, lv_args, zs_cat]
    rw [if_neg (by decide)]
    refine List.mem_cons_of_mem _ ?_
    rw [show k + (i + 1) = k + 1 + i by omega]
    exact this
theorem zs_lg_sl (a : Nat → Nat) (As : List zs_A) : (lg_sl (As.map (zs_v a))).length = As.length := by
  induction As with
  | nil => rfl
  | cons x As ih =>
    have : lg_sl ((x :: As).map (zs_v a)) = .val (zs_v a x) :: lg_sl (As.map (zs_v a)) := by
      simp [lg_sl, zs_cat]
    rw [this]
    simp [ih]
theorem zs_L_ent {a : Nat → Nat} {As : List zs_A} {nL : Nat} (h : As.length ≤ nL) : zs_L a ((lg_sl (As.map (zs_v a)) ++ List.replicate (nL - (lg_sl (As.map (zs_v a))).length) Slot.unset).toArray) nL (zs_ent nL As) := by
  have h1 := lv_entry (As.map (zs_v a)) (n := nL) (by rw [zs_lg_sl]; exact h)
  refine ⟨h1.1, h1.2.1, fun i x hx => ?_⟩
  have hA : As[i]? = some x := by
    unfold zs_ent at hx
    by_cases hi : i < As.length
    · rw [List.getElem?_append_left (by simpa using hi), List.getElem?_map] at hx
      cases hc : As[i]? with
      | none => rw [hc] at hx; simp at hx
      | some y => rw [hc] at hx; simpa using hx
    · rw [List.getElem?_append_right (by simpa using hi)] at hx
      have := List.eq_of_mem_replicate (List.mem_of_getElem? hx)
      cases this
  have := zs_lv_args a As 0 i x hA
  rw [Nat.zero_add] at this
  exact h1.2.2 _ this
