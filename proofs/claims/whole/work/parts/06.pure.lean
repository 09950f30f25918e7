
/-! truth as a number -/
noncomputable def zb (P : Prop) : Int := @ite Int P (Classical.propDecidable P) 1 0
theorem zb_p {P : Prop} (h : P) : zb P = 1 := by unfold zb; exact if_pos h
theorem zb_n {P : Prop} (h : ¬ P) : zb P = 0 := by unfold zb; exact if_neg h
theorem zb_b (P : Prop) : 0 ≤ zb P ∧ zb P ≤ 1 := by
  by_cases h : P
  · rw [zb_p h]; omega
  · rw [zb_n h]; omega
theorem zb_01 (P : Prop) : zb P = 0 ∨ zb P = 1 := by have := zb_b P; omega
theorem zb_zn (P : Prop) : zn (zb P) := by have := zb_b P; omega
theorem zb_t {P : Prop} (h : ¬ zb P = 0) : P := by
  by_cases hp : P
  · exact hp
  · exact absurd (zb_n hp) h
theorem zb_f {P : Prop} (h : zb P = 0) : ¬ P := fun hp => by rw [zb_p hp] at h; omega
theorem zb_c {P Q : Prop} (h : P ↔ Q) : zb P = zb Q := by rw [propext h]
theorem zb_if (P : Prop) (i : Decidable P) : zb P = @ite Int P i 1 0 := by
  by_cases h : P
  · rw [zb_p h, if_pos h]
  · rw [zb_n h, if_neg h]
section ZB
variable {M : zs_M} {k n : Nat} {sh : List zs_C} {post post' : Int → zs_V → Prop} {v : zs_V} {pc : Nat} {lv : List (Option zs_A)} {st : List zs_A}
theorem zs_ifz_eq {P : Prop} {off : Int} {tgt : Nat} (hd : decode M.2.1 pc = .ok (.ifCond .eq off, 3)) (ht : (pc : Int) + off = (tgt : Int)) (kt : ¬ P → zs_R M k n sh post v tgt lv st) (kf : P → zs_R M k n sh post v (pc + 3) lv st) : zs_R M k n sh post v pc lv (.inl (zb P) :: st) :=
  zs_if_eq hd ht (zb_zn P) (fun h => kt (zb_f h)) (fun h => kf (zb_t h))
theorem zs_ifz_ne {P : Prop} {off : Int} {tgt : Nat} (hd : decode M.2.1 pc = .ok (.ifCond .ne off, 3)) (ht : (pc : Int) + off = (tgt : Int)) (kt : P → zs_R M k n sh post v tgt lv st) (kf : ¬ P → zs_R M k n sh post v (pc + 3) lv st) : zs_R M k n sh post v pc lv (.inl (zb P) :: st) :=
  zs_if_ne hd ht (zb_zn P) (fun h => kt (zb_t h)) (fun h => kf (zb_f h))
theorem zs_Q_mono {ret : Option FieldType} {B : zs_V → State → Prop} {A : Nat → Prop} (h : ∀ r v, post r v → post' r v) {a : Array Value} {s t : State} {o : Outcome} (hq : zs_Q ret post B A a s o t) : zs_Q ret post' B A a s o t := by
  cases ret with
  | none =>
    obtain ⟨⟨u, h1, h2, h3⟩, h4⟩ := hq
    exact ⟨⟨u, h1, h _ _ h2, h3⟩, h4⟩
  | some ty =>
    obtain ⟨⟨r, u, h1, ⟨x, h2, h5⟩, h3⟩, h4⟩ := hq
    exact ⟨⟨r, u, h1, ⟨x, h2, h _ _ h5⟩, h3⟩, h4⟩
/-- a weaker end -/
theorem zs_mono (h : ∀ r v, post r v → post' r v) (hR : zs_R M k n sh post v pc lv st) : zs_R M k n sh post' v pc lv st := by
  intro p l e s m args below meth c dC dI cA a A H locs ls hF hr hlk hK hA hL hP hD hS T hT X
  obtain ⟨t, h1, o, h2, h3, h4, h5⟩ := hR p l e s m args below meth c dC dI cA a A H locs ls hF hr hlk hK hA hL hP hD hS T hT X
  exact ⟨t, h1, o, h2, h3, zs_Q_mono h h4, h5⟩
end ZB
/-- just this answer, just this state -/
abbrev zs_X (r0 : Int) (v0 : zs_V) : Int → zs_V → Prop := fun r v' => r = r0 ∧ v' = v0
section ZE
variable {M M' : zs_M} {k n : Nat} {sh : List zs_C} {post : Int → zs_V → Prop} {v v0 : zs_V} {r0 : Int} {pc : Nat} {lv : List (Option zs_A)} {st : List zs_A} {y : MethodName} {np q ci i : Nat} {fs : List zs_F} {C : String} {T : u_T} {N : Nat} {As rest : List zs_A}
theorem zs_eV {ty : FieldType} (hd : decode M.2.1 pc = .ok (.invokevirtual i, 3)) (hst : st = As.reverse ++ .inr q :: rest) (hlen : rest.length ≤ 8) (hs : sh[q]? = some (.inl (ci, fs))) (hc : vwCl[ci]? = some (C, T, N)) (hY : zs_Y M' y np) (hC : y.cls = C) (hnp : As.length = np) (hnl : As.length + 1 ≤ M'.2.2.2.1) (hG : GoodIn M.2.2.1 (wsV M.1 i C y M'.2.2.1)) (hR : M'.2.2.2.2.2.frames + 1 ≤ M.2.2.2.2.2.frames ∧ 8 + (M'.2.2.2.1 + 11) + M'.2.2.2.2.2.locals ≤ M.2.2.2.2.2.locals) (hkn : k ≤ M.2.2.2.2.2.cells ∧ n ≤ M.2.2.2.2.2.slots) (hret : M'.2.2.2.2.1 = some ty) (hM : zs_R M' 0 0 sh (zs_X r0 v0) v 0 (zs_ent M'.2.2.2.1 (.inr q :: As)) [])
    (kk : zs_R M k n sh post v0 (pc + 3) lv (.inl r0 :: rest)) : zs_R M k n sh post v pc lv st :=
  zs_callV hd hst hlen hs hc hY hC hnp hnl hG hR hkn hret hM (fun r v' h => by rw [h.1, h.2]; exact kk)
theorem zs_eVv (hd : decode M.2.1 pc = .ok (.invokevirtual i, 3)) (hst : st = As.reverse ++ .inr q :: rest) (hlen : rest.length ≤ 8) (hs : sh[q]? = some (.inl (ci, fs))) (hc : vwCl[ci]? = some (C, T, N)) (hY : zs_Y M' y np) (hC : y.cls = C) (hnp : As.length = np) (hnl : As.length + 1 ≤ M'.2.2.2.1) (hG : GoodIn M.2.2.1 (wsV M.1 i C y M'.2.2.1)) (hR : M'.2.2.2.2.2.frames + 1 ≤ M.2.2.2.2.2.frames ∧ 8 + (M'.2.2.2.1 + 11) + M'.2.2.2.2.2.locals ≤ M.2.2.2.2.2.locals) (hkn : k ≤ M.2.2.2.2.2.cells ∧ n ≤ M.2.2.2.2.2.slots) (hret : M'.2.2.2.2.1 = none) (hM : zs_R M' 0 0 sh (zs_X 0 v0) v 0 (zs_ent M'.2.2.2.1 (.inr q :: As)) [])
    (kk : zs_R M k n sh post v0 (pc + 3) lv rest) : zs_R M k n sh post v pc lv st :=
  zs_callVv hd hst hlen hs hc hY hC hnp hnl hG hR hkn hret hM (fun v' h => by rw [h.2]; exact kk)
theorem zs_eS {ty : FieldType} (hd : decode M.2.1 pc = .ok (.invokestatic i, 3)) (hst : st = As.reverse ++ rest) (hlen : rest.length ≤ 8) (hY : zs_Y M' y np) (hnp : As.length = np) (hnl : As.length ≤ M'.2.2.2.1) (hG : GoodIn M.2.2.1 (va_wsS M.1 i y M'.2.2.1)) (hR : M'.2.2.2.2.2.frames + 1 ≤ M.2.2.2.2.2.frames ∧ 8 + (M'.2.2.2.1 + 11) + M'.2.2.2.2.2.locals ≤ M.2.2.2.2.2.locals) (hkn : k ≤ M.2.2.2.2.2.cells ∧ n ≤ M.2.2.2.2.2.slots) (hret : M'.2.2.2.2.1 = some ty) (hM : zs_R M' 0 0 sh (zs_X r0 v0) v 0 (zs_ent M'.2.2.2.1 As) [])
    (kk : zs_R M k n sh post v0 (pc + 3) lv (.inl r0 :: rest)) : zs_R M k n sh post v pc lv st :=
  zs_callS hd hst hlen hY hnp hnl hG hR hkn hret hM (fun r v' h => by rw [h.1, h.2]; exact kk)
theorem zs_eSv (hd : decode M.2.1 pc = .ok (.invokestatic i, 3)) (hst : st = As.reverse ++ rest) (hlen : rest.length ≤ 8) (hY : zs_Y M' y np) (hnp : As.length = np) (hnl : As.length ≤ M'.2.2.2.1) (hG : GoodIn M.2.2.1 (va_wsS M.1 i y M'.2.2.1)) (hR : M'.2.2.2.2.2.frames + 1 ≤ M.2.2.2.2.2.frames ∧ 8 + (M'.2.2.2.1 + 11) + M'.2.2.2.2.2.locals ≤ M.2.2.2.2.2.locals) (hkn : k ≤ M.2.2.2.2.2.cells ∧ n ≤ M.2.2.2.2.2.slots) (hret : M'.2.2.2.2.1 = none) (hM : zs_R M' 0 0 sh (zs_X 0 v0) v 0 (zs_ent M'.2.2.2.1 As) [])
    (kk : zs_R M k n sh post v0 (pc + 3) lv rest) : zs_R M k n sh post v pc lv st :=
  zs_callSv hd hst hlen hY hnp hnl hG hR hkn hret hM (fun v' h => by rw [h.2]; exact kk)
end ZE
theorem zs_put_s (v : zs_V) (r : Nat) (k x : Int) : zs_put v r k x r k = x := by simp [zs_put]
theorem zs_put_r (v : zs_V) (r : Nat) (k x : Int) {r' : Nat} (h : r' ≠ r) : zs_put v r k x r' = v r' := by
  funext j
  simp [zs_put, h]
theorem zs_put_k (v : zs_V) (r : Nat) (k x : Int) {k' : Int} (h : k' ≠ k) : zs_put v r k x r k' = v r k' := by simp [zs_put, h]
theorem zs_put_e (v : zs_V) (r : Nat) (k x : Int) (k' : Int) : zs_put v r k x r k' = if k' = k then x else v r k' := by simp [zs_put]
/-! the class: what its methods answer, out of its registers -/
def x_left (v : zs_V) (p : Int) : Int := v 8 p - v 4 (v 1 (v 5 p / 1000))
/-- the states are as they must be -/
def x_S (v : zs_V) : Prop := 0 ≤ v 15 0 ∧ v 15 0 ≤ 6 ∧ (∀ s : Int, 0 ≤ s → s < v 15 0 → (v 0 s = 0 ∨ v 0 s = 1) ∧ (v 1 s = 0 ∨ v 1 s = 1) ∧ 1 ≤ v 2 s ∧ v 2 s ≤ 100000 ∧ (v 3 s = 0 ∨ v 3 s = 1)) ∧ 0 ≤ v 4 0 ∧ v 4 0 ≤ 1000000000 ∧ 0 ≤ v 4 1 ∧ v 4 1 ≤ 1000000000
/-- a place that is taken -/
def x_P (v : zs_V) (p : Int) : Prop := 0 ≤ p ∧ p < 200 ∧ 0 ≤ v 5 p ∧ v 5 p < 1000 * v 15 0
def x_E (v : zs_V) (p : Int) : Prop := x_P v p ∧ 0 ≤ v 8 p ∧ v 8 p ≤ 1000100000
/-- the line -/
def x_T (v : zs_V) : Prop := 0 ≤ v 16 0 ∧ v 16 0 ≤ 200 ∧ ∀ j : Int, 0 ≤ j → j < v 16 0 → x_E v (v 9 j)
def x_seg (v : zs_V) : Int → Nat → List Int
  | _, 0 => []
  | j, n + 1 => v 9 j :: x_seg v (j + 1) n
def x_L (v : zs_V) : List Int := x_seg v 0 (v 16 0).toNat
def x_pl (v : zs_V) (slot i over : Int) : List Int → Int → Int
  | [], _ => -1
  | p :: ps, b => if v 5 p = slot ∧ (¬ over = 0 ∨ 0 < x_left v p) then (if b = i then p else x_pl v slot i over ps (b + 1)) else x_pl v slot i over ps b
noncomputable def x_hm (v : zs_V) (s k b : Int) : List Int → Int
  | [] => 0
  | p :: ps => (if (v 5 p / 1000 = s ∧ v 5 p / 10 % 100 = k) ∧ zb (0 < x_left v p) = b then 1 else 0) + x_hm v s k b ps
def x_hs (v : zs_V) : List Int → Int
  | [] => 0
  | p :: ps => (if 0 < x_left v p then 1 else 0) + x_hs v ps
def x_nx (v : zs_V) (s : Int) : List Int → Int → Int
  | [], l => l
  | p :: ps, l => x_nx v s ps (if v 5 p / 1000 = s ∧ 0 < x_left v p ∧ (l = -99999999 ∨ v 8 p < l) then v 8 p else l)
def x_lf (v : zs_V) : Nat → Int → Int
  | 0, _ => -1
  | n + 1, p => if v 5 p = -1 then p else x_lf v n (p + 1)
def x_stamp (v : zs_V) (p span : Int) : zs_V := zs_put (zs_put v 7 p (v 4 (v 1 (v 5 p / 1000)))) 8 p (v 4 (v 1 (v 5 p / 1000)) + span)
def x_write (v : zs_V) (p x : Int) : zs_V := x_stamp (zs_put v 6 p x) p (v 2 (v 5 p / 1000))
def x_ri (v : zs_V) (i : Int) : Int := (v 17 0 + i) % 150 * 6
def x_rb (v : zs_V) : zs_V := zs_put (if v 18 0 = 150 then zs_put v 17 0 ((v 17 0 + 1) % 150) else zs_put v 18 0 (v 18 0 + 1)) 19 0 (v 19 0 + 1)
def x_tellA (u v : zs_V) (i p : Int) : zs_V := zs_put (zs_put (zs_put (zs_put (zs_put (zs_put u 10 i (v 5 p / 1000)) 10 (i + 1) (v 5 p / 10 % 100)) 10 (i + 2) (v 5 p % 10)) 10 (i + 3) (v 6 p)) 10 (i + 4) (v 8 p)) 10 (i + 5) (v 4 0)
def x_tell (v : zs_V) (p : Int) : zs_V := x_tellA (x_rb v) (x_rb v) (x_ri (x_rb v) ((x_rb v) 18 0 - 1)) p
def x_keep (v : zs_V) (m s x l : Int) : zs_V := zs_put (zs_put (zs_put (zs_put v 11 (m * 200 + v 14 m) s) 12 (m * 200 + v 14 m) x) 13 (m * 200 + v 14 m) l) 14 m (v 14 m + 1)
def x_mk (m : Int) : List Int → zs_V → zs_V
  | [], v => v
  | p :: ps, v => x_mk m ps (if 0 < x_left v p then x_keep v m (v 5 p) (v 6 p) (x_left v p) else v)
def x_sa (s : Int) : List Int → zs_V → zs_V
  | [], v => v
  | p :: ps, v => x_sa s ps (if v 5 p / 1000 = s ∧ 0 < x_left v p then zs_put v 8 p (v 7 p + v 2 s) else v)
/-- a place goes -/
def x_Vac (v : zs_V) (p : Int) (v' : zs_V) : Prop := (∀ r, r ≠ 5 → r ≠ 9 → r ≠ 16 → v' r = v r) ∧ (∀ q, v' 5 q = if q = p then -1 else v 5 q) ∧ 0 ≤ v' 16 0 ∧ v' 16 0 ≤ v 16 0 ∧ x_L v' = (x_L v).filter (fun q => !(q == p))
def x_Tak (v : zs_V) (p slot : Int) (v' : zs_V) : Prop := (∀ r, r ≠ 5 → r ≠ 9 → r ≠ 16 → v' r = v r) ∧ (∀ q, v' 5 q = if q = p then slot else v 5 q) ∧ v' 16 0 = v 16 0 + 1 ∧ ∃ A B, x_L v = A ++ B ∧ x_L v' = A ++ p :: B ∧ (∀ q ∈ B, slot < v 5 q) ∧ (∀ q, A.getLast? = some q → v 5 q ≤ slot)
theorem x_seg_add (v : zs_V) (a : Int) (m n : Nat) : x_seg v a (m + n) = x_seg v a m ++ x_seg v (a + m) n := by
  induction m generalizing a with
  | zero => simp [x_seg]
  | succ m ih =>
    rw [show m + 1 + n = (m + n) + 1 by omega]
    simp only [x_seg, List.cons_append]
    rw [ih, show a + 1 + (m : Int) = a + ((m + 1 : Nat) : Int) by omega]
theorem x_seg_congr (u v : zs_V) (a b : Int) (n : Nat) (h : ∀ i : Int, 0 ≤ i → i < n → u 9 (a + i) = v 9 (b + i)) : x_seg u a n = x_seg v b n := by
  induction n generalizing a b with
  | zero => rfl
  | succ n ih =>
    simp only [x_seg]
    rw [ih (a + 1) (b + 1) (fun i h0 h1 => by have := h (i + 1) (by omega) (by omega); rw [show a + 1 + i = a + (i + 1) by omega, show b + 1 + i = b + (i + 1) by omega]; exact this)]
    have := h 0 (by omega) (by omega)
    rw [show a + 0 = a by omega, show b + 0 = b by omega] at this
    rw [this]
theorem x_seg_len (v : zs_V) (a : Int) (n : Nat) : (x_seg v a n).length = n := by
  induction n generalizing a with
  | zero => rfl
  | succ n ih => simp [x_seg, ih]
theorem x_seg_mem {v : zs_V} {a : Int} {n : Nat} {p : Int} (h : p ∈ x_seg v a n) : ∃ j : Int, a ≤ j ∧ j < a + n ∧ p = v 9 j := by
  induction n generalizing a with
  | zero => simp [x_seg] at h
  | succ n ih =>
    simp only [x_seg, List.mem_cons] at h
    rcases h with h | h
    · exact ⟨a, by omega, by omega, h⟩
    · obtain ⟨j, h1, h2, h3⟩ := ih h
      exact ⟨j, by omega, by omega, h3⟩
theorem x_seg_in (v : zs_V) (a : Int) (n : Nat) (j : Int) (h1 : a ≤ j) (h2 : j < a + n) : v 9 j ∈ x_seg v a n := by
  induction n generalizing a with
  | zero => omega
  | succ n ih =>
    simp only [x_seg, List.mem_cons]
    by_cases h : j = a
    · left; rw [h]
    · right; exact ih (a + 1) (by omega) (by omega)
