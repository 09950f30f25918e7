def zs_Pre (dC : Nat → ClassId) (dI : Nat → Nat → Nat) (cA : ClassId) (a : Nat → Nat) (v : zs_V) (sh : List zs_C) (sz : Nat) (U : State) : Prop := U.heap.size = sz ∧ va_P (dC, dI) vwCl (zs_w cA a v sh) U.heap ∧ va_K (dC, dI) vwCl [(cA, .int)] U ∧ va_D (fun _ => True) (zs_w cA a v sh)
/-- what a call takes of the method called -/
def zs_Y (M : zs_M) (y : MethodName) (np : Nat) : Prop := (∃ ws', M.2.2.1 = Cond.code y M.2.1 M.2.2.2.1 M.2.2.2.2.1 :: ws') ∧ M.1 = y.cls ∧ plainName y.cls = true ∧ (y.cls ≠ "java/lang/invoke/MethodHandle" ∧ y.cls ≠ "java/lang/invoke/VarHandle" ∧ (parseMethodDescriptor y.desc).map (fun d => d.parameters.length) = some np) ∧ M.2.2.2.2.2.cells = 0 ∧ M.2.2.2.2.2.slots = 0
theorem zs_met {M : zs_M} {sh : List zs_C} {post : Int → zs_V → Prop} {v : zs_V} {y : MethodName} {np : Nat} (hY : zs_Y M y np) {As : List zs_A} (hn : As.length ≤ M.2.2.2.1) (h : zs_R M 0 0 sh post v 0 (zs_ent M.2.2.2.1 As) []) (l : Launch) (dC : Nat → ClassId) (dI : Nat → Nat → Nat) (cA : ClassId) (a : Nat → Nat) (sz : Nat) :
    Met l y M.2.2.1 M.2.2.2.2.2 (va_Pc (As.map (zs_v a)) (zs_Pre dC dI cA a v sh sz)) (zs_Q M.2.2.2.2.1 post (zs_B dC dI cA a (va_A (zs_w cA a v sh) sz) sh) (va_A (zs_w cA a v sh) sz)) 0 0 (va_A (zs_w cA a v sh) sz) := by
  obtain ⟨⟨ws', hw⟩, ho, hy, -, -, -⟩ := hY
  refine Met.ofW (cc := M.2.1) (maxL := M.2.2.2.1) (ret := M.2.2.2.2.1) hy hw ?_
  intro p e s m args below meth c s₁ B hml hv
  obtain ⟨rfl, hsz, hP, hK, hD0⟩ := hv
  have hts := atoms_spec (ws := M.2.2.1) B.pre
  have hown : s.vm.findClass y.cls = some m.cls := findClass_of_methodNamed B.named
  subst hsz
  have hD := hD0.self (sz := s.heap.size)
  rw [lg_entry_eq]
  exact h p l e s m _ below meth c dC dI cA a _ s.heap [] _ ⟨B.exec, B.bytes, hml, by rw [ho]; exact hown, hts⟩ B.returns B.notSynchronized hK (fun q h => Or.inr h) (zs_L_ent hn) hP hD va_S.rf
theorem zs_cats (a : Nat → Nat) (st : List zs_A) : ((st.map (zs_v a)).map fun v => v.category).sum = st.length := by
  induction st with
  | nil => rfl
  | cons x st ih =>
    simp only [List.map_cons, List.sum_cons, List.length_cons, zs_cat]
    rw [ih]
    omega
theorem zs_blind {dC : Nat → ClassId} {dI : Nat → Nat → Nat} {cA : ClassId} {a : Nat → Nat} {v : zs_V} {sh : List zs_C} {sz : Nat} {av : List Value} : FrameBlind (va_Pc av (zs_Pre dC dI cA a v sh sz)) := by
  intro a U g mk q
  obtain ⟨q0, q1, qP, qK, qD⟩ := q
  exact ⟨q0, q1, qP, va_K.moved (u := U) (U := U.calling g mk a) (Vm.Alike.refl U.vm) qK, qD⟩
section ZC
variable {M M' : zs_M} {k n : Nat} {sh : List zs_C} {post post' : Int → zs_V → Prop} {v : zs_V} {pc : Nat} {lv : List (Option zs_A)} {st : List zs_A} {y : MethodName} {np q ci i : Nat} {fs : List zs_F} {C : String} {T : u_T} {N : Nat} {As rest : List zs_A}
theorem zs_callV {ty : FieldType} (hd : decode M.2.1 pc = .ok (.invokevirtual i, 3)) (hst : st = As.reverse ++ .inr q :: rest) (hlen : rest.length ≤ 8) (hs : sh[q]? = some (.inl (ci, fs))) (hc : vwCl[ci]? = some (C, T, N)) (hY : zs_Y M' y np) (hC : y.cls = C) (hnp : As.length = np) (hnl : As.length + 1 ≤ M'.2.2.2.1) (hG : GoodIn M.2.2.1 (wsV M.1 i C y M'.2.2.1)) (hR : M'.2.2.2.2.2.frames + 1 ≤ M.2.2.2.2.2.frames ∧ 8 + (M'.2.2.2.1 + 11) + M'.2.2.2.2.2.locals ≤ M.2.2.2.2.2.locals) (hkn : k ≤ M.2.2.2.2.2.cells ∧ n ≤ M.2.2.2.2.2.slots) (hret : M'.2.2.2.2.1 = some ty) (hM : zs_R M' 0 0 sh post' v 0 (zs_ent M'.2.2.2.1 (.inr q :: As)) [])
    (kk : ∀ r v', post' r v' → zs_R M k n sh post v' (pc + 3) lv (.inl r :: rest)) : zs_R M k n sh post v pc lv st := by
  intro p l e s m args below meth c dC dI cA a A H locs ls hF hr hlk hK hA hL hP hD hS
  have hMet := zs_met hY (As := .inr q :: As) (by simpa using hnl) hM l dC dI cA a H.size
  rw [hret] at hMet
  obtain ⟨⟨ws', hw⟩, ho, hy, hdc, hrc, hrs⟩ := hY
  have hFc : ∀ q, va_A (zs_w cA a v sh) H.size q → A q := by
    rintro q (⟨k, e, h⟩ | h)
    · exact hD.2 k _ h
    · exact hA q (Nat.le_trans hS.1 h)
  refine va_calli (va_runV (As := As.map (zs_v a)) (rest := rest.map (zs_v a)) (b := a q) hF hMet (cwV np hF.2.2.2.2 hG hw hrc hrs ⟨hC, hdc⟩ hR) ⟨zs_blind, va_recv hK hP hc (zs_w_at hs), fun U hU hW => ⟨rfl, by rw [hU], by rw [hU]; exact hP, va_K.moved hW.alike hK, hD.weaken (fun _ _ _ _ => trivial)⟩⟩ rfl (by simpa using hnp) hL.1 (by rw [hst]; simp [zs_v]) (lv_room (by rw [zs_cats]; exact hlen)) hd ⟨hkn.1, hkn.2⟩) hS (fun q _ h => hFc q h) hFc (fun r u t H1 locs1 ht hvm hw1 hB hz1 hk1 hS1 => ?_)
  obtain ⟨x, rfl, hx⟩ := hw1
  obtain ⟨hP1, hK1, hD1⟩ := hB
  rw [ht] at hP1
  exact kk x u hx p l e s m args below meth c dC dI cA a A H1 locs1 ls hF hr hlk hK hA hL hP1 (hD1.weaken (fun _ q _ h => hFc q.1 h)) hS1
theorem zs_callVv (hd : decode M.2.1 pc = .ok (.invokevirtual i, 3)) (hst : st = As.reverse ++ .inr q :: rest) (hlen : rest.length ≤ 8) (hs : sh[q]? = some (.inl (ci, fs))) (hc : vwCl[ci]? = some (C, T, N)) (hY : zs_Y M' y np) (hC : y.cls = C) (hnp : As.length = np) (hnl : As.length + 1 ≤ M'.2.2.2.1) (hG : GoodIn M.2.2.1 (wsV M.1 i C y M'.2.2.1)) (hR : M'.2.2.2.2.2.frames + 1 ≤ M.2.2.2.2.2.frames ∧ 8 + (M'.2.2.2.1 + 11) + M'.2.2.2.2.2.locals ≤ M.2.2.2.2.2.locals) (hkn : k ≤ M.2.2.2.2.2.cells ∧ n ≤ M.2.2.2.2.2.slots) (hret : M'.2.2.2.2.1 = none) (hM : zs_R M' 0 0 sh post' v 0 (zs_ent M'.2.2.2.1 (.inr q :: As)) [])
    (kk : ∀ v', post' 0 v' → zs_R M k n sh post v' (pc + 3) lv rest) : zs_R M k n sh post v pc lv st := by
  intro p l e s m args below meth c dC dI cA a A H locs ls hF hr hlk hK hA hL hP hD hS
  have hMet := zs_met hY (As := .inr q :: As) (by simpa using hnl) hM l dC dI cA a H.size
  rw [hret] at hMet
  obtain ⟨⟨ws', hw⟩, ho, hy, hdc, hrc, hrs⟩ := hY
  have hFc : ∀ q, va_A (zs_w cA a v sh) H.size q → A q := by
    rintro q (⟨k, e, h⟩ | h)
    · exact hD.2 k _ h
    · exact hA q (Nat.le_trans hS.1 h)
  refine va_callv (va_runV (As := As.map (zs_v a)) (rest := rest.map (zs_v a)) (b := a q) hF hMet (cwV np hF.2.2.2.2 hG hw hrc hrs ⟨hC, hdc⟩ hR) ⟨zs_blind, va_recv hK hP hc (zs_w_at hs), fun U hU hW => ⟨rfl, by rw [hU], by rw [hU]; exact hP, va_K.moved hW.alike hK, hD.weaken (fun _ _ _ _ => trivial)⟩⟩ rfl (by simpa using hnp) hL.1 (by rw [hst]; simp [zs_v]) (lv_room (by rw [zs_cats]; exact hlen)) hd ⟨hkn.1, hkn.2⟩) hS (fun q _ h => hFc q h) hFc (fun u t H1 locs1 ht hvm hw1 hB hz1 hk1 hS1 => ?_)
  obtain ⟨hP1, hK1, hD1⟩ := hB
  rw [ht] at hP1
  exact kk u hw1 p l e s m args below meth c dC dI cA a A H1 locs1 ls hF hr hlk hK hA hL hP1 (hD1.weaken (fun _ q _ h => hFc q.1 h)) hS1
theorem zs_callS {ty : FieldType} (hd : decode M.2.1 pc = .ok (.invokestatic i, 3)) (hst : st = As.reverse ++ rest) (hlen : rest.length ≤ 8) (hY : zs_Y M' y np) (hnp : As.length = np) (hnl : As.length ≤ M'.2.2.2.1) (hG : GoodIn M.2.2.1 (va_wsS M.1 i y M'.2.2.1)) (hR : M'.2.2.2.2.2.frames + 1 ≤ M.2.2.2.2.2.frames ∧ 8 + (M'.2.2.2.1 + 11) + M'.2.2.2.2.2.locals ≤ M.2.2.2.2.2.locals) (hkn : k ≤ M.2.2.2.2.2.cells ∧ n ≤ M.2.2.2.2.2.slots) (hret : M'.2.2.2.2.1 = some ty) (hM : zs_R M' 0 0 sh post' v 0 (zs_ent M'.2.2.2.1 As) [])
    (kk : ∀ r v', post' r v' → zs_R M k n sh post v' (pc + 3) lv (.inl r :: rest)) : zs_R M k n sh post v pc lv st := by
  intro p l e s m args below meth c dC dI cA a A H locs ls hF hr hlk hK hA hL hP hD hS
  have hMet := zs_met hY (As := As) hnl hM l dC dI cA a H.size
  rw [hret] at hMet
  obtain ⟨⟨ws', hw⟩, ho, hy, hdc, hrc, hrs⟩ := hY
  have hFc : ∀ q, va_A (zs_w cA a v sh) H.size q → A q := by
    rintro q (⟨k, e, h⟩ | h)
    · exact hD.2 k _ h
    · exact hA q (Nat.le_trans hS.1 h)
  refine va_calli (va_runS (As := As.map (zs_v a)) (rest := rest.map (zs_v a)) hF hMet (va_cwS np hF.2.2.2.2 hG hw hrc hrs hdc hR) ⟨zs_blind, fun U hU hW => ⟨rfl, by rw [hU], by rw [hU]; exact hP, va_K.moved hW.alike hK, hD.weaken (fun _ _ _ _ => trivial)⟩⟩ rfl (by simpa using hnp) hL.1 (by rw [hst]; simp) (lv_room (by rw [zs_cats]; exact hlen)) hd ⟨hkn.1, hkn.2⟩) hS (fun q _ h => hFc q h) hFc (fun r u t H1 locs1 ht hvm hw1 hB hz1 hk1 hS1 => ?_)
  obtain ⟨x, rfl, hx⟩ := hw1
  obtain ⟨hP1, hK1, hD1⟩ := hB
  rw [ht] at hP1
  exact kk x u hx p l e s m args below meth c dC dI cA a A H1 locs1 ls hF hr hlk hK hA hL hP1 (hD1.weaken (fun _ q _ h => hFc q.1 h)) hS1
theorem zs_callSv (hd : decode M.2.1 pc = .ok (.invokestatic i, 3)) (hst : st = As.reverse ++ rest) (hlen : rest.length ≤ 8) (hY : zs_Y M' y np) (hnp : As.length = np) (hnl : As.length ≤ M'.2.2.2.1) (hG : GoodIn M.2.2.1 (va_wsS M.1 i y M'.2.2.1)) (hR : M'.2.2.2.2.2.frames + 1 ≤ M.2.2.2.2.2.frames ∧ 8 + (M'.2.2.2.1 + 11) + M'.2.2.2.2.2.locals ≤ M.2.2.2.2.2.locals) (hkn : k ≤ M.2.2.2.2.2.cells ∧ n ≤ M.2.2.2.2.2.slots) (hret : M'.2.2.2.2.1 = none) (hM : zs_R M' 0 0 sh post' v 0 (zs_ent M'.2.2.2.1 As) [])
    (kk : ∀ v', post' 0 v' → zs_R M k n sh post v' (pc + 3) lv rest) : zs_R M k n sh post v pc lv st := by
  intro p l e s m args below meth c dC dI cA a A H locs ls hF hr hlk hK hA hL hP hD hS
  have hMet := zs_met hY (As := As) hnl hM l dC dI cA a H.size
  rw [hret] at hMet
  obtain ⟨⟨ws', hw⟩, ho, hy, hdc, hrc, hrs⟩ := hY
  have hFc : ∀ q, va_A (zs_w cA a v sh) H.size q → A q := by
    rintro q (⟨k, e, h⟩ | h)
    · exact hD.2 k _ h
    · exact hA q (Nat.le_trans hS.1 h)
  refine va_callv (va_runS (As := As.map (zs_v a)) (rest := rest.map (zs_v a)) hF hMet (va_cwS np hF.2.2.2.2 hG hw hrc hrs hdc hR) ⟨zs_blind, fun U hU hW => ⟨rfl, by rw [hU], by rw [hU]; exact hP, va_K.moved hW.alike hK, hD.weaken (fun _ _ _ _ => trivial)⟩⟩ rfl (by simpa using hnp) hL.1 (by rw [hst]; simp) (lv_room (by rw [zs_cats]; exact hlen)) hd ⟨hkn.1, hkn.2⟩) hS (fun q _ h => hFc q h) hFc (fun u t H1 locs1 ht hvm hw1 hB hz1 hk1 hS1 => ?_)
  obtain ⟨hP1, hK1, hD1⟩ := hB
  rw [ht] at hP1
  exact kk u hw1 p l e s m args below meth c dC dI cA a A H1 locs1 ls hF hr hlk hK hA hL hP1 (hD1.weaken (fun _ q _ h => hFc q.1 h)) hS1
end ZC
