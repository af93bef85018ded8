/-! calls on one or two stretches of the world -/
theorem nd_range : ∀ (k n : Nat), va_nd (List.range' k n) = true
  | _, 0 => rfl
  | k, n + 1 => by
    rw [List.range'_succ, va_nd, nd_range (k + 1) n, Bool.and_true]
    refine decide_eq_true (fun h => ?_)
    have := (List.mem_range'_1.mp h).1
    omega
theorem nd_app : ∀ (a b : List Nat), va_nd a = true → va_nd b = true → (∀ x ∈ a, x ∉ b) → va_nd (a ++ b) = true
  | [], _, _, hb, _ => hb
  | x :: a, b, ha, hb, h => by
    simp only [va_nd, Bool.and_eq_true] at ha
    rw [List.cons_append, va_nd, nd_app a b ha.2 hb (fun y hy => h y (List.mem_cons_of_mem _ hy)), Bool.and_true]
    refine decide_eq_true (fun hm => ?_)
    rcases List.mem_append.mp hm with q | q
    · exact (of_decide_eq_true ha.1) q
    · exact h x List.mem_cons_self q
theorem seg_at {ws wc : va_W} (k n : Nat) (h : (ws.drop k).take n = wc) (hl : wc.length = n) : (List.range' k n).map (fun i => ws[i]?) = wc.map some := by
  apply List.ext_getElem?
  intro i
  rw [List.getElem?_map, List.getElem?_map]
  by_cases hi : i < n
  · have e : wc[i]? = ws[k + i]? := by rw [← h, List.getElem?_take, if_pos hi, List.getElem?_drop]
    have hs : wc[i]? = some wc[i] := List.getElem?_eq_getElem (by omega)
    rw [List.getElem?_range' hi, hs]
    simp only [Option.map_some]
    rw [Nat.one_mul, ← e, hs]
  · rw [List.getElem?_eq_none (by simpa using hi), List.getElem?_eq_none (by omega)]
    rfl
theorem seg_get {ws v w' : va_W} {k n : Nat} (hw : ws.take k ++ (v ++ ws.drop (k + n)) = w') (hl : v.length = n) (hk : k ≤ ws.length) : ∀ (i : Nat) (q : Nat × va_E), w'[i]? = some q → (∃ j : Nat, v[j]? = some q) ∨ (i ∉ List.range' k n ∧ ws[i]? = some q) := by
  intro i q hq
  subst hw
  have ht : (ws.take k).length = k := by rw [List.length_take]; omega
  by_cases h1 : i < k
  · rw [List.getElem?_append_left (by omega), List.getElem?_take, if_pos h1] at hq
    refine Or.inr ⟨fun hm => ?_, hq⟩
    have := (List.mem_range'_1.mp hm).1
    omega
  · rw [List.getElem?_append_right (by omega), ht] at hq
    by_cases h2 : i - k < n
    · rw [List.getElem?_append_left (by omega)] at hq
      exact Or.inl ⟨_, hq⟩
    · rw [List.getElem?_append_right (by omega), List.getElem?_drop, hl] at hq
      refine Or.inr ⟨fun hm => ?_, ?_⟩
      · have := (List.mem_range'_1.mp hm).2
        omega
      · rw [show k + n + (i - k - n) = i by omega] at hq
        exact hq
theorem seg2_at {ws w1 w2 : va_W} (k1 n1 k2 n2 : Nat) (h1 : (ws.drop k1).take n1 = w1) (l1 : w1.length = n1) (h2 : (ws.drop k2).take n2 = w2) (l2 : w2.length = n2) : (List.range' k1 n1 ++ List.range' k2 n2).map (fun i => ws[i]?) = (w1 ++ w2).map some := by
  rw [List.map_append, List.map_append, seg_at k1 n1 h1 l1, seg_at k2 n2 h2 l2]
theorem seg2_get {ws wm v1 v2 w' : va_W} {k1 n1 k2 n2 : Nat} (hm : ws.take k1 ++ (v1 ++ ws.drop (k1 + n1)) = wm) (l1 : v1.length = n1) (b1 : k1 ≤ ws.length) (hw : wm.take k2 ++ (v2 ++ wm.drop (k2 + n2)) = w') (l2 : v2.length = n2) (b2 : k2 ≤ wm.length) : ∀ (i : Nat) (q : Nat × va_E), w'[i]? = some q → (∃ j : Nat, (v1 ++ v2)[j]? = some q) ∨ (i ∉ List.range' k1 n1 ++ List.range' k2 n2 ∧ ws[i]? = some q) := by
  intro i q hq
  rcases seg_get hw l2 b2 i q hq with ⟨j, hj⟩ | ⟨hn, hq⟩
  · exact Or.inl ⟨v1.length + j, by rw [List.getElem?_append_right (by omega), Nat.add_sub_cancel_left]; exact hj⟩
  · rcases seg_get hm l1 b1 i q hq with ⟨j, hj⟩ | ⟨hn2, hq⟩
    · refine Or.inl ⟨j, ?_⟩
      rw [List.getElem?_append_left (List.getElem?_eq_some_iff.mp hj).1]
      exact hj
    · refine Or.inr ⟨fun hx => ?_, hq⟩
      rcases List.mem_append.mp hx with q | q
      · exact hn2 q
      · exact hn q
theorem nd_2 {k1 n1 k2 n2 : Nat} (h : k1 + n1 ≤ k2 ∨ k2 + n2 ≤ k1) : va_nd (List.range' k1 n1 ++ List.range' k2 n2) = true := by
  refine nd_app _ _ (nd_range _ _) (nd_range _ _) (fun x hx hy => ?_)
  have a := List.mem_range'_1.mp hx
  have b := List.mem_range'_1.mp hy
  omega
theorem gjoin {A0 : Nat → Prop} {G : va_G} {cl : List vw_C} {ws wc w1 w' : va_W} {H H1 : Heap} (hP : va_P G cl ws H) (hD : va_D A0 ws) (isC : List Nat) (hC : isC.map (fun i => ws[i]?) = wc.map some) (hget : ∀ (i : Nat) (q : Nat × va_E), w'[i]? = some q → (∃ j : Nat, w1[j]? = some q) ∨ (i ∉ isC ∧ ws[i]? = some q))
    (hk : ∀ q : Nat, q < H.size → ¬ va_A wc H.size q → H1[q]? = H[q]?) (hP1 : va_P G cl w1 H1) : va_P G cl w' H1 := by
  intro k q hkq
  rcases hget k q hkq with ⟨j, hj⟩ | ⟨hn, hq⟩
  · exact hP1 j q hj
  · refine (hP k q hq).kept (hk q.1 (hP k q hq).lt (fun ha => ?_))
    rcases ha with ⟨k2, e, h⟩ | h
    · obtain ⟨j, h3, h4⟩ := zat hC k2 (q.1, e) h
      have hij := hD.1 k j q (q.1, e) hq h4 rfl
      exact hn (hij ▸ List.mem_of_getElem? h3)
    · exact absurd (hP k q hq).lt (Nat.not_lt.mpr h)
section ZGC
variable {X : zX} {l : Launch} {G : va_G} {ca : Nat → ClassId} {cc : ByteArray} {own : String} {Ts : List Cond} {nL : Nat} {rm : Room} {cells slots : Nat} {ws : va_W} {pc : Nat} {lv : List (Nat × Value)} {rest : List Value}
theorem v_gcallVi (h : zOk X l G ca cc own Ts nL rm) {y : MethodName} {wy ws' : List Cond} {rmy : Room} {bytes : ByteArray} {maxL n idx b : Nat} {ret : Option FieldType} {C : String} {As : List Value} {wc wc' : va_W} {r : Int32} (hd : decode cc pc = .ok (.invokevirtual idx, 3)) (hM : zMi l y wy rmy G ca (.ref b :: As) wc r wc') (hg : GoodIn Ts (wsV own idx C y wy)) (hyc : y.cls = C) (hw : wy = Cond.code y bytes maxL ret :: ws') (hrc : rmy.cells = 0 ∧ rmy.slots = 0) (hy : zNoMH y n) (hR : rmy.frames + 1 ≤ rm.frames ∧ 8 + (maxL + 11) + rmy.locals ≤ rm.locals) (isC : List Nat) (hC : isC.map (fun i => ws[i]?) = wc.map some) (hnd : va_nd isC = true) (q0 : Nat) {fs : List Value} {T : u_T} {N ci : Nat} (he : wc[q0]? = some (b, .inr (ci, fs))) (hc : vwCl[ci]? = some (C, T, N)) (hn : As.length = n) {st : List Value} (hst : st = As.reverse ++ .ref b :: rest) (hW : (rest.map fun v => v.category).sum ≤ 8) (hcl : cells ≤ rm.cells ∧ slots ≤ rm.slots) (w' : va_W) (hget : ∀ (i : Nat) (q : Nat × va_E), w'[i]? = some q → (∃ j : Nat, wc'[j]? = some q) ∨ (i ∉ isC ∧ ws[i]? = some q)) (hadr : w'.map Prod.fst = ws.map Prod.fst) (pc' : Nat) (hp : pc + 3 = pc') (k : V X G nL cells slots w' pc' lv (.int r :: rest)) : V X G nL cells slots ws pc lv st := by
  subst hp
  subst hst
  obtain ⟨p, l', e, R, s, m, args, below, meth, c, A, H0, Q⟩ := X
  obtain ⟨rfl, rfl, ⟨hx, hb, hml, hown, hts⟩, hK, hN, hA⟩ := h
  intro ls H locs hl hP hD hS
  have hPc := zsub hP hC
  have hDc := hD.sub isC hnd hC
  have hFc := va_free (wc := wc) hD hS hA isC hC
  refine va_calli (va_runV (As := As) (rest := rest) ⟨hx, hb, hml, hown, hts⟩ (hM H.size) (cwV n hts hg hw hrc.1 hrc.2 ⟨hyc, hy⟩ hR) ⟨zPc.blind, va_recv hK hPc hc he, fun U hU hW => ⟨rfl, by rw [hU], by rw [hU]; exact hPc, va_K.moved hW.alike hK, hDc.weaken (fun _ _ _ _ => trivial), zN.warm hW hN⟩⟩ rfl hn hl.1 rfl (lv_room hW) hd ⟨hcl.1, hcl.2⟩) hS (fun q _ h => hFc q h) hFc (fun r' u t H1 locs ht hvm hr hB hz1 hk1 hS => ?_)
  subst hr
  have hP1 : va_P G vwCl wc' H1 := by rw [← ht]; exact hB
  exact k ls H1 locs hl (gjoin hP hD isC hC hget hk1 hP1) (zDadr hD hadr) hS
theorem v_gcallVl (h : zOk X l G ca cc own Ts nL rm) {y : MethodName} {wy ws' : List Cond} {rmy : Room} {bytes : ByteArray} {maxL n idx b : Nat} {ret : Option FieldType} {C : String} {As : List Value} {wc wc' : va_W} {r : Int64} (hd : decode cc pc = .ok (.invokevirtual idx, 3)) (hM : zMl l y wy rmy G ca (.ref b :: As) wc r wc') (hg : GoodIn Ts (wsV own idx C y wy)) (hyc : y.cls = C) (hw : wy = Cond.code y bytes maxL ret :: ws') (hrc : rmy.cells = 0 ∧ rmy.slots = 0) (hy : zNoMH y n) (hR : rmy.frames + 1 ≤ rm.frames ∧ 8 + (maxL + 11) + rmy.locals ≤ rm.locals) (isC : List Nat) (hC : isC.map (fun i => ws[i]?) = wc.map some) (hnd : va_nd isC = true) (q0 : Nat) {fs : List Value} {T : u_T} {N ci : Nat} (he : wc[q0]? = some (b, .inr (ci, fs))) (hc : vwCl[ci]? = some (C, T, N)) (hn : As.length = n) {st : List Value} (hst : st = As.reverse ++ .ref b :: rest) (hW : (rest.map fun v => v.category).sum ≤ 8) (hcl : cells ≤ rm.cells ∧ slots ≤ rm.slots) (w' : va_W) (hget : ∀ (i : Nat) (q : Nat × va_E), w'[i]? = some q → (∃ j : Nat, wc'[j]? = some q) ∨ (i ∉ isC ∧ ws[i]? = some q)) (hadr : w'.map Prod.fst = ws.map Prod.fst) (pc' : Nat) (hp : pc + 3 = pc') (k : V X G nL cells slots w' pc' lv (.long r :: rest)) : V X G nL cells slots ws pc lv st := by
  subst hp
  subst hst
  obtain ⟨p, l', e, R, s, m, args, below, meth, c, A, H0, Q⟩ := X
  obtain ⟨rfl, rfl, ⟨hx, hb, hml, hown, hts⟩, hK, hN, hA⟩ := h
  intro ls H locs hl hP hD hS
  have hPc := zsub hP hC
  have hDc := hD.sub isC hnd hC
  have hFc := va_free (wc := wc) hD hS hA isC hC
  refine va_calll (va_runV (As := As) (rest := rest) ⟨hx, hb, hml, hown, hts⟩ (hM H.size) (cwV n hts hg hw hrc.1 hrc.2 ⟨hyc, hy⟩ hR) ⟨zPc.blind, va_recv hK hPc hc he, fun U hU hW => ⟨rfl, by rw [hU], by rw [hU]; exact hPc, va_K.moved hW.alike hK, hDc.weaken (fun _ _ _ _ => trivial), zN.warm hW hN⟩⟩ rfl hn hl.1 rfl (lv_room hW) hd ⟨hcl.1, hcl.2⟩) hS (fun q _ h => hFc q h) hFc (fun r' u t H1 locs ht hvm hr hB hz1 hk1 hS => ?_)
  subst hr
  have hP1 : va_P G vwCl wc' H1 := by rw [← ht]; exact hB
  exact k ls H1 locs hl (gjoin hP hD isC hC hget hk1 hP1) (zDadr hD hadr) hS
theorem v_gcallVv (h : zOk X l G ca cc own Ts nL rm) {y : MethodName} {wy ws' : List Cond} {rmy : Room} {bytes : ByteArray} {maxL n idx b : Nat} {ret : Option FieldType} {C : String} {As : List Value} {wc wc' : va_W}  (hd : decode cc pc = .ok (.invokevirtual idx, 3)) (hM : zMv l y wy rmy G ca (.ref b :: As) wc wc') (hg : GoodIn Ts (wsV own idx C y wy)) (hyc : y.cls = C) (hw : wy = Cond.code y bytes maxL ret :: ws') (hrc : rmy.cells = 0 ∧ rmy.slots = 0) (hy : zNoMH y n) (hR : rmy.frames + 1 ≤ rm.frames ∧ 8 + (maxL + 11) + rmy.locals ≤ rm.locals) (isC : List Nat) (hC : isC.map (fun i => ws[i]?) = wc.map some) (hnd : va_nd isC = true) (q0 : Nat) {fs : List Value} {T : u_T} {N ci : Nat} (he : wc[q0]? = some (b, .inr (ci, fs))) (hc : vwCl[ci]? = some (C, T, N)) (hn : As.length = n) {st : List Value} (hst : st = As.reverse ++ .ref b :: rest) (hW : (rest.map fun v => v.category).sum ≤ 8) (hcl : cells ≤ rm.cells ∧ slots ≤ rm.slots) (w' : va_W) (hget : ∀ (i : Nat) (q : Nat × va_E), w'[i]? = some q → (∃ j : Nat, wc'[j]? = some q) ∨ (i ∉ isC ∧ ws[i]? = some q)) (hadr : w'.map Prod.fst = ws.map Prod.fst) (pc' : Nat) (hp : pc + 3 = pc') (k : V X G nL cells slots w' pc' lv (rest)) : V X G nL cells slots ws pc lv st := by
  subst hp
  subst hst
  obtain ⟨p, l', e, R, s, m, args, below, meth, c, A, H0, Q⟩ := X
  obtain ⟨rfl, rfl, ⟨hx, hb, hml, hown, hts⟩, hK, hN, hA⟩ := h
  intro ls H locs hl hP hD hS
  have hPc := zsub hP hC
  have hDc := hD.sub isC hnd hC
  have hFc := va_free (wc := wc) hD hS hA isC hC
  refine va_callv (va_runV (As := As) (rest := rest) ⟨hx, hb, hml, hown, hts⟩ (hM H.size) (cwV n hts hg hw hrc.1 hrc.2 ⟨hyc, hy⟩ hR) ⟨zPc.blind, va_recv hK hPc hc he, fun U hU hW => ⟨rfl, by rw [hU], by rw [hU]; exact hPc, va_K.moved hW.alike hK, hDc.weaken (fun _ _ _ _ => trivial), zN.warm hW hN⟩⟩ rfl hn hl.1 rfl (lv_room hW) hd ⟨hcl.1, hcl.2⟩) hS (fun q _ h => hFc q h) hFc (fun u t H1 locs ht hvm hr hB hz1 hk1 hS => ?_)
  have hP1 : va_P G vwCl wc' H1 := by rw [← ht]; exact hB
  exact k ls H1 locs hl (gjoin hP hD isC hC hget hk1 hP1) (zDadr hD hadr) hS
end ZGC
