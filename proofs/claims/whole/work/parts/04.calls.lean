/-! calls: the callee's cells are a part of the world, at the places isC; behind the call they hold what it left -/
def zput : va_W → List Nat → va_W → va_W
  | ws, i :: is, q :: w => zput (ws.set i q) is w
  | ws, _, _ => ws
theorem zput_get : ∀ (is : List Nat) (w ws : va_W) (k : Nat) (q : Nat × va_E), is.length = w.length → (zput ws is w)[k]? = some q → (∃ j : Nat, w[j]? = some q) ∨ (k ∉ is ∧ ws[k]? = some q)
  | [], [], ws, k, q, _, h => Or.inr ⟨List.not_mem_nil, h⟩
  | [], _ :: _, _, _, _, hl, _ => by cases hl
  | _ :: _, [], _, _, _, hl, _ => by cases hl
  | i :: is, q0 :: w, ws, k, q, hl, h => by
    have hl2 : is.length = w.length := by simpa using hl
    rcases zput_get is w (ws.set i q0) k q hl2 h with ⟨j, hj⟩ | ⟨h1, h2⟩
    · exact Or.inl ⟨j + 1, by simpa using hj⟩
    · by_cases hk : k = i
      · subst hk
        have hlt : k < ws.length := by
          have := (List.getElem?_eq_some_iff.mp h2).1
          simpa using this
        rw [List.getElem?_set_self hlt] at h2
        exact Or.inl ⟨0, by simpa using h2⟩
      · rw [List.getElem?_set_ne (Ne.symm hk)] at h2
        refine Or.inr ⟨fun hm => ?_, h2⟩
        rcases List.mem_cons.mp hm with e | e
        · exact hk e
        · exact h1 e
theorem zat {is : List Nat} {ws w : va_W} (hs : is.map (fun i => ws[i]?) = w.map some) (k : Nat) (q : Nat × va_E) (hq : w[k]? = some q) : ∃ i, is[k]? = some i ∧ ws[i]? = some q := by
  have h1 : (is.map (fun i => ws[i]?))[k]? = some (some q) := by rw [hs, List.getElem?_map, hq]; rfl
  rw [List.getElem?_map] at h1
  cases hi : is[k]? with
  | none => rw [hi] at h1; cases h1
  | some i => rw [hi] at h1; exact ⟨i, rfl, Option.some.inj h1⟩
theorem zsub {G : va_G} {cl : List vw_C} {is : List Nat} {ws w : va_W} {H : Heap} (hP : va_P G cl ws H) (hs : is.map (fun i => ws[i]?) = w.map some) : va_P G cl w H := fun k q hq => by
  obtain ⟨i, -, h2⟩ := zat hs k q hq
  exact hP i q h2
theorem zjoin {A0 : Nat → Prop} {G : va_G} {cl : List vw_C} {ws wc w1 : va_W} {H H1 : Heap} (hP : va_P G cl ws H) (hD : va_D A0 ws) (isC : List Nat) (hC : isC.map (fun i => ws[i]?) = wc.map some) (hlen : isC.length = w1.length)
    (hk : ∀ q : Nat, q < H.size → ¬ va_A wc H.size q → H1[q]? = H[q]?) (hP1 : va_P G cl w1 H1) : va_P G cl (zput ws isC w1) H1 := by
  intro k q hkq
  rcases zput_get isC w1 ws k q hlen hkq with ⟨j, hj⟩ | ⟨hn, hq⟩
  · exact hP1 j q hj
  · refine (hP k q hq).kept (hk q.1 (hP k q hq).lt (fun ha => ?_))
    rcases ha with ⟨k2, e, h⟩ | h
    · obtain ⟨j, h3, h4⟩ := zat hC k2 (q.1, e) h
      have hij := hD.1 k j q (q.1, e) hq h4 rfl
      exact hn (hij ▸ List.mem_of_getElem? h3)
    · exact absurd (hP k q hq).lt (Nat.not_lt.mpr h)
theorem zDadr {A : Nat → Prop} {ws ws' : va_W} (h : va_D A ws) (e : ws'.map Prod.fst = ws.map Prod.fst) : va_D A ws' := by
  have key : ∀ (k : Nat) (q : Nat × va_E), ws'[k]? = some q → ∃ q0, ws[k]? = some q0 ∧ q0.1 = q.1 := by
    intro k q hq
    have h1 : (ws'.map Prod.fst)[k]? = some q.1 := by rw [List.getElem?_map, hq]; rfl
    rw [e, List.getElem?_map] at h1
    cases hi : ws[k]? with
    | none => rw [hi] at h1; cases h1
    | some q0 => rw [hi] at h1; exact ⟨q0, rfl, Option.some.inj h1⟩
  refine ⟨fun i j x y hi hj hxy => ?_, fun k q hk => ?_⟩
  · obtain ⟨x0, h1, h2⟩ := key i x hi
    obtain ⟨y0, h3, h4⟩ := key j y hj
    exact h.1 i j x0 y0 h1 h3 (h2.trans (hxy.trans h4.symm))
  · obtain ⟨q0, h1, h2⟩ := key k q hk
    rw [← h2]
    exact h.2 k q0 h1
def zNoMH (y : MethodName) (n : Nat) : Prop := y.cls ≠ "java/lang/invoke/MethodHandle" ∧ y.cls ≠ "java/lang/invoke/VarHandle" ∧ (parseMethodDescriptor y.desc).map (fun d => d.parameters.length) = some n
theorem zwi {Ts : List Cond} {w : Cond} (i : Nat) (h : Ts[i]? = some w) : w ∈ Ts := List.mem_of_getElem? h
section ZCA
variable {X : zX} {l : Launch} {G : va_G} {ca : Nat → ClassId} {cc : ByteArray} {own : String} {Ts : List Cond} {nL : Nat} {rm : Room} {cells slots : Nat} {ws : va_W} {pc : Nat} {lv : List (Nat × Value)} {rest : List Value}
theorem v_callVi (h : zOk X l G ca cc own Ts nL rm) {y : MethodName} {wy ws' : List Cond} {rmy : Room} {bytes : ByteArray} {maxL n idx b : Nat} {ret : Option FieldType} {C : String} {As : List Value} {wc wc' : va_W} {r : Int32} (hd : decode cc pc = .ok (.invokevirtual idx, 3)) (hM : zMi l y wy rmy G ca (.ref b :: As) wc r wc') (hg : GoodIn Ts (wsV own idx C y wy)) (hyc : y.cls = C) (hw : wy = Cond.code y bytes maxL ret :: ws') (hrc : rmy.cells = 0 ∧ rmy.slots = 0) (hy : zNoMH y n) (hR : rmy.frames + 1 ≤ rm.frames ∧ 8 + (maxL + 11) + rmy.locals ≤ rm.locals) (isC : List Nat) (hC : isC.map (fun i => ws[i]?) = wc.map some) (hnd : va_nd isC = true) (q0 : Nat) {fs : List Value} {T : u_T} {N ci : Nat} (he : wc[q0]? = some (b, .inr (ci, fs))) (hc : vwCl[ci]? = some (C, T, N)) (hn : As.length = n) {st : List Value} (hst : st = As.reverse ++ .ref b :: rest) (hW : (rest.map fun v => v.category).sum ≤ 8) (hcl : cells ≤ rm.cells ∧ slots ≤ rm.slots) (hlen : isC.length = wc'.length) (w' : va_W) (hw' : zput ws isC wc' = w') (hadr : w'.map Prod.fst = ws.map Prod.fst) (pc' : Nat) (hp : pc + 3 = pc') (k : V X G nL cells slots w' pc' lv (.int r :: rest)) : V X G nL cells slots ws pc lv st := by
  subst hp
  subst hst
  subst hw'
  obtain ⟨p, l', e, R, s, m, args, below, meth, c, A, H0, Q⟩ := X
  obtain ⟨rfl, rfl, ⟨hx, hb, hml, hown, hts⟩, hK, hN, hA⟩ := h
  intro ls H locs hl hP hD hS
  have hPc := zsub hP hC
  have hDc := hD.sub isC hnd hC
  have hFc := va_free (wc := wc) hD hS hA isC hC
  refine va_calli (va_runV (As := As) (rest := rest) ⟨hx, hb, hml, hown, hts⟩ (hM H.size) (cwV n hts hg hw hrc.1 hrc.2 ⟨hyc, hy⟩ hR) ⟨zPc.blind, va_recv hK hPc hc he, fun U hU hW => ⟨rfl, by rw [hU], by rw [hU]; exact hPc, va_K.moved hW.alike hK, hDc.weaken (fun _ _ _ _ => trivial), zN.warm hW hN⟩⟩ rfl hn hl.1 rfl (lv_room hW) hd ⟨hcl.1, hcl.2⟩) hS (fun q _ h => hFc q h) hFc (fun r' u t H1 locs ht hvm hr hB hz1 hk1 hS => ?_)
  subst hr
  have hP1 : va_P G vwCl wc' H1 := by rw [← ht]; exact hB
  exact k ls H1 locs hl (zjoin hP hD isC hC hlen hk1 hP1) (zDadr hD hadr) hS
theorem v_callVl (h : zOk X l G ca cc own Ts nL rm) {y : MethodName} {wy ws' : List Cond} {rmy : Room} {bytes : ByteArray} {maxL n idx b : Nat} {ret : Option FieldType} {C : String} {As : List Value} {wc wc' : va_W} {r : Int64} (hd : decode cc pc = .ok (.invokevirtual idx, 3)) (hM : zMl l y wy rmy G ca (.ref b :: As) wc r wc') (hg : GoodIn Ts (wsV own idx C y wy)) (hyc : y.cls = C) (hw : wy = Cond.code y bytes maxL ret :: ws') (hrc : rmy.cells = 0 ∧ rmy.slots = 0) (hy : zNoMH y n) (hR : rmy.frames + 1 ≤ rm.frames ∧ 8 + (maxL + 11) + rmy.locals ≤ rm.locals) (isC : List Nat) (hC : isC.map (fun i => ws[i]?) = wc.map some) (hnd : va_nd isC = true) (q0 : Nat) {fs : List Value} {T : u_T} {N ci : Nat} (he : wc[q0]? = some (b, .inr (ci, fs))) (hc : vwCl[ci]? = some (C, T, N)) (hn : As.length = n) {st : List Value} (hst : st = As.reverse ++ .ref b :: rest) (hW : (rest.map fun v => v.category).sum ≤ 8) (hcl : cells ≤ rm.cells ∧ slots ≤ rm.slots) (hlen : isC.length = wc'.length) (w' : va_W) (hw' : zput ws isC wc' = w') (hadr : w'.map Prod.fst = ws.map Prod.fst) (pc' : Nat) (hp : pc + 3 = pc') (k : V X G nL cells slots w' pc' lv (.long r :: rest)) : V X G nL cells slots ws pc lv st := by
  subst hp
  subst hst
  subst hw'
  obtain ⟨p, l', e, R, s, m, args, below, meth, c, A, H0, Q⟩ := X
  obtain ⟨rfl, rfl, ⟨hx, hb, hml, hown, hts⟩, hK, hN, hA⟩ := h
  intro ls H locs hl hP hD hS
  have hPc := zsub hP hC
  have hDc := hD.sub isC hnd hC
  have hFc := va_free (wc := wc) hD hS hA isC hC
  refine va_calll (va_runV (As := As) (rest := rest) ⟨hx, hb, hml, hown, hts⟩ (hM H.size) (cwV n hts hg hw hrc.1 hrc.2 ⟨hyc, hy⟩ hR) ⟨zPc.blind, va_recv hK hPc hc he, fun U hU hW => ⟨rfl, by rw [hU], by rw [hU]; exact hPc, va_K.moved hW.alike hK, hDc.weaken (fun _ _ _ _ => trivial), zN.warm hW hN⟩⟩ rfl hn hl.1 rfl (lv_room hW) hd ⟨hcl.1, hcl.2⟩) hS (fun q _ h => hFc q h) hFc (fun r' u t H1 locs ht hvm hr hB hz1 hk1 hS => ?_)
  subst hr
  have hP1 : va_P G vwCl wc' H1 := by rw [← ht]; exact hB
  exact k ls H1 locs hl (zjoin hP hD isC hC hlen hk1 hP1) (zDadr hD hadr) hS
theorem v_callVv (h : zOk X l G ca cc own Ts nL rm) {y : MethodName} {wy ws' : List Cond} {rmy : Room} {bytes : ByteArray} {maxL n idx b : Nat} {ret : Option FieldType} {C : String} {As : List Value} {wc wc' : va_W}  (hd : decode cc pc = .ok (.invokevirtual idx, 3)) (hM : zMv l y wy rmy G ca (.ref b :: As) wc wc') (hg : GoodIn Ts (wsV own idx C y wy)) (hyc : y.cls = C) (hw : wy = Cond.code y bytes maxL ret :: ws') (hrc : rmy.cells = 0 ∧ rmy.slots = 0) (hy : zNoMH y n) (hR : rmy.frames + 1 ≤ rm.frames ∧ 8 + (maxL + 11) + rmy.locals ≤ rm.locals) (isC : List Nat) (hC : isC.map (fun i => ws[i]?) = wc.map some) (hnd : va_nd isC = true) (q0 : Nat) {fs : List Value} {T : u_T} {N ci : Nat} (he : wc[q0]? = some (b, .inr (ci, fs))) (hc : vwCl[ci]? = some (C, T, N)) (hn : As.length = n) {st : List Value} (hst : st = As.reverse ++ .ref b :: rest) (hW : (rest.map fun v => v.category).sum ≤ 8) (hcl : cells ≤ rm.cells ∧ slots ≤ rm.slots) (hlen : isC.length = wc'.length) (w' : va_W) (hw' : zput ws isC wc' = w') (hadr : w'.map Prod.fst = ws.map Prod.fst) (pc' : Nat) (hp : pc + 3 = pc') (k : V X G nL cells slots w' pc' lv (rest)) : V X G nL cells slots ws pc lv st := by
  subst hp
  subst hst
  subst hw'
  obtain ⟨p, l', e, R, s, m, args, below, meth, c, A, H0, Q⟩ := X
  obtain ⟨rfl, rfl, ⟨hx, hb, hml, hown, hts⟩, hK, hN, hA⟩ := h
  intro ls H locs hl hP hD hS
  have hPc := zsub hP hC
  have hDc := hD.sub isC hnd hC
  have hFc := va_free (wc := wc) hD hS hA isC hC
  refine va_callv (va_runV (As := As) (rest := rest) ⟨hx, hb, hml, hown, hts⟩ (hM H.size) (cwV n hts hg hw hrc.1 hrc.2 ⟨hyc, hy⟩ hR) ⟨zPc.blind, va_recv hK hPc hc he, fun U hU hW => ⟨rfl, by rw [hU], by rw [hU]; exact hPc, va_K.moved hW.alike hK, hDc.weaken (fun _ _ _ _ => trivial), zN.warm hW hN⟩⟩ rfl hn hl.1 rfl (lv_room hW) hd ⟨hcl.1, hcl.2⟩) hS (fun q _ h => hFc q h) hFc (fun u t H1 locs ht hvm hr hB hz1 hk1 hS => ?_)
  have hP1 : va_P G vwCl wc' H1 := by rw [← ht]; exact hB
  exact k ls H1 locs hl (zjoin hP hD isC hC hlen hk1 hP1) (zDadr hD hadr) hS
theorem v_callSi (h : zOk X l G ca cc own Ts nL rm) {y : MethodName} {wy ws' : List Cond} {rmy : Room} {bytes : ByteArray} {maxL n idx : Nat} {ret : Option FieldType} {As : List Value} {wc wc' : va_W} {r : Int32} (hd : decode cc pc = .ok (.invokestatic idx, 3)) (hM : zMi l y wy rmy G ca (As) wc r wc') (hg : GoodIn Ts (va_wsS own idx y wy)) (hw : wy = Cond.code y bytes maxL ret :: ws') (hrc : rmy.cells = 0 ∧ rmy.slots = 0) (hy : zNoMH y n) (hR : rmy.frames + 1 ≤ rm.frames ∧ 8 + (maxL + 11) + rmy.locals ≤ rm.locals) (isC : List Nat) (hC : isC.map (fun i => ws[i]?) = wc.map some) (hnd : va_nd isC = true) (hn : As.length = n) {st : List Value} (hst : st = As.reverse ++ rest) (hW : (rest.map fun v => v.category).sum ≤ 8) (hcl : cells ≤ rm.cells ∧ slots ≤ rm.slots) (hlen : isC.length = wc'.length) (w' : va_W) (hw' : zput ws isC wc' = w') (hadr : w'.map Prod.fst = ws.map Prod.fst) (pc' : Nat) (hp : pc + 3 = pc') (k : V X G nL cells slots w' pc' lv (.int r :: rest)) : V X G nL cells slots ws pc lv st := by
  subst hp
  subst hst
  subst hw'
  obtain ⟨p, l', e, R, s, m, args, below, meth, c, A, H0, Q⟩ := X
  obtain ⟨rfl, rfl, ⟨hx, hb, hml, hown, hts⟩, hK, hN, hA⟩ := h
  intro ls H locs hl hP hD hS
  have hPc := zsub hP hC
  have hDc := hD.sub isC hnd hC
  have hFc := va_free (wc := wc) hD hS hA isC hC
  refine va_calli (va_runS (As := As) (rest := rest) ⟨hx, hb, hml, hown, hts⟩ (hM H.size) (va_cwS n hts hg hw hrc.1 hrc.2 hy hR) ⟨zPc.blind, fun U hU hW => ⟨rfl, by rw [hU], by rw [hU]; exact hPc, va_K.moved hW.alike hK, hDc.weaken (fun _ _ _ _ => trivial), zN.warm hW hN⟩⟩ rfl hn hl.1 rfl (lv_room hW) hd ⟨hcl.1, hcl.2⟩) hS (fun q _ h => hFc q h) hFc (fun r' u t H1 locs ht hvm hr hB hz1 hk1 hS => ?_)
  subst hr
  have hP1 : va_P G vwCl wc' H1 := by rw [← ht]; exact hB
  exact k ls H1 locs hl (zjoin hP hD isC hC hlen hk1 hP1) (zDadr hD hadr) hS
theorem v_callSl (h : zOk X l G ca cc own Ts nL rm) {y : MethodName} {wy ws' : List Cond} {rmy : Room} {bytes : ByteArray} {maxL n idx : Nat} {ret : Option FieldType} {As : List Value} {wc wc' : va_W} {r : Int64} (hd : decode cc pc = .ok (.invokestatic idx, 3)) (hM : zMl l y wy rmy G ca (As) wc r wc') (hg : GoodIn Ts (va_wsS own idx y wy)) (hw : wy = Cond.code y bytes maxL ret :: ws') (hrc : rmy.cells = 0 ∧ rmy.slots = 0) (hy : zNoMH y n) (hR : rmy.frames + 1 ≤ rm.frames ∧ 8 + (maxL + 11) + rmy.locals ≤ rm.locals) (isC : List Nat) (hC : isC.map (fun i => ws[i]?) = wc.map some) (hnd : va_nd isC = true) (hn : As.length = n) {st : List Value} (hst : st = As.reverse ++ rest) (hW : (rest.map fun v => v.category).sum ≤ 8) (hcl : cells ≤ rm.cells ∧ slots ≤ rm.slots) (hlen : isC.length = wc'.length) (w' : va_W) (hw' : zput ws isC wc' = w') (hadr : w'.map Prod.fst = ws.map Prod.fst) (pc' : Nat) (hp : pc + 3 = pc') (k : V X G nL cells slots w' pc' lv (.long r :: rest)) : V X G nL cells slots ws pc lv st := by
  subst hp
  subst hst
  subst hw'
  obtain ⟨p, l', e, R, s, m, args, below, meth, c, A, H0, Q⟩ := X
  obtain ⟨rfl, rfl, ⟨hx, hb, hml, hown, hts⟩, hK, hN, hA⟩ := h
  intro ls H locs hl hP hD hS
  have hPc := zsub hP hC
  have hDc := hD.sub isC hnd hC
  have hFc := va_free (wc := wc) hD hS hA isC hC
  refine va_calll (va_runS (As := As) (rest := rest) ⟨hx, hb, hml, hown, hts⟩ (hM H.size) (va_cwS n hts hg hw hrc.1 hrc.2 hy hR) ⟨zPc.blind, fun U hU hW => ⟨rfl, by rw [hU], by rw [hU]; exact hPc, va_K.moved hW.alike hK, hDc.weaken (fun _ _ _ _ => trivial), zN.warm hW hN⟩⟩ rfl hn hl.1 rfl (lv_room hW) hd ⟨hcl.1, hcl.2⟩) hS (fun q _ h => hFc q h) hFc (fun r' u t H1 locs ht hvm hr hB hz1 hk1 hS => ?_)
  subst hr
  have hP1 : va_P G vwCl wc' H1 := by rw [← ht]; exact hB
  exact k ls H1 locs hl (zjoin hP hD isC hC hlen hk1 hP1) (zDadr hD hadr) hS
theorem v_callSv (h : zOk X l G ca cc own Ts nL rm) {y : MethodName} {wy ws' : List Cond} {rmy : Room} {bytes : ByteArray} {maxL n idx : Nat} {ret : Option FieldType} {As : List Value} {wc wc' : va_W}  (hd : decode cc pc = .ok (.invokestatic idx, 3)) (hM : zMv l y wy rmy G ca (As) wc wc') (hg : GoodIn Ts (va_wsS own idx y wy)) (hw : wy = Cond.code y bytes maxL ret :: ws') (hrc : rmy.cells = 0 ∧ rmy.slots = 0) (hy : zNoMH y n) (hR : rmy.frames + 1 ≤ rm.frames ∧ 8 + (maxL + 11) + rmy.locals ≤ rm.locals) (isC : List Nat) (hC : isC.map (fun i => ws[i]?) = wc.map some) (hnd : va_nd isC = true) (hn : As.length = n) {st : List Value} (hst : st = As.reverse ++ rest) (hW : (rest.map fun v => v.category).sum ≤ 8) (hcl : cells ≤ rm.cells ∧ slots ≤ rm.slots) (hlen : isC.length = wc'.length) (w' : va_W) (hw' : zput ws isC wc' = w') (hadr : w'.map Prod.fst = ws.map Prod.fst) (pc' : Nat) (hp : pc + 3 = pc') (k : V X G nL cells slots w' pc' lv (rest)) : V X G nL cells slots ws pc lv st := by
  subst hp
  subst hst
  subst hw'
  obtain ⟨p, l', e, R, s, m, args, below, meth, c, A, H0, Q⟩ := X
  obtain ⟨rfl, rfl, ⟨hx, hb, hml, hown, hts⟩, hK, hN, hA⟩ := h
  intro ls H locs hl hP hD hS
  have hPc := zsub hP hC
  have hDc := hD.sub isC hnd hC
  have hFc := va_free (wc := wc) hD hS hA isC hC
  refine va_callv (va_runS (As := As) (rest := rest) ⟨hx, hb, hml, hown, hts⟩ (hM H.size) (va_cwS n hts hg hw hrc.1 hrc.2 hy hR) ⟨zPc.blind, fun U hU hW => ⟨rfl, by rw [hU], by rw [hU]; exact hPc, va_K.moved hW.alike hK, hDc.weaken (fun _ _ _ _ => trivial), zN.warm hW hN⟩⟩ rfl hn hl.1 rfl (lv_room hW) hd ⟨hcl.1, hcl.2⟩) hS (fun q _ h => hFc q h) hFc (fun u t H1 locs ht hvm hr hB hz1 hk1 hS => ?_)
  have hP1 : va_P G vwCl wc' H1 := by rw [← ht]; exact hB
  exact k ls H1 locs hl (zjoin hP hD isC hC hlen hk1 hP1) (zDadr hD hadr) hS
theorem v_callNi (h : zOk X l G ca cc own Ts nL rm) {y : MethodName} {wy ws' : List Cond} {rmy : Room} {bytes : ByteArray} {maxL n idx : Nat} {ret : Option FieldType} {As : List Value} {wc wc' : va_W} {r : Int32} (hd : decode cc pc = .ok (.invokestatic idx, 3)) (hM : zMi l y wy rmy G ca (As) wc r wc') (hg : GoodIn Ts wy) {host : String} (hne : (own, idx, y, host) ∈ zNests) (hst2 : Cond.static y ∈ Ts) (hini : Cond.initialized y.cls ∈ Ts) (hw : wy = Cond.code y bytes maxL ret :: ws') (hrc : rmy.cells = 0 ∧ rmy.slots = 0) (hy : zNoMH y n) (hR : rmy.frames + 1 ≤ rm.frames ∧ 8 + (maxL + 11) + rmy.locals ≤ rm.locals) (isC : List Nat) (hC : isC.map (fun i => ws[i]?) = wc.map some) (hnd : va_nd isC = true) (hn : As.length = n) {st : List Value} (hst : st = As.reverse ++ rest) (hW : (rest.map fun v => v.category).sum ≤ 8) (hcl : cells ≤ rm.cells ∧ slots ≤ rm.slots) (hlen : isC.length = wc'.length) (w' : va_W) (hw' : zput ws isC wc' = w') (hadr : w'.map Prod.fst = ws.map Prod.fst) (pc' : Nat) (hp : pc + 3 = pc') (k : V X G nL cells slots w' pc' lv (.int r :: rest)) : V X G nL cells slots ws pc lv st := by
  subst hp
  subst hst
  subst hw'
  obtain ⟨p, l', e, R, s, m, args, below, meth, c, A, H0, Q⟩ := X
  obtain ⟨rfl, rfl, ⟨hx, hb, hml, hown, hts⟩, hK, hN, hA⟩ := h
  intro ls H locs hl hP hD hS
  have hPc := zsub hP hC
  have hDc := hD.sub isC hnd hC
  have hFc := va_free (wc := wc) hD hS hA isC hC
  refine va_calli (va_runSN (As := As) (rest := rest) ⟨hx, hb, hml, hown, hts⟩ (hM H.size) ⟨va_cnB n hts hg hw hrc.1 hrc.2 (hN.1 _ hne) (hts _ hini) hy hR, hts _ hst2, trivial⟩ ⟨zPc.blind, fun U hU hW => ⟨rfl, by rw [hU], by rw [hU]; exact hPc, va_K.moved hW.alike hK, hDc.weaken (fun _ _ _ _ => trivial), zN.warm hW hN⟩⟩ rfl hn hl.1 rfl (lv_room hW) hd ⟨hcl.1, hcl.2⟩) hS (fun q _ h => hFc q h) hFc (fun r' u t H1 locs ht hvm hr hB hz1 hk1 hS => ?_)
  subst hr
  have hP1 : va_P G vwCl wc' H1 := by rw [← ht]; exact hB
  exact k ls H1 locs hl (zjoin hP hD isC hC hlen hk1 hP1) (zDadr hD hadr) hS
end ZCA
