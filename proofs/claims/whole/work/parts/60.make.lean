/-! making: rows of V that make cells; constructors' contracts -/
def zIn (X : zX) : Prop := match X with
  | (_, _, _, _, _, _, _, _, meth, _) => meth.name = "<init>"
/-- a constructor's contract: from its bare cell it makes a world at addresses of its own -/
def zMc (l : Launch) (y : MethodName) (wy : List Cond) (rm : Room) (G : va_G) (ca : Nat → ClassId) (ci : Nat) (fs : List Value) (mc ms : Nat) (w1 : (Nat → Nat) → va_W) : Prop := ∀ (a sz : Nat), Met l y wy rm (zPc G ca [.ref a] [(a, .inr (ci, fs))] sz) (va_Qv (fun (ad : Nat → Nat) => ad 0 = a ∧ va_D (va_A [(a, .inr (ci, fs))] sz) (w1 ad)) (fun ad t => va_P G vwCl (w1 ad) t.heap) (va_A [(a, .inr (ci, fs))] sz)) mc ms (va_A [(a, .inr (ci, fs))] sz)
def zEc (X : zX) (G : va_G) (cc : ByteArray) (nL mc ms a : Nat) (w1 : (Nat → Nat) → va_W) : Prop := ∀ (pc : Nat) (lv : List (Nat × Value)) (ad : Nat → Nat), ad 0 = a → decode cc pc = .ok (.return_, 1) → V X G nL mc ms (w1 ad) pc lv []
theorem zMc.of {l : Launch} {y : MethodName} {wy ws' : List Cond} {rm : Room} {G : va_G} {ca : Nat → ClassId} {cc : ByteArray} {nL ci mc ms : Nat} {own : String} {fs : List Value} {w1 : (Nat → Nat) → va_W} (hy : plainName y.cls = true) (ho : y.cls = own) (hnm : y.name = "<init>") (hw : wy = Cond.code y cc nL none :: ws') (hlen : 1 ≤ nL)
    (body : ∀ (X : zX) (a : Nat), zOk X l G ca cc own wy nL rm → zIn X → zEc X G cc nL mc ms a w1 → V X G nL 0 0 [(a, .inr (ci, fs))] 0 [(0, .ref a)] []) : zMc l y wy rm G ca ci fs mc ms w1 := by
  intro a sz
  refine Met.ofW (cc := cc) (maxL := nL) (ret := none) hy hw ?_
  intro p e s m args below meth c s₁ B hml hv
  obtain ⟨rfl, hsz, hP, hK, hD0, hN⟩ := hv
  have hx := B.exec
  have hb := B.bytes
  have hr := B.returns
  have hts := atoms_spec (ws := wy) B.pre
  have hown : s.vm.findClass own = some m.cls := ho ▸ findClass_of_methodNamed B.named
  have hlocks := B.notSynchronized
  have hin : meth.name = "<init>" := ((name_of_methodNamed B.named B.method).1).trans hnm
  subst hsz
  have hD := hD0.self (sz := s.heap.size)
  have hl := lv_entry [.ref a] (n := nL) hlen
  rw [lg_entry_eq]
  refine body (p, l, e, rm, s, m, [Value.ref a].toArray, below, meth, c, va_A [(a, .inr (ci, fs))] s.heap.size, s.heap, MQ below (va_Qv (fun (ad : Nat → Nat) => ad 0 = a ∧ va_D (va_A [(a, .inr (ci, fs))] s.heap.size) (w1 ad)) (fun ad t => va_P G vwCl (w1 ad) t.heap) (va_A [(a, .inr (ci, fs))] s.heap.size)) [Value.ref a].toArray s mc ms (va_A [(a, .inr (ci, fs))] s.heap.size)) a ⟨rfl, rfl, ⟨hx, hb, hml, hown, hts⟩, hK, hN, fun q h => Or.inr h⟩ hin ?_ _ _ _ hl hP hD va_S.rf
  intro pc lv ad h0 hd ls H locs hl hP hD hS
  exact W.vret hx hb hr (fun t ht hW => ⟨⟨ad, rfl, ⟨h0, hD⟩, by show va_P G vwCl (w1 ad) t.heap; rw [ht]; exact hP⟩, hS.F ht⟩) hS.2.2 hd
/-- behind a call: what stood ahead of the callee's cells is as it was -/
theorem zjoinR {A0 : Nat → Prop} {G : va_G} {cl : List vw_C} {wr wc w1 : va_W} {H H1 : Heap} (hP : va_P G cl (wr ++ wc) H) (hD : va_D A0 (wr ++ wc)) (hk : ∀ q : Nat, q < H.size → ¬ va_A wc H.size q → H1[q]? = H[q]?) (hF : ∀ q, va_A wc H.size q → A0 q) (hP1 : va_P G cl w1 H1) (hD1 : va_D (va_A wc H.size) w1) : va_P G cl (wr ++ w1) H1 ∧ va_D A0 (wr ++ w1) := by
  have hr : ∀ (k : Nat) (q : Nat × va_E), wr[k]? = some q → (wr ++ wc)[k]? = some q := fun k q h => by
    rw [List.getElem?_append_left (List.getElem?_eq_some_iff.mp h).1]
    exact h
  have hc : ∀ (k : Nat) (q : Nat × va_E), wc[k]? = some q → (wr ++ wc)[wr.length + k]? = some q := fun k q h => by
    rw [List.getElem?_append_right (by omega), show wr.length + k - wr.length = k by omega]
    exact h
  have apart : ∀ (k : Nat) (q : Nat × va_E), wr[k]? = some q → q.1 < H.size ∧ ¬ va_A wc H.size q.1 := fun k q hq => by
    have h2 := hr k q hq
    have hlt := (hP k q h2).lt
    refine ⟨hlt, fun h => ?_⟩
    rcases h with ⟨k2, e, h⟩ | h
    · have hij := hD.1 k (wr.length + k2) q (q.1, e) h2 (hc k2 _ h) rfl
      have := (List.getElem?_eq_some_iff.mp hq).1
      omega
    · omega
  refine ⟨va_P.app (fun k q hq => (hP k q (hr k q hq)).kept (hk q.1 (apart k q hq).1 (apart k q hq).2)) hP1, va_D.app ⟨fun i j x y hx hy => hD.1 i j x y (hr i x hx) (hr j y hy), fun k q hq => hD.2 k q (hr k q hq)⟩ (hD1.weaken (fun k q _ h => hF q.1 h)) (fun i j x y hx hy hxy => ?_)⟩
  exact (apart i x hx).2 (by rw [hxy]; exact hD1.2 j y hy)
theorem zpartR {A0 : Nat → Prop} {G : va_G} {cl : List vw_C} {wr wc : va_W} {H : Heap} (hP : va_P G cl (wr ++ wc) H) (hD : va_D A0 (wr ++ wc)) : va_P G cl wc H ∧ va_D A0 wc := by
  have hc : ∀ (k : Nat) (q : Nat × va_E), wc[k]? = some q → (wr ++ wc)[wr.length + k]? = some q := fun k q h => by
    rw [List.getElem?_append_right (by omega), show wr.length + k - wr.length = k by omega]
    exact h
  refine ⟨fun k q hq => hP _ q (hc k q hq), fun i j x y hx hy e => ?_, fun k q hq => hD.2 _ q (hc k q hq)⟩
  have := hD.1 _ _ x y (hc i x hx) (hc j y hy) e
  omega
theorem zfreeR {A0 : Nat → Prop} {wr wc : va_W} {H0 H : Heap} {locs : List Loc} (hD : va_D A0 (wr ++ wc)) (hS : va_S A0 H0 H locs) (hA : ∀ q, H0.size ≤ q → A0 q) : ∀ q, va_A wc H.size q → A0 q := by
  intro q h
  rcases h with ⟨k, e, h⟩ | h
  · refine hD.2 (wr.length + k) (q, e) ?_
    rw [List.getElem?_append_right (by omega), show wr.length + k - wr.length = k by omega]
    exact h
  · exact hA q (Nat.le_trans hS.1 h)
theorem va_RA_nm {U : State} {c1 c2 : ClassId} {ty : FieldType} (h1 : va_RA U c1 ty) (h2 : va_RA U c2 ty) : c1 = c2 := by
  cases ty with
  | object C =>
    obtain ⟨_, _, _, _, _, e1⟩ := h1
    obtain ⟨_, _, _, _, _, e2⟩ := h2
    exact Option.some.inj (e1.symm.trans e2)
  | _ => exact Option.some.inj (h1.symm.trans h2)
section ZMK
variable {X : zX} {l : Launch} {G : va_G} {ca : Nat → ClassId} {cc : ByteArray} {own : String} {Ts : List Cond} {nL : Nat} {rm : Room} {cells slots : Nat} {ws wr : va_W} {pc : Nat} {lv : List (Nat × Value)} {rest : List Value}
theorem v_objInit (h : zOk X l G ca cc own Ts nL rm) {idx a : Nat} (hd : decode cc pc = .ok (.invokespecial idx, 3)) (h1 : Cond.methodLink own idx objectInit ∈ Ts) (h2 : Cond.instanceMethod objectInit ∈ Ts) (h3 : Cond.code objectInit ⟨#[0xb1]⟩ 1 none ∈ Ts) (hfr : 1 ≤ rm.frames) (hlo : 12 ≤ rm.locals) (pc' : Nat) (hp : pc + 3 = pc') (k : V X G nL cells slots ws pc' lv []) : V X G nL cells slots ws pc lv [.ref a] := by
  subst hp
  obtain ⟨p, l', e, R, s, m, args, below, meth, c, A, H0, Q⟩ := X
  obtain ⟨rfl, rfl, ⟨hx, hb, hml, hown, hts⟩, hK, hN, hA⟩ := h
  intro ls H locs hl hP hD hS
  exact W.objInit hx hb hown (hts _ h1) (hts _ h2) (hts _ h3) rfl (by rw [hml]; exact hl.1) rfl hd hfr hlo (k ls H locs hl hP hD hS)
theorem v_new (h : zOk X l G ca cc own Ts nL rm) {C : String} {T : u_T} {N ci idx : Nat} (fs : List Value) (hd : decode cc pc = .ok (.new idx, 3)) (hin : ∀ w ∈ u_ws C T N, w ∈ Ts) (ty : Nat → FieldType) (hty : ∀ k, k < N → parseFieldDescriptor (T k).2.2.1 = some (ty k)) (hcl : Cond.classLink own idx C ∈ Ts) (hinst : Cond.instantiable C N ∈ Ts) (hini : Cond.initialized C ∈ Ts) (hc : vwCl[ci]? = some (C, T, N)) (hfs : ∀ j, j < N → defaultValue (ty j) = vp_V fs j) (hcells : cells + 1 ≤ rm.cells) (hslots : slots + N ≤ rm.slots) (c' s' : Nat) (hc' : cells + 1 = c') (hs' : slots + N = s') (pc' : Nat) (hp : pc + 3 = pc') (k : ∀ q : Nat, V X G nL c' s' (ws ++ [(q, .inr (ci, fs))]) pc' lv (.ref q :: rest)) : V X G nL cells slots ws pc lv rest := by
  subst hp
  subst hc'
  subst hs'
  obtain ⟨p, l', e, R, s, m, args, below, meth, c, A, H0, Q⟩ := X
  obtain ⟨rfl, rfl, ⟨hx, hb, hml, hown, hts⟩, hK, hN, hA⟩ := h
  intro ls H locs hl hP hD hS
  exact va_new hx hb hts hin ty hty hown (hts _ hcl) (hts _ hinst) (hts _ hini) hK hP hD hS hA hc hfs hcells hslots hd (fun q H1 hP hD hS => k q ls H1 locs hl hP hD hS)
theorem v_newa (h : zOk X l G ca cc own Ts nL rm) {atype : ArrayType} {ty : FieldType} {n : Int32} {N' : Nat} (a0 : vp_A) (hd : decode cc pc = .ok (.newarray atype, 2)) (harr : Cond.arrayClass (newarray.typeOf atype) ∈ Ts) (hty : newarray.typeOf atype = ty) (t0 : Nat) (cA : ClassId) (ht : (zty ca)[t0]? = some (cA, ty)) (ha : ∀ cB : ClassId, vp_cell cB a0 = arrV cB N' (fun _ => defaultValue ty)) (hn : ¬ n < 0) (hN' : n.toNatClampNeg = N') (hbytes : N' * componentBytes ty ≤ 536870912) (hcells : cells + 1 ≤ rm.cells) (hslots : slots + N' ≤ rm.slots) (c' s' : Nat) (hc' : cells + 1 = c') (hs' : slots + N' = s') (pc' : Nat) (hp : pc + 2 = pc') (k : ∀ q : Nat, V X G nL c' s' (ws ++ [(q, .inl (cA, a0))]) pc' lv (.ref q :: rest)) : V X G nL cells slots ws pc lv (.int n :: rest) := by
  subst hp
  subst hc'
  subst hs'
  obtain ⟨p, l', e, R, s, m, args, below, meth, c, A, H0, Q⟩ := X
  obtain ⟨rfl, rfl, ⟨hx, hb, hml, hown, hts⟩, hK, hN, hA⟩ := h
  intro ls H locs hl hP hD hS
  refine va_newa hx hb (hts _ harr) hty hK hP hD hS hA ha hn hN' hbytes hcells hslots hd (fun q cB H1 hK2 hP hD hS => ?_)
  have h1 := (hK2.2 (zty ca).length (cB, ty) (by rw [List.getElem?_append_right (Nat.le_refl _), Nat.sub_self]; rfl)).2
  have h2 := (hK.2 t0 _ ht).2
  have e1 : cB = cA := va_RA_nm h1 h2
  subst e1
  exact k q ls H1 locs hl hP hD hS
theorem v_newq (h : zOk X l G ca cc own Ts nL rm) {C : String} {idx : Nat} {n : Int32} {N' : Nat} (hd : decode cc pc = .ok (.anewarray idx, 3)) (hcl : Cond.classLink own idx C ∈ Ts) (hover : ∀ U, zN U → va_AO C U) (t0 : Nat) (cA : ClassId) (ht : (zty ca)[t0]? = some (cA, .object C)) (hn : ¬ n < 0) (hN' : n.toNatClampNeg = N') (hbytes : N' * 4 ≤ 536870912) (hcells : cells + 1 ≤ rm.cells) (hslots : slots + N' ≤ rm.slots) (c' s' : Nat) (hc' : cells + 1 = c') (hs' : slots + N' = s') (pc' : Nat) (hp : pc + 3 = pc') (k : ∀ q : Nat, V X G nL c' s' (ws ++ [(q, .inl (cA, N', .inr (.inr (.inr (.inr (fun k => ([] : List Nat)[k]?))))))]) pc' lv (.ref q :: rest)) : V X G nL cells slots ws pc lv (.int n :: rest) := by
  subst hp
  subst hc'
  subst hs'
  obtain ⟨p, l', e, R, s, m, args, below, meth, c, A, H0, Q⟩ := X
  obtain ⟨rfl, rfl, ⟨hx, hb, hml, hown, hts⟩, hK, hN, hA⟩ := h
  intro ls H locs hl hP hD hS
  refine va_newq hx hb hown (hts _ hcl) (hover _ hN) hK hP hD hS hA hn hN' hbytes hcells hslots hd (fun q cB H1 hK2 hP hD hS => ?_)
  have h1 := (hK2.2 (zty ca).length (cB, .object C) (by rw [List.getElem?_append_right (Nat.le_refl _), Nat.sub_self]; rfl)).2
  have h2 := (hK.2 t0 _ ht).2
  have e1 : cB = cA := va_RA_nm h1 h2
  subst e1
  have e0 : (fun k : Nat => ([] : List Nat)[k]?) = fun _ => none := by
    funext k
    exact List.getElem?_nil
  rw [e0] at k
  exact k q ls H1 locs hl hP hD hS
theorem v_putF (h : zOk X l G ca cc own Ts nL rm) (hI : zIn X) {C : String} {T : u_T} {N ci i a : Nat} (hd : decode cc pc = .ok (.putfield i, 3)) (hin : ∀ w ∈ u_ws C T N, w ∈ Ts) (ty0 : Nat → FieldType) (hty : ∀ k, k < N → parseFieldDescriptor (T k).2.2.1 = some (ty0 k)) (hnm : ∀ a, a < N → ∀ b, b < N → a ≠ b → (T a).2.1 ≠ (T b).2.1) (q0 : Nat) {fs : List Value} (he : ws[q0]? = some (a, .inr (ci, fs))) (hc : vwCl[ci]? = some (C, T, N)) (j : Nat) (hj : j < N) (hlink : Cond.fieldLink own i (T j).1 (T j).2.1 (T j).2.2.1 ∈ Ts) (hfin : (T j).2.2.2 = true) (hdecl : (T j).1 = own) {v : Value} (hn : narrow (ty0 j) v = v) (hfit : fits (ty0 j) v = true) (hl9 : j < fs.length) (w' : va_W) (hw' : ws.set q0 (a, .inr (ci, fs.set j v)) = w') (pc' : Nat) (hp : pc + 3 = pc') (k : V X G nL cells slots w' pc' lv rest) : V X G nL cells slots ws pc lv (v :: .ref a :: rest) := by
  subst hp
  subst hw'
  obtain ⟨p, l', e, R, s, m, args, below, meth, c, A, H0, Q⟩ := X
  obtain ⟨rfl, rfl, ⟨hx, hb, hml, hown, hts⟩, hK, hN, hA⟩ := h
  intro ls H locs hl hP hD hS
  exact va_putF hx hb hts hin ty0 hty hnm hown hK hP hD hS q0 he hc j hj (hts _ hlink) (fun _ h9 => h9) hfin hI hdecl (hty j hj) hn hfit hl9 hd (fun H1 locs1 hP hD hS => k ls H1 locs1 hl hP hD hS)
theorem v_astq (h : zOk X l G ca cc own Ts nL rm) {a n v ci N : Nat} {f : Nat → Option Nat} {C : String} {T : u_T} {vs : List Value} {i : Int32} (hd : decode cc pc = .ok (.aastore, 1)) (q0 t0 qk : Nat) {cA : ClassId} (ha : ws[q0]? = some (a, .inl (cA, n, .inr (.inr (.inr (.inr f)))))) (ht : (zty ca)[t0]? = some (cA, .object C)) (hv : ws[qk]? = some (v, .inr (ci, vs))) (hc : vwCl[ci]? = some (C, T, N)) (hin : vp_in i n) (f' : Nat → Option Nat) (hf : va_up f i.toNatClampNeg (some v) = f') (w' : va_W) (hw' : ws.set q0 (a, .inl (cA, n, .inr (.inr (.inr (.inr f'))))) = w') (pc' : Nat) (hp : pc + 1 = pc') (k : V X G nL cells slots w' pc' lv rest) : V X G nL cells slots ws pc lv (.ref v :: .int i :: .ref a :: rest) := by
  subst hp
  subst hw'
  subst hf
  obtain ⟨p, l', e, R, s, m, args, below, meth, c, A, H0, Q⟩ := X
  obtain ⟨rfl, rfl, ⟨hx, hb, hml, hown, hts⟩, hK, hN, hA⟩ := h
  intro ls H locs hl hP hD hS
  exact va_astq (r := (C, T, N)) hx hb hK hP hD hS q0 t0 qk ci ha ht hv hc hin hd (fun H1 locs1 hP hD hS => k ls H1 locs1 hl hP hD hS)
theorem v_ctor (h : zOk X l G ca cc own Ts nL rm) {y : MethodName} {wy ws' : List Cond} {rmy : Room} {bytes : ByteArray} {maxL idx b ci mc ms : Nat} {fs : List Value} {w1 : (Nat → Nat) → va_W} (hd : decode cc pc = .ok (.invokespecial idx, 3)) (hM : zMc l y wy rmy G ca ci fs mc ms w1) (hg : GoodIn Ts wy) (hl1 : Cond.methodLink own idx y ∈ Ts) (hl2 : Cond.instanceMethod y ∈ Ts) (hini : Cond.initialized y.cls ∈ Ts) (hnm : y.name = "<init>") (hw : wy = Cond.code y bytes maxL none :: ws') (hrc : rmy.cells = mc ∧ rmy.slots = ms) (hy : zNoMH y 0) (hR : rmy.frames + 1 ≤ rm.frames ∧ 8 + (maxL + 11) + rmy.locals ≤ rm.locals) (hW : (rest.map fun v => v.category).sum ≤ 8) (hcl : cells + mc ≤ rm.cells ∧ slots + ms ≤ rm.slots) (c' s' : Nat) (hc' : cells + mc = c') (hs' : slots + ms = s') (pc' : Nat) (hp : pc + 3 = pc') (k : ∀ ad : Nat → Nat, ad 0 = b → V X G nL c' s' (wr ++ w1 ad) pc' lv rest) : V X G nL cells slots (wr ++ [(b, .inr (ci, fs))]) pc lv (.ref b :: rest) := by
  subst hp
  subst hc'
  subst hs'
  obtain ⟨p, l', e, R, s, m, args, below, meth, c, A, H0, Q⟩ := X
  obtain ⟨rfl, rfl, ⟨hx, hb, hml, hown, hts⟩, hK, hN, hA⟩ := h
  intro ls H locs hl hP hD hS
  obtain ⟨hPc, hDc⟩ := zpartR hP hD
  have hFc := zfreeR hD hS hA
  refine va_callv (va_runI (As := []) (rest := rest) ⟨hx, hb, hml, hown, hts⟩ (hM b H.size) (cwI 0 hts hg hw hrc.1 hrc.2 (hts _ hini) (hts _ hl1) (hts _ hl2) hnm hy hR) ⟨zPc.blind, fun U hU hW => ⟨rfl, by rw [hU], by rw [hU]; exact hPc, va_K.moved hW.alike hK, hDc.weaken (fun _ _ _ _ => trivial), zN.warm hW hN⟩⟩ rfl rfl hl.1 rfl (lv_room hW) hd ⟨hcl.1, hcl.2⟩) hS (fun q _ h => hFc q h) hFc (fun u t H1 locs ht hvm hr hB hz1 hk1 hS => ?_)
  have hP1 : va_P G vwCl (w1 u) H1 := by rw [← ht]; exact hB
  obtain ⟨hP2, hD2⟩ := zjoinR hP hD hk1 hFc hP1 hr.2
  exact k u hr.1 ls H1 locs hl hP2 hD2 hS
theorem v_ctorN (h : zOk X l G ca cc own Ts nL rm) {y : MethodName} {wy ws' : List Cond} {rmy : Room} {bytes : ByteArray} {maxL idx b ci mc ms : Nat} {fs : List Value} {w1 : (Nat → Nat) → va_W} (hd : decode cc pc = .ok (.invokespecial idx, 3)) (hM : zMc l y wy rmy G ca ci fs mc ms w1) (hg : GoodIn Ts wy) {host : String} (hne : (own, idx, y, host) ∈ zNests) (hl2 : Cond.instanceMethod y ∈ Ts) (hini : Cond.initialized y.cls ∈ Ts) (hnm : y.name = "<init>") (hw : wy = Cond.code y bytes maxL none :: ws') (hrc : rmy.cells = mc ∧ rmy.slots = ms) (hy : zNoMH y 0) (hR : rmy.frames + 1 ≤ rm.frames ∧ 8 + (maxL + 11) + rmy.locals ≤ rm.locals) (hW : (rest.map fun v => v.category).sum ≤ 8) (hcl : cells + mc ≤ rm.cells ∧ slots + ms ≤ rm.slots) (c' s' : Nat) (hc' : cells + mc = c') (hs' : slots + ms = s') (pc' : Nat) (hp : pc + 3 = pc') (k : ∀ ad : Nat → Nat, ad 0 = b → V X G nL c' s' (wr ++ w1 ad) pc' lv rest) : V X G nL cells slots (wr ++ [(b, .inr (ci, fs))]) pc lv (.ref b :: rest) := by
  subst hp
  subst hc'
  subst hs'
  obtain ⟨p, l', e, R, s, m, args, below, meth, c, A, H0, Q⟩ := X
  obtain ⟨rfl, rfl, ⟨hx, hb, hml, hown, hts⟩, hK, hN, hA⟩ := h
  intro ls H locs hl hP hD hS
  obtain ⟨hPc, hDc⟩ := zpartR hP hD
  have hFc := zfreeR hD hS hA
  refine va_callv (va_runIN (As := []) (rest := rest) ⟨hx, hb, hml, hown, hts⟩ (hM b H.size) ⟨va_cnB 0 hts hg hw hrc.1 hrc.2 (hN.1 _ hne) (hts _ hini) hy hR, hnm, hts _ hl2⟩ ⟨zPc.blind, fun U hU hW => ⟨rfl, by rw [hU], by rw [hU]; exact hPc, va_K.moved hW.alike hK, hDc.weaken (fun _ _ _ _ => trivial), zN.warm hW hN⟩⟩ rfl rfl hl.1 rfl (lv_room hW) hd ⟨hcl.1, hcl.2⟩) hS (fun q _ h => hFc q h) hFc (fun u t H1 locs ht hvm hr hB hz1 hk1 hS => ?_)
  have hP1 : va_P G vwCl (w1 u) H1 := by rw [← ht]; exact hB
  obtain ⟨hP2, hD2⟩ := zjoinR hP hD hk1 hFc hP1 hr.2
  exact k u hr.1 ls H1 locs hl hP2 hD2 hS
/-- the two halves of a world, the other way round -/
theorem v_swap {w1 w2 : va_W} {st : List Value} (k : V X G nL cells slots (w2 ++ w1) pc lv st) : V X G nL cells slots (w1 ++ w2) pc lv st := by
  obtain ⟨p, l', e, R, s, m, args, below, meth, c, A, H0, Q⟩ := X
  intro ls H locs hl hP hD hS
  obtain ⟨hP2, hD2⟩ := zpartR hP hD
  have hr : ∀ (k : Nat) (q : Nat × va_E), w1[k]? = some q → (w1 ++ w2)[k]? = some q := fun k q h => by
    rw [List.getElem?_append_left (List.getElem?_eq_some_iff.mp h).1]
    exact h
  have hc : ∀ (k : Nat) (q : Nat × va_E), w2[k]? = some q → (w1 ++ w2)[w1.length + k]? = some q := fun k q h => by
    rw [List.getElem?_append_right (by omega), show w1.length + k - w1.length = k by omega]
    exact h
  refine k ls H locs hl (va_P.app hP2 (fun k q hq => hP k q (hr k q hq))) (va_D.app hD2 ⟨fun i j x y hx hy => hD.1 i j x y (hr i x hx) (hr j y hy), fun k q hq => hD.2 k q (hr k q hq)⟩ (fun i j x y hx hy hxy => ?_)) hS
  have := hD.1 _ _ x y (hc i x hx) (hr j y hy) hxy
  have := (List.getElem?_eq_some_iff.mp hy).1
  omega
/-- a call on the right half -/
theorem v_rcall (h : zOk X l G ca cc own Ts nL rm) {y : MethodName} {wy ws' : List Cond} {rmy : Room} {bytes : ByteArray} {maxL n idx b : Nat} {ret : Option FieldType} {C : String} {As : List Value} {wc wc' : va_W} {r : Int32} (hd : decode cc pc = .ok (.invokevirtual idx, 3)) (hM : zMi l y wy rmy G ca (.ref b :: As) wc r wc') (hg : GoodIn Ts (wsV own idx C y wy)) (hyc : y.cls = C) (hw : wy = Cond.code y bytes maxL ret :: ws') (hrc : rmy.cells = 0 ∧ rmy.slots = 0) (hy : zNoMH y n) (hR : rmy.frames + 1 ≤ rm.frames ∧ 8 + (maxL + 11) + rmy.locals ≤ rm.locals) {fs : List Value} {T : u_T} {N ci : Nat} (he : wc[0]? = some (b, .inr (ci, fs))) (hc : vwCl[ci]? = some (C, T, N)) (hn : As.length = n) {st : List Value} (hst : st = As.reverse ++ .ref b :: rest) (hW : (rest.map fun v => v.category).sum ≤ 8) (hcl : cells ≤ rm.cells ∧ slots ≤ rm.slots) (hadr : wc'.map Prod.fst = wc.map Prod.fst) (pc' : Nat) (hp : pc + 3 = pc') (k : V X G nL cells slots (wr ++ wc') pc' lv (.int r :: rest)) : V X G nL cells slots (wr ++ wc) pc lv st := by
  subst hp
  subst hst
  obtain ⟨p, l', e, R, s, m, args, below, meth, c, A, H0, Q⟩ := X
  obtain ⟨rfl, rfl, ⟨hx, hb, hml, hown, hts⟩, hK, hN, hA⟩ := h
  intro ls H locs hl hP hD hS
  obtain ⟨hPc, hDc⟩ := zpartR hP hD
  have hFc := zfreeR hD hS hA
  refine va_calli (va_runV (As := As) (rest := rest) ⟨hx, hb, hml, hown, hts⟩ (hM H.size) (cwV n hts hg hw hrc.1 hrc.2 ⟨hyc, hy⟩ hR) ⟨zPc.blind, va_recv hK hPc hc he, fun U hU hW => ⟨rfl, by rw [hU], by rw [hU]; exact hPc, va_K.moved hW.alike hK, hDc.weaken (fun _ _ _ _ => trivial), zN.warm hW hN⟩⟩ rfl hn hl.1 rfl (lv_room hW) hd ⟨hcl.1, hcl.2⟩) hS (fun q _ h => hFc q h) hFc (fun r' u t H1 locs ht hvm hr hB hz1 hk1 hS => ?_)
  subst hr
  have hP1 : va_P G vwCl wc' H1 := by rw [← ht]; exact hB
  obtain ⟨hP2, hD2⟩ := zjoinR hP hD hk1 hFc hP1 (zDadr hDc.self hadr)
  exact k ls H1 locs hl hP2 hD2 hS
/-- the script -/
def zScr (X : zX) (b L : Nat) (xs : Nat → Int32) : Prop := match X with
  | (_, _, _, _, s, _, _, _, _, _, A, H0, _) => va_X b L xs s H0 ∧ b < H0.size ∧ ¬ A b
theorem v_sld (h : zOk X l G ca cc own Ts nL rm) {b L : Nat} {xs : Nat → Int32} (hX : zScr X b L xs) {i : Int32} (hin : vp_in i L) (hd : decode cc pc = .ok (.iaload, 1)) (pc' : Nat) (hp : pc + 1 = pc') (k : V X G nL cells slots ws pc' lv (.int (xs i.toNatClampNeg) :: rest)) : V X G nL cells slots ws pc lv (.int i :: .ref b :: rest) := by
  subst hp
  obtain ⟨p, l', e, R, s, m, args, below, meth, c, A, H0, Q⟩ := X
  obtain ⟨rfl, rfl, ⟨hx, hb, hml, hown, hts⟩, hK, hN, hA⟩ := h
  obtain ⟨hX, hbl, hbA⟩ := hX
  intro ls H locs hl hP hD hS
  exact va_sld hx hb hX hbl hbA hS hin hd (k ls H locs hl hP hD hS)
theorem v_slen (h : zOk X l G ca cc own Ts nL rm) {b L : Nat} {xs : Nat → Int32} (hX : zScr X b L xs) (hd : decode cc pc = .ok (.arraylength, 1)) (pc' : Nat) (hp : pc + 1 = pc') (k : V X G nL cells slots ws pc' lv (.int (Int32.ofNat L) :: rest)) : V X G nL cells slots ws pc lv (.ref b :: rest) := by
  subst hp
  obtain ⟨p, l', e, R, s, m, args, below, meth, c, A, H0, Q⟩ := X
  obtain ⟨rfl, rfl, ⟨hx, hb, hml, hown, hts⟩, hK, hN, hA⟩ := h
  obtain ⟨hX, hbl, hbA⟩ := hX
  intro ls H locs hl hP hD hS
  exact va_slen hx hb hX hbl hbA hS hd (k ls H locs hl hP hD hS)
end ZMK
theorem zup (us : List Nat) (v : Nat) {n : Nat} (hn : n = us.length) : va_up (fun k => us[k]?) n (some v) = fun k => (us ++ [v])[k]? := by
  subst hn
  funext k
  unfold va_up
  dsimp only
  by_cases h : k = us.length
  · subst h
    rw [if_pos rfl, List.getElem?_append_right (Nat.le_refl _), Nat.sub_self]
    rfl
  · rw [if_neg h]
    by_cases h2 : k < us.length
    · rw [List.getElem?_append_left h2]
    · rw [List.getElem?_append_right (by omega), List.getElem?_eq_none (by omega), List.getElem?_eq_none (by simp; omega)]
