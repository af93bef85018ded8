/-! the kit's rows as rows of V -/
section ZI
variable {X : zX} {l : Launch} {G : va_G} {ca : Nat → ClassId} {cc : ByteArray} {own : String} {Ts : List Cond} {nL : Nat} {rm : Room} {cells slots : Nat} {ws : va_W} {pc : Nat} {lv : List (Nat × Value)} {rest : List Value}
theorem v_iconst (h : zOk X l G ca cc own Ts nL rm) {n : Int} (hd : decode cc pc = .ok (.iconst n, 1)) (v : Int32) (hv : Int32.ofInt n = v) (pc' : Nat) (hp : pc + 1 = pc') (k : V X G nL cells slots ws pc' lv (.int v :: rest)) : V X G nL cells slots ws pc lv (rest) := by
  subst hp
  obtain ⟨p, l', e, R, s, m, args, below, meth, c, A, H0, Q⟩ := X
  obtain ⟨rfl, rfl, ⟨hx, hb, hml, hown, hts⟩, hK, hN, hA⟩ := h
  intro ls H locs hl hP hD hS
  exact lv_iconst hx hb hd hv (k ls H locs hl hP hD hS)
theorem v_bipush (h : zOk X l G ca cc own Ts nL rm) {n : Int} (hd : decode cc pc = .ok (.bipush n, 2)) (v : Int32) (hv : (Int8.ofInt n).toInt32 = v) (pc' : Nat) (hp : pc + 2 = pc') (k : V X G nL cells slots ws pc' lv (.int v :: rest)) : V X G nL cells slots ws pc lv (rest) := by
  subst hp
  obtain ⟨p, l', e, R, s, m, args, below, meth, c, A, H0, Q⟩ := X
  obtain ⟨rfl, rfl, ⟨hx, hb, hml, hown, hts⟩, hK, hN, hA⟩ := h
  intro ls H locs hl hP hD hS
  exact lv_bipush hx hb hd hv (k ls H locs hl hP hD hS)
theorem v_sipush (h : zOk X l G ca cc own Ts nL rm) {n : Int} (hd : decode cc pc = .ok (.sipush n, 3)) (v : Int32) (hv : (Int16.ofInt n).toInt32 = v) (pc' : Nat) (hp : pc + 3 = pc') (k : V X G nL cells slots ws pc' lv (.int v :: rest)) : V X G nL cells slots ws pc lv (rest) := by
  subst hp
  obtain ⟨p, l', e, R, s, m, args, below, meth, c, A, H0, Q⟩ := X
  obtain ⟨rfl, rfl, ⟨hx, hb, hml, hown, hts⟩, hK, hN, hA⟩ := h
  intro ls H locs hl hP hD hS
  exact lv_sipush hx hb hd hv (k ls H locs hl hP hD hS)
theorem v_lconst (h : zOk X l G ca cc own Ts nL rm) {n : Fin 2} (hd : decode cc pc = .ok (.lconst n, 1)) (v : Int64) (hv : Int64.ofNat (n : Nat) = v) (pc' : Nat) (hp : pc + 1 = pc') (k : V X G nL cells slots ws pc' lv (.long v :: rest)) : V X G nL cells slots ws pc lv (rest) := by
  subst hp
  obtain ⟨p, l', e, R, s, m, args, below, meth, c, A, H0, Q⟩ := X
  obtain ⟨rfl, rfl, ⟨hx, hb, hml, hown, hts⟩, hK, hN, hA⟩ := h
  intro ls H locs hl hP hD hS
  exact lv_lconst hx hb hd hv (k ls H locs hl hP hD hS)
theorem v_ldc (h : zOk X l G ca cc own Ts nL rm) {i : Nat} (hd : decode cc pc = .ok (.ldc i, 2)) (v : Int32) (hw : Cond.constant own i v ∈ Ts) (pc' : Nat) (hp : pc + 2 = pc') (k : V X G nL cells slots ws pc' lv (.int v :: rest)) : V X G nL cells slots ws pc lv (rest) := by
  subst hp
  obtain ⟨p, l', e, R, s, m, args, below, meth, c, A, H0, Q⟩ := X
  obtain ⟨rfl, rfl, ⟨hx, hb, hml, hown, hts⟩, hK, hN, hA⟩ := h
  intro ls H locs hl hP hD hS
  exact lv_ldc hx hb hown (hts _ hw) hd (k ls H locs hl hP hD hS)
theorem v_ldcw (h : zOk X l G ca cc own Ts nL rm) {i : Nat} (hd : decode cc pc = .ok (.ldc_w i, 3)) (v : Int32) (hw : Cond.constant own i v ∈ Ts) (pc' : Nat) (hp : pc + 3 = pc') (k : V X G nL cells slots ws pc' lv (.int v :: rest)) : V X G nL cells slots ws pc lv (rest) := by
  subst hp
  obtain ⟨p, l', e, R, s, m, args, below, meth, c, A, H0, Q⟩ := X
  obtain ⟨rfl, rfl, ⟨hx, hb, hml, hown, hts⟩, hK, hN, hA⟩ := h
  intro ls H locs hl hP hD hS
  exact lv_ldcw hx hb hown (hts _ hw) hd (k ls H locs hl hP hD hS)
theorem v_ldc2 (h : zOk X l G ca cc own Ts nL rm) {i : Nat} (hd : decode cc pc = .ok (.ldc2_w i, 3)) (v : Int64) (hw : Cond.constantLong own i v ∈ Ts) (pc' : Nat) (hp : pc + 3 = pc') (k : V X G nL cells slots ws pc' lv (.long v :: rest)) : V X G nL cells slots ws pc lv (rest) := by
  subst hp
  obtain ⟨p, l', e, R, s, m, args, below, meth, c, A, H0, Q⟩ := X
  obtain ⟨rfl, rfl, ⟨hx, hb, hml, hown, hts⟩, hK, hN, hA⟩ := h
  intro ls H locs hl hP hD hS
  exact lv_ldc2 hx hb hown (hts _ hw) hd (k ls H locs hl hP hD hS)
theorem v_iload_n (h : zOk X l G ca cc own Ts nL rm) {i : Fin 4} {x : Int32} (hd : decode cc pc = .ok (.iload_n i, 1)) (j : Nat) (hk : lv[j]? = some ((i : Nat), .int x)) (pc' : Nat) (hp : pc + 1 = pc') (k : V X G nL cells slots ws pc' lv (.int x :: rest)) : V X G nL cells slots ws pc lv (rest) := by
  subst hp
  obtain ⟨p, l', e, R, s, m, args, below, meth, c, A, H0, Q⟩ := X
  obtain ⟨rfl, rfl, ⟨hx, hb, hml, hown, hts⟩, hK, hN, hA⟩ := h
  intro ls H locs hl hP hD hS
  exact lv_iload_n hx hb hd rfl (lv_at hl j hk) (k ls H locs hl hP hD hS)
theorem v_iload (h : zOk X l G ca cc own Ts nL rm) {i : Nat} {x : Int32} (hd : decode cc pc = .ok (.iload i, 2)) (j : Nat) (hk : lv[j]? = some (i, .int x)) (pc' : Nat) (hp : pc + 2 = pc') (k : V X G nL cells slots ws pc' lv (.int x :: rest)) : V X G nL cells slots ws pc lv (rest) := by
  subst hp
  obtain ⟨p, l', e, R, s, m, args, below, meth, c, A, H0, Q⟩ := X
  obtain ⟨rfl, rfl, ⟨hx, hb, hml, hown, hts⟩, hK, hN, hA⟩ := h
  intro ls H locs hl hP hD hS
  exact lv_iload hx hb hd (lv_at hl j hk) (k ls H locs hl hP hD hS)
theorem v_lload_n (h : zOk X l G ca cc own Ts nL rm) {i : Fin 4} {x : Int64} (hd : decode cc pc = .ok (.lload_n i, 1)) (j : Nat) (hk : lv[j]? = some ((i : Nat), .long x)) (pc' : Nat) (hp : pc + 1 = pc') (k : V X G nL cells slots ws pc' lv (.long x :: rest)) : V X G nL cells slots ws pc lv (rest) := by
  subst hp
  obtain ⟨p, l', e, R, s, m, args, below, meth, c, A, H0, Q⟩ := X
  obtain ⟨rfl, rfl, ⟨hx, hb, hml, hown, hts⟩, hK, hN, hA⟩ := h
  intro ls H locs hl hP hD hS
  exact lv_lload_n hx hb hd rfl (lv_at hl j hk) (k ls H locs hl hP hD hS)
theorem v_lload (h : zOk X l G ca cc own Ts nL rm) {i : Nat} {x : Int64} (hd : decode cc pc = .ok (.lload i, 2)) (j : Nat) (hk : lv[j]? = some (i, .long x)) (pc' : Nat) (hp : pc + 2 = pc') (k : V X G nL cells slots ws pc' lv (.long x :: rest)) : V X G nL cells slots ws pc lv (rest) := by
  subst hp
  obtain ⟨p, l', e, R, s, m, args, below, meth, c, A, H0, Q⟩ := X
  obtain ⟨rfl, rfl, ⟨hx, hb, hml, hown, hts⟩, hK, hN, hA⟩ := h
  intro ls H locs hl hP hD hS
  exact lv_lload hx hb hd (lv_at hl j hk) (k ls H locs hl hP hD hS)
theorem v_aload_n (h : zOk X l G ca cc own Ts nL rm) {i : Fin 4} {x : Nat} (hd : decode cc pc = .ok (.aload_n i, 1)) (j : Nat) (hk : lv[j]? = some ((i : Nat), .ref x)) (pc' : Nat) (hp : pc + 1 = pc') (k : V X G nL cells slots ws pc' lv (.ref x :: rest)) : V X G nL cells slots ws pc lv (rest) := by
  subst hp
  obtain ⟨p, l', e, R, s, m, args, below, meth, c, A, H0, Q⟩ := X
  obtain ⟨rfl, rfl, ⟨hx, hb, hml, hown, hts⟩, hK, hN, hA⟩ := h
  intro ls H locs hl hP hD hS
  exact lv_aload_n hx hb hd rfl (lv_at hl j hk) (k ls H locs hl hP hD hS)
theorem v_aload (h : zOk X l G ca cc own Ts nL rm) {i : Nat} {x : Nat} (hd : decode cc pc = .ok (.aload i, 2)) (j : Nat) (hk : lv[j]? = some (i, .ref x)) (pc' : Nat) (hp : pc + 2 = pc') (k : V X G nL cells slots ws pc' lv (.ref x :: rest)) : V X G nL cells slots ws pc lv (rest) := by
  subst hp
  obtain ⟨p, l', e, R, s, m, args, below, meth, c, A, H0, Q⟩ := X
  obtain ⟨rfl, rfl, ⟨hx, hb, hml, hown, hts⟩, hK, hN, hA⟩ := h
  intro ls H locs hl hP hD hS
  exact lv_aload hx hb hd (lv_at hl j hk) (k ls H locs hl hP hD hS)
theorem v_istore_n (h : zOk X l G ca cc own Ts nL rm) {i : Fin 4} {x : Int32} (hd : decode cc pc = .ok (.istore_n i, 1)) (hn : (i : Nat) < nL) (ho : lv_ok lv (i : Nat) = true) (h1 : lv_one lv = true) (lv' : List (Nat × Value)) (hl' : lvu lv (i : Nat) (.int x) = lv') (pc' : Nat) (hp : pc + 1 = pc') (k : V X G nL cells slots ws pc' lv' (rest)) : V X G nL cells slots ws pc lv (.int x :: rest) := by
  subst hp
  obtain ⟨p, l', e, R, s, m, args, below, meth, c, A, H0, Q⟩ := X
  obtain ⟨rfl, rfl, ⟨hx, hb, hml, hown, hts⟩, hK, hN, hA⟩ := h
  intro ls H locs hl hP hD hS
  exact lv_istore_n hx hb hd rfl hl hn rfl (fun ls hl2 => k ls H locs (lvu_has ho h1 hl2 hl') hP hD hS)
theorem v_istore (h : zOk X l G ca cc own Ts nL rm) {i : Nat} {x : Int32} (hd : decode cc pc = .ok (.istore i, 2)) (hn : i < nL) (ho : lv_ok lv i = true) (h1 : lv_one lv = true) (lv' : List (Nat × Value)) (hl' : lvu lv i (.int x) = lv') (pc' : Nat) (hp : pc + 2 = pc') (k : V X G nL cells slots ws pc' lv' (rest)) : V X G nL cells slots ws pc lv (.int x :: rest) := by
  subst hp
  obtain ⟨p, l', e, R, s, m, args, below, meth, c, A, H0, Q⟩ := X
  obtain ⟨rfl, rfl, ⟨hx, hb, hml, hown, hts⟩, hK, hN, hA⟩ := h
  intro ls H locs hl hP hD hS
  exact lv_istore hx hb hd hl hn rfl (fun ls hl2 => k ls H locs (lvu_has ho h1 hl2 hl') hP hD hS)
theorem v_astore_n (h : zOk X l G ca cc own Ts nL rm) {i : Fin 4} {x : Nat} (hd : decode cc pc = .ok (.astore_n i, 1)) (hn : (i : Nat) < nL) (ho : lv_ok lv (i : Nat) = true) (h1 : lv_one lv = true) (lv' : List (Nat × Value)) (hl' : lvu lv (i : Nat) (.ref x) = lv') (pc' : Nat) (hp : pc + 1 = pc') (k : V X G nL cells slots ws pc' lv' (rest)) : V X G nL cells slots ws pc lv (.ref x :: rest) := by
  subst hp
  obtain ⟨p, l', e, R, s, m, args, below, meth, c, A, H0, Q⟩ := X
  obtain ⟨rfl, rfl, ⟨hx, hb, hml, hown, hts⟩, hK, hN, hA⟩ := h
  intro ls H locs hl hP hD hS
  exact lv_astore_n hx hb hd rfl hl hn rfl (fun ls hl2 => k ls H locs (lvu_has ho h1 hl2 hl') hP hD hS)
theorem v_astore (h : zOk X l G ca cc own Ts nL rm) {i : Nat} {x : Nat} (hd : decode cc pc = .ok (.astore i, 2)) (hn : i < nL) (ho : lv_ok lv i = true) (h1 : lv_one lv = true) (lv' : List (Nat × Value)) (hl' : lvu lv i (.ref x) = lv') (pc' : Nat) (hp : pc + 2 = pc') (k : V X G nL cells slots ws pc' lv' (rest)) : V X G nL cells slots ws pc lv (.ref x :: rest) := by
  subst hp
  obtain ⟨p, l', e, R, s, m, args, below, meth, c, A, H0, Q⟩ := X
  obtain ⟨rfl, rfl, ⟨hx, hb, hml, hown, hts⟩, hK, hN, hA⟩ := h
  intro ls H locs hl hP hD hS
  exact lv_astore hx hb hd hl hn rfl (fun ls hl2 => k ls H locs (lvu_has ho h1 hl2 hl') hP hD hS)
theorem v_iinc (h : zOk X l G ca cc own Ts nL rm) {i : Nat} {n : Int} {x : Int32} (hd : decode cc pc = .ok (.iinc i n, 3)) (j : Nat) (hk : lv[j]? = some (i, .int x)) (v : Int32) (hv : x + Int32.ofInt n = v) (hn : i < nL) (ho : lv_ok lv i = true) (h1 : lv_one lv = true) (lv' : List (Nat × Value)) (hl' : lvu lv i (.int v) = lv') (pc' : Nat) (hp : pc + 3 = pc') (k : V X G nL cells slots ws pc' lv' (rest)) : V X G nL cells slots ws pc lv (rest) := by
  subst hp
  obtain ⟨p, l', e, R, s, m, args, below, meth, c, A, H0, Q⟩ := X
  obtain ⟨rfl, rfl, ⟨hx, hb, hml, hown, hts⟩, hK, hN, hA⟩ := h
  intro ls H locs hl hP hD hS
  exact lv_iinc hx hb hd hl hk hv hn rfl (fun ls hl2 => k ls H locs (lvu_has ho h1 hl2 hl') hP hD hS)
theorem v_iadd (h : zOk X l G ca cc own Ts nL rm) {x y : Int32} (hd : decode cc pc = .ok (.iadd, 1))  (pc' : Nat) (hp : pc + 1 = pc') (k : V X G nL cells slots ws pc' lv (.int (x + y) :: rest)) : V X G nL cells slots ws pc lv (.int y :: .int x :: rest) := by
  subst hp
  obtain ⟨p, l', e, R, s, m, args, below, meth, c, A, H0, Q⟩ := X
  obtain ⟨rfl, rfl, ⟨hx, hb, hml, hown, hts⟩, hK, hN, hA⟩ := h
  intro ls H locs hl hP hD hS
  exact lv_iadd hx hb hd (k ls H locs hl hP hD hS)
theorem v_isub (h : zOk X l G ca cc own Ts nL rm) {x y : Int32} (hd : decode cc pc = .ok (.isub, 1))  (pc' : Nat) (hp : pc + 1 = pc') (k : V X G nL cells slots ws pc' lv (.int (x - y) :: rest)) : V X G nL cells slots ws pc lv (.int y :: .int x :: rest) := by
  subst hp
  obtain ⟨p, l', e, R, s, m, args, below, meth, c, A, H0, Q⟩ := X
  obtain ⟨rfl, rfl, ⟨hx, hb, hml, hown, hts⟩, hK, hN, hA⟩ := h
  intro ls H locs hl hP hD hS
  exact lv_isub hx hb hd (k ls H locs hl hP hD hS)
theorem v_imul (h : zOk X l G ca cc own Ts nL rm) {x y : Int32} (hd : decode cc pc = .ok (.imul, 1))  (pc' : Nat) (hp : pc + 1 = pc') (k : V X G nL cells slots ws pc' lv (.int (x * y) :: rest)) : V X G nL cells slots ws pc lv (.int y :: .int x :: rest) := by
  subst hp
  obtain ⟨p, l', e, R, s, m, args, below, meth, c, A, H0, Q⟩ := X
  obtain ⟨rfl, rfl, ⟨hx, hb, hml, hown, hts⟩, hK, hN, hA⟩ := h
  intro ls H locs hl hP hD hS
  exact lv_imul hx hb hd (k ls H locs hl hP hD hS)
theorem v_iand (h : zOk X l G ca cc own Ts nL rm) {x y : Int32} (hd : decode cc pc = .ok (.iand, 1))  (pc' : Nat) (hp : pc + 1 = pc') (k : V X G nL cells slots ws pc' lv (.int (x &&& y) :: rest)) : V X G nL cells slots ws pc lv (.int y :: .int x :: rest) := by
  subst hp
  obtain ⟨p, l', e, R, s, m, args, below, meth, c, A, H0, Q⟩ := X
  obtain ⟨rfl, rfl, ⟨hx, hb, hml, hown, hts⟩, hK, hN, hA⟩ := h
  intro ls H locs hl hP hD hS
  exact lv_iand hx hb hd (k ls H locs hl hP hD hS)
theorem v_ior (h : zOk X l G ca cc own Ts nL rm) {x y : Int32} (hd : decode cc pc = .ok (.ior, 1))  (pc' : Nat) (hp : pc + 1 = pc') (k : V X G nL cells slots ws pc' lv (.int (x ||| y) :: rest)) : V X G nL cells slots ws pc lv (.int y :: .int x :: rest) := by
  subst hp
  obtain ⟨p, l', e, R, s, m, args, below, meth, c, A, H0, Q⟩ := X
  obtain ⟨rfl, rfl, ⟨hx, hb, hml, hown, hts⟩, hK, hN, hA⟩ := h
  intro ls H locs hl hP hD hS
  exact lv_ior hx hb hd (k ls H locs hl hP hD hS)
theorem v_ixor (h : zOk X l G ca cc own Ts nL rm) {x y : Int32} (hd : decode cc pc = .ok (.ixor, 1))  (pc' : Nat) (hp : pc + 1 = pc') (k : V X G nL cells slots ws pc' lv (.int (x ^^^ y) :: rest)) : V X G nL cells slots ws pc lv (.int y :: .int x :: rest) := by
  subst hp
  obtain ⟨p, l', e, R, s, m, args, below, meth, c, A, H0, Q⟩ := X
  obtain ⟨rfl, rfl, ⟨hx, hb, hml, hown, hts⟩, hK, hN, hA⟩ := h
  intro ls H locs hl hP hD hS
  exact lv_ixor hx hb hd (k ls H locs hl hP hD hS)
theorem v_ishl (h : zOk X l G ca cc own Ts nL rm) {x y : Int32} (hd : decode cc pc = .ok (.ishl, 1))  (pc' : Nat) (hp : pc + 1 = pc') (k : V X G nL cells slots ws pc' lv (.int (x <<< (y &&& 31)) :: rest)) : V X G nL cells slots ws pc lv (.int y :: .int x :: rest) := by
  subst hp
  obtain ⟨p, l', e, R, s, m, args, below, meth, c, A, H0, Q⟩ := X
  obtain ⟨rfl, rfl, ⟨hx, hb, hml, hown, hts⟩, hK, hN, hA⟩ := h
  intro ls H locs hl hP hD hS
  exact lv_ishl hx hb hd (k ls H locs hl hP hD hS)
theorem v_ishr (h : zOk X l G ca cc own Ts nL rm) {x y : Int32} (hd : decode cc pc = .ok (.ishr, 1))  (pc' : Nat) (hp : pc + 1 = pc') (k : V X G nL cells slots ws pc' lv (.int (x >>> (y &&& 31)) :: rest)) : V X G nL cells slots ws pc lv (.int y :: .int x :: rest) := by
  subst hp
  obtain ⟨p, l', e, R, s, m, args, below, meth, c, A, H0, Q⟩ := X
  obtain ⟨rfl, rfl, ⟨hx, hb, hml, hown, hts⟩, hK, hN, hA⟩ := h
  intro ls H locs hl hP hD hS
  exact lv_ishr hx hb hd (k ls H locs hl hP hD hS)
theorem v_idiv (h : zOk X l G ca cc own Ts nL rm) {x y : Int32} (hd : decode cc pc = .ok (.idiv, 1)) (hne : ¬ y = 0) (pc' : Nat) (hp : pc + 1 = pc') (k : V X G nL cells slots ws pc' lv (.int (x / y) :: rest)) : V X G nL cells slots ws pc lv (.int y :: .int x :: rest) := by
  subst hp
  obtain ⟨p, l', e, R, s, m, args, below, meth, c, A, H0, Q⟩ := X
  obtain ⟨rfl, rfl, ⟨hx, hb, hml, hown, hts⟩, hK, hN, hA⟩ := h
  intro ls H locs hl hP hD hS
  exact lv_idiv hx hb hd hne (k ls H locs hl hP hD hS)
theorem v_irem (h : zOk X l G ca cc own Ts nL rm) {x y : Int32} (hd : decode cc pc = .ok (.irem, 1)) (hne : ¬ y = 0) (pc' : Nat) (hp : pc + 1 = pc') (k : V X G nL cells slots ws pc' lv (.int (x - x / y * y) :: rest)) : V X G nL cells slots ws pc lv (.int y :: .int x :: rest) := by
  subst hp
  obtain ⟨p, l', e, R, s, m, args, below, meth, c, A, H0, Q⟩ := X
  obtain ⟨rfl, rfl, ⟨hx, hb, hml, hown, hts⟩, hK, hN, hA⟩ := h
  intro ls H locs hl hP hD hS
  exact lv_irem hx hb hd hne (k ls H locs hl hP hD hS)
theorem v_ladd (h : zOk X l G ca cc own Ts nL rm) {x y : Int64} (hd : decode cc pc = .ok (.ladd, 1))  (pc' : Nat) (hp : pc + 1 = pc') (k : V X G nL cells slots ws pc' lv (.long (x + y) :: rest)) : V X G nL cells slots ws pc lv (.long y :: .long x :: rest) := by
  subst hp
  obtain ⟨p, l', e, R, s, m, args, below, meth, c, A, H0, Q⟩ := X
  obtain ⟨rfl, rfl, ⟨hx, hb, hml, hown, hts⟩, hK, hN, hA⟩ := h
  intro ls H locs hl hP hD hS
  exact lv_ladd hx hb hd (k ls H locs hl hP hD hS)
theorem v_lsub (h : zOk X l G ca cc own Ts nL rm) {x y : Int64} (hd : decode cc pc = .ok (.lsub, 1))  (pc' : Nat) (hp : pc + 1 = pc') (k : V X G nL cells slots ws pc' lv (.long (x - y) :: rest)) : V X G nL cells slots ws pc lv (.long y :: .long x :: rest) := by
  subst hp
  obtain ⟨p, l', e, R, s, m, args, below, meth, c, A, H0, Q⟩ := X
  obtain ⟨rfl, rfl, ⟨hx, hb, hml, hown, hts⟩, hK, hN, hA⟩ := h
  intro ls H locs hl hP hD hS
  exact lv_lsub hx hb hd (k ls H locs hl hP hD hS)
theorem v_lmul (h : zOk X l G ca cc own Ts nL rm) {x y : Int64} (hd : decode cc pc = .ok (.lmul, 1))  (pc' : Nat) (hp : pc + 1 = pc') (k : V X G nL cells slots ws pc' lv (.long (x * y) :: rest)) : V X G nL cells slots ws pc lv (.long y :: .long x :: rest) := by
  subst hp
  obtain ⟨p, l', e, R, s, m, args, below, meth, c, A, H0, Q⟩ := X
  obtain ⟨rfl, rfl, ⟨hx, hb, hml, hown, hts⟩, hK, hN, hA⟩ := h
  intro ls H locs hl hP hD hS
  exact lv_lmul hx hb hd (k ls H locs hl hP hD hS)
theorem v_land (h : zOk X l G ca cc own Ts nL rm) {x y : Int64} (hd : decode cc pc = .ok (.land, 1))  (pc' : Nat) (hp : pc + 1 = pc') (k : V X G nL cells slots ws pc' lv (.long (x &&& y) :: rest)) : V X G nL cells slots ws pc lv (.long y :: .long x :: rest) := by
  subst hp
  obtain ⟨p, l', e, R, s, m, args, below, meth, c, A, H0, Q⟩ := X
  obtain ⟨rfl, rfl, ⟨hx, hb, hml, hown, hts⟩, hK, hN, hA⟩ := h
  intro ls H locs hl hP hD hS
  exact lv_land hx hb hd (k ls H locs hl hP hD hS)
theorem v_lor (h : zOk X l G ca cc own Ts nL rm) {x y : Int64} (hd : decode cc pc = .ok (.lor, 1))  (pc' : Nat) (hp : pc + 1 = pc') (k : V X G nL cells slots ws pc' lv (.long (x ||| y) :: rest)) : V X G nL cells slots ws pc lv (.long y :: .long x :: rest) := by
  subst hp
  obtain ⟨p, l', e, R, s, m, args, below, meth, c, A, H0, Q⟩ := X
  obtain ⟨rfl, rfl, ⟨hx, hb, hml, hown, hts⟩, hK, hN, hA⟩ := h
  intro ls H locs hl hP hD hS
  exact lv_lor hx hb hd (k ls H locs hl hP hD hS)
theorem v_lrem (h : zOk X l G ca cc own Ts nL rm) {x y : Int64} (hd : decode cc pc = .ok (.lrem, 1)) (hne : ¬ y = 0) (pc' : Nat) (hp : pc + 1 = pc') (k : V X G nL cells slots ws pc' lv (.long (x - x / y * y) :: rest)) : V X G nL cells slots ws pc lv (.long y :: .long x :: rest) := by
  subst hp
  obtain ⟨p, l', e, R, s, m, args, below, meth, c, A, H0, Q⟩ := X
  obtain ⟨rfl, rfl, ⟨hx, hb, hml, hown, hts⟩, hK, hN, hA⟩ := h
  intro ls H locs hl hP hD hS
  exact lv_lrem hx hb hd hne (k ls H locs hl hP hD hS)
theorem v_iushr (h : zOk X l G ca cc own Ts nL rm) {x y : Int32} (hd : decode cc pc = .ok (.iushr, 1))  (pc' : Nat) (hp : pc + 1 = pc') (k : V X G nL cells slots ws pc' lv (.int ((x.toUInt32 >>> (y.toUInt32 &&& Int32.toUInt32 31)).toInt32) :: rest)) : V X G nL cells slots ws pc lv (.int y :: .int x :: rest) := by
  subst hp
  obtain ⟨p, l', e, R, s, m, args, below, meth, c, A, H0, Q⟩ := X
  obtain ⟨rfl, rfl, ⟨hx, hb, hml, hown, hts⟩, hK, hN, hA⟩ := h
  intro ls H locs hl hP hD hS
  exact lv_iushr hx hb hd rfl (k ls H locs hl hP hD hS)
theorem v_lshl (h : zOk X l G ca cc own Ts nL rm) {x : Int64} {y : Int32} (hd : decode cc pc = .ok (.lshl, 1))  (pc' : Nat) (hp : pc + 1 = pc') (k : V X G nL cells slots ws pc' lv (.long (x <<< (y.toInt64 &&& 63)) :: rest)) : V X G nL cells slots ws pc lv (.int y :: .long x :: rest) := by
  subst hp
  obtain ⟨p, l', e, R, s, m, args, below, meth, c, A, H0, Q⟩ := X
  obtain ⟨rfl, rfl, ⟨hx, hb, hml, hown, hts⟩, hK, hN, hA⟩ := h
  intro ls H locs hl hP hD hS
  exact lv_lshl hx hb hd rfl (k ls H locs hl hP hD hS)
theorem v_lcmp (h : zOk X l G ca cc own Ts nL rm) {x y : Int64} (hd : decode cc pc = .ok (.lcmp, 1))  (pc' : Nat) (hp : pc + 1 = pc') (k : V X G nL cells slots ws pc' lv (.int (lg_cmp x y) :: rest)) : V X G nL cells slots ws pc lv (.long y :: .long x :: rest) := by
  subst hp
  obtain ⟨p, l', e, R, s, m, args, below, meth, c, A, H0, Q⟩ := X
  obtain ⟨rfl, rfl, ⟨hx, hb, hml, hown, hts⟩, hK, hN, hA⟩ := h
  intro ls H locs hl hP hD hS
  exact W.lcmp hx hb hd (k ls H locs hl hP hD hS)
theorem v_i2l (h : zOk X l G ca cc own Ts nL rm) {x : Int32} (hd : decode cc pc = .ok (.i2l, 1))  (pc' : Nat) (hp : pc + 1 = pc') (k : V X G nL cells slots ws pc' lv (.long x.toInt64 :: rest)) : V X G nL cells slots ws pc lv (.int x :: rest) := by
  subst hp
  obtain ⟨p, l', e, R, s, m, args, below, meth, c, A, H0, Q⟩ := X
  obtain ⟨rfl, rfl, ⟨hx, hb, hml, hown, hts⟩, hK, hN, hA⟩ := h
  intro ls H locs hl hP hD hS
  exact lv_i2l hx hb hd rfl (k ls H locs hl hP hD hS)
theorem v_l2i (h : zOk X l G ca cc own Ts nL rm) {x : Int64} (hd : decode cc pc = .ok (.l2i, 1))  (pc' : Nat) (hp : pc + 1 = pc') (k : V X G nL cells slots ws pc' lv (.int x.toInt32 :: rest)) : V X G nL cells slots ws pc lv (.long x :: rest) := by
  subst hp
  obtain ⟨p, l', e, R, s, m, args, below, meth, c, A, H0, Q⟩ := X
  obtain ⟨rfl, rfl, ⟨hx, hb, hml, hown, hts⟩, hK, hN, hA⟩ := h
  intro ls H locs hl hP hD hS
  exact lv_l2i hx hb hd rfl (k ls H locs hl hP hD hS)
theorem v_i2b (h : zOk X l G ca cc own Ts nL rm) {x : Int32} (hd : decode cc pc = .ok (.i2b, 1))  (pc' : Nat) (hp : pc + 1 = pc') (k : V X G nL cells slots ws pc' lv (.int x.toInt8.toInt32 :: rest)) : V X G nL cells slots ws pc lv (.int x :: rest) := by
  subst hp
  obtain ⟨p, l', e, R, s, m, args, below, meth, c, A, H0, Q⟩ := X
  obtain ⟨rfl, rfl, ⟨hx, hb, hml, hown, hts⟩, hK, hN, hA⟩ := h
  intro ls H locs hl hP hD hS
  exact lv_i2b hx hb hd rfl (k ls H locs hl hP hD hS)
theorem v_i2s (h : zOk X l G ca cc own Ts nL rm) {x : Int32} (hd : decode cc pc = .ok (.i2s, 1))  (pc' : Nat) (hp : pc + 1 = pc') (k : V X G nL cells slots ws pc' lv (.int x.toInt16.toInt32 :: rest)) : V X G nL cells slots ws pc lv (.int x :: rest) := by
  subst hp
  obtain ⟨p, l', e, R, s, m, args, below, meth, c, A, H0, Q⟩ := X
  obtain ⟨rfl, rfl, ⟨hx, hb, hml, hown, hts⟩, hK, hN, hA⟩ := h
  intro ls H locs hl hP hD hS
  exact lv_i2s hx hb hd rfl (k ls H locs hl hP hD hS)
theorem v_i2c (h : zOk X l G ca cc own Ts nL rm) {x : Int32} (hd : decode cc pc = .ok (.i2c, 1))  (pc' : Nat) (hp : pc + 1 = pc') (k : V X G nL cells slots ws pc' lv (.int (x.toUInt32 % 65536).toInt32 :: rest)) : V X G nL cells slots ws pc lv (.int x :: rest) := by
  subst hp
  obtain ⟨p, l', e, R, s, m, args, below, meth, c, A, H0, Q⟩ := X
  obtain ⟨rfl, rfl, ⟨hx, hb, hml, hown, hts⟩, hK, hN, hA⟩ := h
  intro ls H locs hl hP hD hS
  exact lv_i2c hx hb hd rfl (k ls H locs hl hP hD hS)
theorem v_dup (h : zOk X l G ca cc own Ts nL rm) {a : Value} (hd : decode cc pc = .ok (.dup, 1)) (ha : a.category = 1) (pc' : Nat) (hp : pc + 1 = pc') (k : V X G nL cells slots ws pc' lv (a :: a :: rest)) : V X G nL cells slots ws pc lv (a :: rest) := by
  subst hp
  obtain ⟨p, l', e, R, s, m, args, below, meth, c, A, H0, Q⟩ := X
  obtain ⟨rfl, rfl, ⟨hx, hb, hml, hown, hts⟩, hK, hN, hA⟩ := h
  intro ls H locs hl hP hD hS
  exact lv_dup hx hb hd ha (k ls H locs hl hP hD hS)
theorem v_pop (h : zOk X l G ca cc own Ts nL rm) {a : Value} (hd : decode cc pc = .ok (.pop, 1)) (ha : a.category = 1) (pc' : Nat) (hp : pc + 1 = pc') (k : V X G nL cells slots ws pc' lv (rest)) : V X G nL cells slots ws pc lv (a :: rest) := by
  subst hp
  obtain ⟨p, l', e, R, s, m, args, below, meth, c, A, H0, Q⟩ := X
  obtain ⟨rfl, rfl, ⟨hx, hb, hml, hown, hts⟩, hK, hN, hA⟩ := h
  intro ls H locs hl hP hD hS
  exact lv_pop hx hb hd ha (k ls H locs hl hP hD hS)
theorem v_dup2 (h : zOk X l G ca cc own Ts nL rm) {a b : Value} (hd : decode cc pc = .ok (.dup2, 1)) (ha : a.category = 1) (hb2 : b.category = 1) (pc' : Nat) (hp : pc + 1 = pc') (k : V X G nL cells slots ws pc' lv (a :: b :: a :: b :: rest)) : V X G nL cells slots ws pc lv (a :: b :: rest) := by
  subst hp
  obtain ⟨p, l', e, R, s, m, args, below, meth, c, A, H0, Q⟩ := X
  obtain ⟨rfl, rfl, ⟨hx, hb, hml, hown, hts⟩, hK, hN, hA⟩ := h
  intro ls H locs hl hP hD hS
  exact lv_dup2_11 hx hb hd ha hb2 (k ls H locs hl hP hD hS)
theorem v_if_eq (h : zOk X l G ca cc own Ts nL rm) {x : Int32} {off : Int} (hd : decode cc pc = .ok (.ifCond .eq off, 3)) (tgt : Nat) (ht : (pc : Int) + off = (tgt : Int)) (pc' : Nat) (hp : pc + 3 = pc') (kt : x = 0 → V X G nL cells slots ws tgt lv (rest)) (kf : ¬ x = 0 → V X G nL cells slots ws pc' lv (rest)) : V X G nL cells slots ws pc lv (.int x :: rest) := by
  subst hp
  obtain ⟨p, l', e, R, s, m, args, below, meth, c, A, H0, Q⟩ := X
  obtain ⟨rfl, rfl, ⟨hx, hb, hml, hown, hts⟩, hK, hN, hA⟩ := h
  intro ls H locs hl hP hD hS
  exact lv_if_eq hx hb hd ht (fun q => kt q ls H locs hl hP hD hS) (fun q => kf q ls H locs hl hP hD hS)
theorem v_icmp_eq (h : zOk X l G ca cc own Ts nL rm) {x y : Int32} {off : Int} (hd : decode cc pc = .ok (.if_icmp .eq off, 3)) (tgt : Nat) (ht : (pc : Int) + off = (tgt : Int)) (pc' : Nat) (hp : pc + 3 = pc') (kt : x = y → V X G nL cells slots ws tgt lv (rest)) (kf : ¬ x = y → V X G nL cells slots ws pc' lv (rest)) : V X G nL cells slots ws pc lv (.int y :: .int x :: rest) := by
  subst hp
  obtain ⟨p, l', e, R, s, m, args, below, meth, c, A, H0, Q⟩ := X
  obtain ⟨rfl, rfl, ⟨hx, hb, hml, hown, hts⟩, hK, hN, hA⟩ := h
  intro ls H locs hl hP hD hS
  exact lv_icmp_eq hx hb hd ht (fun q => kt q ls H locs hl hP hD hS) (fun q => kf q ls H locs hl hP hD hS)
theorem v_if_ne (h : zOk X l G ca cc own Ts nL rm) {x : Int32} {off : Int} (hd : decode cc pc = .ok (.ifCond .ne off, 3)) (tgt : Nat) (ht : (pc : Int) + off = (tgt : Int)) (pc' : Nat) (hp : pc + 3 = pc') (kt : ¬ x = 0 → V X G nL cells slots ws tgt lv (rest)) (kf : x = 0 → V X G nL cells slots ws pc' lv (rest)) : V X G nL cells slots ws pc lv (.int x :: rest) := by
  subst hp
  obtain ⟨p, l', e, R, s, m, args, below, meth, c, A, H0, Q⟩ := X
  obtain ⟨rfl, rfl, ⟨hx, hb, hml, hown, hts⟩, hK, hN, hA⟩ := h
  intro ls H locs hl hP hD hS
  exact lv_if_ne hx hb hd ht (fun q => kt q ls H locs hl hP hD hS) (fun q => kf q ls H locs hl hP hD hS)
theorem v_icmp_ne (h : zOk X l G ca cc own Ts nL rm) {x y : Int32} {off : Int} (hd : decode cc pc = .ok (.if_icmp .ne off, 3)) (tgt : Nat) (ht : (pc : Int) + off = (tgt : Int)) (pc' : Nat) (hp : pc + 3 = pc') (kt : ¬ x = y → V X G nL cells slots ws tgt lv (rest)) (kf : x = y → V X G nL cells slots ws pc' lv (rest)) : V X G nL cells slots ws pc lv (.int y :: .int x :: rest) := by
  subst hp
  obtain ⟨p, l', e, R, s, m, args, below, meth, c, A, H0, Q⟩ := X
  obtain ⟨rfl, rfl, ⟨hx, hb, hml, hown, hts⟩, hK, hN, hA⟩ := h
  intro ls H locs hl hP hD hS
  exact lv_icmp_ne hx hb hd ht (fun q => kt q ls H locs hl hP hD hS) (fun q => kf q ls H locs hl hP hD hS)
theorem v_if_lt (h : zOk X l G ca cc own Ts nL rm) {x : Int32} {off : Int} (hd : decode cc pc = .ok (.ifCond .lt off, 3)) (tgt : Nat) (ht : (pc : Int) + off = (tgt : Int)) (pc' : Nat) (hp : pc + 3 = pc') (kt : x < 0 → V X G nL cells slots ws tgt lv (rest)) (kf : ¬ x < 0 → V X G nL cells slots ws pc' lv (rest)) : V X G nL cells slots ws pc lv (.int x :: rest) := by
  subst hp
  obtain ⟨p, l', e, R, s, m, args, below, meth, c, A, H0, Q⟩ := X
  obtain ⟨rfl, rfl, ⟨hx, hb, hml, hown, hts⟩, hK, hN, hA⟩ := h
  intro ls H locs hl hP hD hS
  exact lv_if_lt hx hb hd ht (fun q => kt q ls H locs hl hP hD hS) (fun q => kf q ls H locs hl hP hD hS)
theorem v_icmp_lt (h : zOk X l G ca cc own Ts nL rm) {x y : Int32} {off : Int} (hd : decode cc pc = .ok (.if_icmp .lt off, 3)) (tgt : Nat) (ht : (pc : Int) + off = (tgt : Int)) (pc' : Nat) (hp : pc + 3 = pc') (kt : x < y → V X G nL cells slots ws tgt lv (rest)) (kf : ¬ x < y → V X G nL cells slots ws pc' lv (rest)) : V X G nL cells slots ws pc lv (.int y :: .int x :: rest) := by
  subst hp
  obtain ⟨p, l', e, R, s, m, args, below, meth, c, A, H0, Q⟩ := X
  obtain ⟨rfl, rfl, ⟨hx, hb, hml, hown, hts⟩, hK, hN, hA⟩ := h
  intro ls H locs hl hP hD hS
  exact lv_icmp_lt hx hb hd ht (fun q => kt q ls H locs hl hP hD hS) (fun q => kf q ls H locs hl hP hD hS)
theorem v_if_ge (h : zOk X l G ca cc own Ts nL rm) {x : Int32} {off : Int} (hd : decode cc pc = .ok (.ifCond .ge off, 3)) (tgt : Nat) (ht : (pc : Int) + off = (tgt : Int)) (pc' : Nat) (hp : pc + 3 = pc') (kt : 0 ≤ x → V X G nL cells slots ws tgt lv (rest)) (kf : ¬ 0 ≤ x → V X G nL cells slots ws pc' lv (rest)) : V X G nL cells slots ws pc lv (.int x :: rest) := by
  subst hp
  obtain ⟨p, l', e, R, s, m, args, below, meth, c, A, H0, Q⟩ := X
  obtain ⟨rfl, rfl, ⟨hx, hb, hml, hown, hts⟩, hK, hN, hA⟩ := h
  intro ls H locs hl hP hD hS
  exact lv_if_ge hx hb hd ht (fun q => kt q ls H locs hl hP hD hS) (fun q => kf q ls H locs hl hP hD hS)
theorem v_icmp_ge (h : zOk X l G ca cc own Ts nL rm) {x y : Int32} {off : Int} (hd : decode cc pc = .ok (.if_icmp .ge off, 3)) (tgt : Nat) (ht : (pc : Int) + off = (tgt : Int)) (pc' : Nat) (hp : pc + 3 = pc') (kt : y ≤ x → V X G nL cells slots ws tgt lv (rest)) (kf : ¬ y ≤ x → V X G nL cells slots ws pc' lv (rest)) : V X G nL cells slots ws pc lv (.int y :: .int x :: rest) := by
  subst hp
  obtain ⟨p, l', e, R, s, m, args, below, meth, c, A, H0, Q⟩ := X
  obtain ⟨rfl, rfl, ⟨hx, hb, hml, hown, hts⟩, hK, hN, hA⟩ := h
  intro ls H locs hl hP hD hS
  exact lv_icmp_ge hx hb hd ht (fun q => kt q ls H locs hl hP hD hS) (fun q => kf q ls H locs hl hP hD hS)
theorem v_if_gt (h : zOk X l G ca cc own Ts nL rm) {x : Int32} {off : Int} (hd : decode cc pc = .ok (.ifCond .gt off, 3)) (tgt : Nat) (ht : (pc : Int) + off = (tgt : Int)) (pc' : Nat) (hp : pc + 3 = pc') (kt : 0 < x → V X G nL cells slots ws tgt lv (rest)) (kf : ¬ 0 < x → V X G nL cells slots ws pc' lv (rest)) : V X G nL cells slots ws pc lv (.int x :: rest) := by
  subst hp
  obtain ⟨p, l', e, R, s, m, args, below, meth, c, A, H0, Q⟩ := X
  obtain ⟨rfl, rfl, ⟨hx, hb, hml, hown, hts⟩, hK, hN, hA⟩ := h
  intro ls H locs hl hP hD hS
  exact lv_if_gt hx hb hd ht (fun q => kt q ls H locs hl hP hD hS) (fun q => kf q ls H locs hl hP hD hS)
theorem v_icmp_gt (h : zOk X l G ca cc own Ts nL rm) {x y : Int32} {off : Int} (hd : decode cc pc = .ok (.if_icmp .gt off, 3)) (tgt : Nat) (ht : (pc : Int) + off = (tgt : Int)) (pc' : Nat) (hp : pc + 3 = pc') (kt : y < x → V X G nL cells slots ws tgt lv (rest)) (kf : ¬ y < x → V X G nL cells slots ws pc' lv (rest)) : V X G nL cells slots ws pc lv (.int y :: .int x :: rest) := by
  subst hp
  obtain ⟨p, l', e, R, s, m, args, below, meth, c, A, H0, Q⟩ := X
  obtain ⟨rfl, rfl, ⟨hx, hb, hml, hown, hts⟩, hK, hN, hA⟩ := h
  intro ls H locs hl hP hD hS
  exact lv_icmp_gt hx hb hd ht (fun q => kt q ls H locs hl hP hD hS) (fun q => kf q ls H locs hl hP hD hS)
theorem v_if_le (h : zOk X l G ca cc own Ts nL rm) {x : Int32} {off : Int} (hd : decode cc pc = .ok (.ifCond .le off, 3)) (tgt : Nat) (ht : (pc : Int) + off = (tgt : Int)) (pc' : Nat) (hp : pc + 3 = pc') (kt : x ≤ 0 → V X G nL cells slots ws tgt lv (rest)) (kf : ¬ x ≤ 0 → V X G nL cells slots ws pc' lv (rest)) : V X G nL cells slots ws pc lv (.int x :: rest) := by
  subst hp
  obtain ⟨p, l', e, R, s, m, args, below, meth, c, A, H0, Q⟩ := X
  obtain ⟨rfl, rfl, ⟨hx, hb, hml, hown, hts⟩, hK, hN, hA⟩ := h
  intro ls H locs hl hP hD hS
  exact lv_if_le hx hb hd ht (fun q => kt q ls H locs hl hP hD hS) (fun q => kf q ls H locs hl hP hD hS)
theorem v_icmp_le (h : zOk X l G ca cc own Ts nL rm) {x y : Int32} {off : Int} (hd : decode cc pc = .ok (.if_icmp .le off, 3)) (tgt : Nat) (ht : (pc : Int) + off = (tgt : Int)) (pc' : Nat) (hp : pc + 3 = pc') (kt : x ≤ y → V X G nL cells slots ws tgt lv (rest)) (kf : ¬ x ≤ y → V X G nL cells slots ws pc' lv (rest)) : V X G nL cells slots ws pc lv (.int y :: .int x :: rest) := by
  subst hp
  obtain ⟨p, l', e, R, s, m, args, below, meth, c, A, H0, Q⟩ := X
  obtain ⟨rfl, rfl, ⟨hx, hb, hml, hown, hts⟩, hK, hN, hA⟩ := h
  intro ls H locs hl hP hD hS
  exact lv_icmp_le hx hb hd ht (fun q => kt q ls H locs hl hP hD hS) (fun q => kf q ls H locs hl hP hD hS)
theorem v_goto (h : zOk X l G ca cc own Ts nL rm) {off : Int} (hd : decode cc pc = .ok (.goto off, 3)) (tgt : Nat) (ht : (pc : Int) + off = (tgt : Int)) (k : V X G nL cells slots ws tgt lv (rest)) : V X G nL cells slots ws pc lv (rest) := by
  obtain ⟨p, l', e, R, s, m, args, below, meth, c, A, H0, Q⟩ := X
  obtain ⟨rfl, rfl, ⟨hx, hb, hml, hown, hts⟩, hK, hN, hA⟩ := h
  intro ls H locs hl hP hD hS
  exact lv_goto hx hb hd ht (k ls H locs hl hP hD hS)
theorem v_tsOut (h : zOk X l G ca cc own Ts nL rm) {dflt lo hi : Int} {offs : Array Int} {len : Nat} {x : Int32} (hd : decode cc pc = .ok (.tableswitch dflt lo hi offs, len)) (hq : x.toInt < lo ∨ hi < x.toInt) (tgt : Nat) (ht : (pc : Int) + dflt = (tgt : Int)) (k : V X G nL cells slots ws tgt lv (rest)) : V X G nL cells slots ws pc lv (.int x :: rest) := by
  obtain ⟨p, l', e, R, s, m, args, below, meth, c, A, H0, Q⟩ := X
  obtain ⟨rfl, rfl, ⟨hx, hb, hml, hown, hts⟩, hK, hN, hA⟩ := h
  intro ls H locs hl hP hD hS
  exact lv_tableOut hx hb hd hq ht (k ls H locs hl hP hD hS)
theorem v_tsIn (h : zOk X l G ca cc own Ts nL rm) {dflt lo hi : Int} {offs : Array Int} {len : Nat} {x y : Int32} {off : Int} (hd : decode cc pc = .ok (.tableswitch dflt lo hi offs, len)) (hxy : x = y) (h1 : ¬ y.toInt < lo) (h2 : ¬ hi < y.toInt) (ho : offs[(y.toInt - lo).toNat]? = some off) (tgt : Nat) (ht : (pc : Int) + off = (tgt : Int)) (k : V X G nL cells slots ws tgt lv (rest)) : V X G nL cells slots ws pc lv (.int x :: rest) := by
  subst hxy
  obtain ⟨p, l', e, R, s, m, args, below, meth, c, A, H0, Q⟩ := X
  obtain ⟨rfl, rfl, ⟨hx, hb, hml, hown, hts⟩, hK, hN, hA⟩ := h
  intro ls H locs hl hP hD hS
  exact lv_tableIn hx hb hd h1 h2 ho ht (k ls H locs hl hP hD hS)
theorem v_lsw (h : zOk X l G ca cc own Ts nL rm) {dflt : Int} {ps : Array (Int × Int)} {len : Nat} {x : Int32} {off : Int} (hd : decode cc pc = .ok (.lookupswitch dflt ps, len)) (hq : (ps.toList.zip (ps.toList.drop 1)).all (fun (a, next) => a.1 < next.1) = true) (ho : Op.lookupswitch.offset ps.toList dflt x.toInt = off) (tgt : Nat) (ht : (pc : Int) + off = (tgt : Int)) (k : V X G nL cells slots ws tgt lv (rest)) : V X G nL cells slots ws pc lv (.int x :: rest) := by
  obtain ⟨p, l', e, R, s, m, args, below, meth, c, A, H0, Q⟩ := X
  obtain ⟨rfl, rfl, ⟨hx, hb, hml, hown, hts⟩, hK, hN, hA⟩ := h
  intro ls H locs hl hP hD hS
  exact lv_lookup hx hb hd hq ho ht (k ls H locs hl hP hD hS)
theorem v_get (h : zOk X l G ca cc own Ts nL rm) {C : String} {T : u_T} {N ci i a : Nat} (hd : decode cc pc = .ok (.getfield i, 3)) (hin : ∀ w ∈ u_ws C T N, w ∈ Ts) (q0 : Nat) {fs : List Value} (he : ws[q0]? = some (a, .inr (ci, fs))) (hc : vwCl[ci]? = some (C, T, N)) (j : Nat) (hj : j < N) (hlink : Cond.fieldLink own i (T j).1 (T j).2.1 (T j).2.2.1 ∈ Ts) {v : Value} (hv : fs[j]? = some v) (pc' : Nat) (hp : pc + 3 = pc') (k : V X G nL cells slots ws pc' lv (v :: rest)) : V X G nL cells slots ws pc lv (.ref a :: rest) := by
  subst hp
  obtain ⟨p, l', e, R, s, m, args, below, meth, c, A, H0, Q⟩ := X
  obtain ⟨rfl, rfl, ⟨hx, hb, hml, hown, hts⟩, hK, hN, hA⟩ := h
  intro ls H locs hl hP hD hS
  exact va_get hx hb hts hin hown hK hP q0 he hc j hj (hts _ hlink) (fun _ h9 => h9) hv hd (k ls H locs hl hP hD hS)
theorem v_put (h : zOk X l G ca cc own Ts nL rm) {C : String} {T : u_T} {N ci i a : Nat} (hd : decode cc pc = .ok (.putfield i, 3)) (hin : ∀ w ∈ u_ws C T N, w ∈ Ts) (ty0 : Nat → FieldType) (hty : ∀ k, k < N → parseFieldDescriptor (T k).2.2.1 = some (ty0 k)) (hnm : ∀ a, a < N → ∀ b, b < N → a ≠ b → (T a).2.1 ≠ (T b).2.1) (q0 : Nat) {fs : List Value} (he : ws[q0]? = some (a, .inr (ci, fs))) (hc : vwCl[ci]? = some (C, T, N)) (j : Nat) (hj : j < N) (hlink : Cond.fieldLink own i (T j).1 (T j).2.1 (T j).2.2.1 ∈ Ts) (hfin : (T j).2.2.2 = false) {v : Value} (hn : narrow (ty0 j) v = v) (hfit : fits (ty0 j) v = true) (hl9 : j < fs.length) (w' : va_W) (hw' : ws.set q0 (a, .inr (ci, fs.set j v)) = w') (pc' : Nat) (hp : pc + 3 = pc') (k : V X G nL cells slots w' pc' lv (rest)) : V X G nL cells slots ws pc lv (v :: .ref a :: rest) := by
  subst hp
  subst hw'
  obtain ⟨p, l', e, R, s, m, args, below, meth, c, A, H0, Q⟩ := X
  obtain ⟨rfl, rfl, ⟨hx, hb, hml, hown, hts⟩, hK, hN, hA⟩ := h
  intro ls H locs hl hP hD hS
  exact va_put hx hb hts hin ty0 hty hnm hown hK hP hD hS q0 he hc j hj (hts _ hlink) (fun _ h9 => h9) hfin (hty j hj) hn hfit hl9 hd (fun H1 locs1 hP hD hS => k ls H1 locs1 hl hP hD hS)
theorem v_iald (h : zOk X l G ca cc own Ts nL rm) {a n : Nat} {f : Nat → Int32} {i : Int32} (hd : decode cc pc = .ok (.iaload, 1)) (q0 t0 : Nat) {cA : ClassId} (ha : ws[q0]? = some (a, .inl (cA, n, .inl f))) (ht : (zty ca)[t0]? = some (cA, .int)) (hin : vp_in i n) (pc' : Nat) (hp : pc + 1 = pc') (k : V X G nL cells slots ws pc' lv (.int (zgt f i) :: rest)) : V X G nL cells slots ws pc lv (.int i :: .ref a :: rest) := by
  subst hp
  obtain ⟨p, l', e, R, s, m, args, below, meth, c, A, H0, Q⟩ := X
  obtain ⟨rfl, rfl, ⟨hx, hb, hml, hown, hts⟩, hK, hN, hA⟩ := h
  intro ls H locs hl hP hD hS
  exact va_iald hx hb hK hP q0 t0 ha ht hin hd (k ls H locs hl hP hD hS)
theorem v_cald (h : zOk X l G ca cc own Ts nL rm) {a n : Nat} {f : Nat → Int32} {i : Int32} (hd : decode cc pc = .ok (.caload, 1)) (q0 t0 : Nat) {cA : ClassId} (ha : ws[q0]? = some (a, .inl (cA, n, .inl f))) (ht : (zty ca)[t0]? = some (cA, .char)) (hin : vp_in i n) (pc' : Nat) (hp : pc + 1 = pc') (k : V X G nL cells slots ws pc' lv (.int (zgt f i) :: rest)) : V X G nL cells slots ws pc lv (.int i :: .ref a :: rest) := by
  subst hp
  obtain ⟨p, l', e, R, s, m, args, below, meth, c, A, H0, Q⟩ := X
  obtain ⟨rfl, rfl, ⟨hx, hb, hml, hown, hts⟩, hK, hN, hA⟩ := h
  intro ls H locs hl hP hD hS
  exact va_cald hx hb hK hP q0 t0 ha ht hin hd (k ls H locs hl hP hD hS)
theorem v_lald (h : zOk X l G ca cc own Ts nL rm) {a n : Nat} {f : Nat → Int64} {i : Int32} (hd : decode cc pc = .ok (.laload, 1)) (q0 t0 : Nat) {cA : ClassId} (ha : ws[q0]? = some (a, .inl (cA, n, .inr (.inl f)))) (ht : (zty ca)[t0]? = some (cA, .long)) (hin : vp_in i n) (pc' : Nat) (hp : pc + 1 = pc') (k : V X G nL cells slots ws pc' lv (.long (zgt f i) :: rest)) : V X G nL cells slots ws pc lv (.int i :: .ref a :: rest) := by
  subst hp
  obtain ⟨p, l', e, R, s, m, args, below, meth, c, A, H0, Q⟩ := X
  obtain ⟨rfl, rfl, ⟨hx, hb, hml, hown, hts⟩, hK, hN, hA⟩ := h
  intro ls H locs hl hP hD hS
  exact va_lald hx hb hK hP q0 t0 ha ht hin hd (k ls H locs hl hP hD hS)
theorem v_iast (h : zOk X l G ca cc own Ts nL rm) {a n : Nat} {f : Nat → Int32} {i : Int32} {x : Int32} (hd : decode cc pc = .ok (.iastore, 1)) (q0 t0 : Nat) {cA : ClassId} (ha : ws[q0]? = some (a, .inl (cA, n, .inl (f)))) (ht : (zty ca)[t0]? = some (cA, .int)) (hin : vp_in i n) (w' : va_W) (hw' : ws.set q0 (a, .inl (cA, n, .inl (zpt f i x))) = w') (pc' : Nat) (hp : pc + 1 = pc') (k : V X G nL cells slots w' pc' lv (rest)) : V X G nL cells slots ws pc lv (.int x :: .int i :: .ref a :: rest) := by
  subst hp
  subst hw'
  obtain ⟨p, l', e, R, s, m, args, below, meth, c, A, H0, Q⟩ := X
  obtain ⟨rfl, rfl, ⟨hx, hb, hml, hown, hts⟩, hK, hN, hA⟩ := h
  intro ls H locs hl hP hD hS
  exact va_iast hx hb hK hP hD hS q0 t0 ha ht hin hd (fun H1 locs1 hP hD hS => k ls H1 locs1 hl hP hD hS)
theorem v_cast (h : zOk X l G ca cc own Ts nL rm) {a n : Nat} {f : Nat → Int32} {i : Int32} {x : Int32} (hd : decode cc pc = .ok (.castore, 1)) (q0 t0 : Nat) {cA : ClassId} (ha : ws[q0]? = some (a, .inl (cA, n, .inl (f)))) (ht : (zty ca)[t0]? = some (cA, .char)) (hin : vp_in i n) (w' : va_W) (hw' : ws.set q0 (a, .inl (cA, n, .inl (zptC f i x))) = w') (pc' : Nat) (hp : pc + 1 = pc') (k : V X G nL cells slots w' pc' lv (rest)) : V X G nL cells slots ws pc lv (.int x :: .int i :: .ref a :: rest) := by
  subst hp
  subst hw'
  obtain ⟨p, l', e, R, s, m, args, below, meth, c, A, H0, Q⟩ := X
  obtain ⟨rfl, rfl, ⟨hx, hb, hml, hown, hts⟩, hK, hN, hA⟩ := h
  intro ls H locs hl hP hD hS
  exact va_cast hx hb hK hP hD hS q0 t0 ha ht hin hd (fun H1 locs1 hP hD hS => k ls H1 locs1 hl hP hD hS)
theorem v_last (h : zOk X l G ca cc own Ts nL rm) {a n : Nat} {f : Nat → Int64} {i : Int32} {x : Int64} (hd : decode cc pc = .ok (.lastore, 1)) (q0 t0 : Nat) {cA : ClassId} (ha : ws[q0]? = some (a, .inl (cA, n, .inr (.inl (f))))) (ht : (zty ca)[t0]? = some (cA, .long)) (hin : vp_in i n) (w' : va_W) (hw' : ws.set q0 (a, .inl (cA, n, .inr (.inl (zptL f i x)))) = w') (pc' : Nat) (hp : pc + 1 = pc') (k : V X G nL cells slots w' pc' lv (rest)) : V X G nL cells slots ws pc lv (.long x :: .int i :: .ref a :: rest) := by
  subst hp
  subst hw'
  obtain ⟨p, l', e, R, s, m, args, below, meth, c, A, H0, Q⟩ := X
  obtain ⟨rfl, rfl, ⟨hx, hb, hml, hown, hts⟩, hK, hN, hA⟩ := h
  intro ls H locs hl hP hD hS
  exact va_last hx hb hK hP hD hS q0 t0 ha ht hin hd (fun H1 locs1 hP hD hS => k ls H1 locs1 hl hP hD hS)
theorem v_aald (h : zOk X l G ca cc own Ts nL rm) {a n b : Nat} {f : Nat → Option Nat} {C : String} {i : Int32} (hd : decode cc pc = .ok (.aaload, 1)) (q0 t0 : Nat) {cA : ClassId} (ha : ws[q0]? = some (a, .inl (cA, n, .inr (.inr (.inr (.inr f)))))) (ht : (zty ca)[t0]? = some (cA, .object C)) (hin : vp_in i n) (hb2 : f i.toNatClampNeg = some b) (pc' : Nat) (hp : pc + 1 = pc') (k : V X G nL cells slots ws pc' lv (.ref b :: rest)) : V X G nL cells slots ws pc lv (.int i :: .ref a :: rest) := by
  subst hp
  obtain ⟨p, l', e, R, s, m, args, below, meth, c, A, H0, Q⟩ := X
  obtain ⟨rfl, rfl, ⟨hx, hb, hml, hown, hts⟩, hK, hN, hA⟩ := h
  intro ls H locs hl hP hD hS
  refine va_aldq hx hb hK hP q0 t0 ha ht hin hd ?_
  rw [hb2]
  exact k ls H locs hl hP hD hS
theorem v_mmax (h : zOk X l G ca cc own Ts nL rm) {x y : Int32} {i : Nat} (hd : decode cc pc = .ok (.invokestatic i, 3)) (hl1 : Cond.methodLink own i Lib.Math.max.name ∈ Ts) (hl2 : Cond.static Lib.Math.max.name ∈ Ts) (hl3 : Cond.initialized "java/lang/Math" ∈ Ts) (hl4 : Cond.code Lib.Math.max.name Lib.Math.max.code 2 (some .int) ∈ Ts) (hfr : 1 ≤ rm.frames) (hlo : (rest.map fun v => v.category).sum + 13 ≤ rm.locals) (hcl : cells ≤ rm.cells) (hsl : slots ≤ rm.slots) (pc' : Nat) (hp : pc + 3 = pc') (k : V X G nL cells slots ws pc' lv (.int (if x < y then y else x) :: rest)) : V X G nL cells slots ws pc lv (.int y :: .int x :: rest) := by
  subst hp
  obtain ⟨p, l', e, R, s, m, args, below, meth, c, A, H0, Q⟩ := X
  obtain ⟨rfl, rfl, ⟨hx, hb, hml, hown, hts⟩, hK, hN, hA⟩ := h
  intro ls H locs hl hP hD hS
  exact va_mmax hx hb (hml.trans hl.1.symm) hown (hts _ hl1) (hts _ hl2) (hts _ hl3) (hts _ hl4) hfr hlo hcl hsl hd (k ls H locs hl hP hD hS)
theorem v_mmin (h : zOk X l G ca cc own Ts nL rm) {x y : Int32} {i : Nat} (hd : decode cc pc = .ok (.invokestatic i, 3)) (hl1 : Cond.methodLink own i Lib.Math.min.name ∈ Ts) (hl2 : Cond.static Lib.Math.min.name ∈ Ts) (hl3 : Cond.initialized "java/lang/Math" ∈ Ts) (hl4 : Cond.code Lib.Math.min.name Lib.Math.min.code 2 (some .int) ∈ Ts) (hfr : 1 ≤ rm.frames) (hlo : (rest.map fun v => v.category).sum + 13 ≤ rm.locals) (hcl : cells ≤ rm.cells) (hsl : slots ≤ rm.slots) (pc' : Nat) (hp : pc + 3 = pc') (k : V X G nL cells slots ws pc' lv (.int (if y < x then y else x) :: rest)) : V X G nL cells slots ws pc lv (.int y :: .int x :: rest) := by
  subst hp
  obtain ⟨p, l', e, R, s, m, args, below, meth, c, A, H0, Q⟩ := X
  obtain ⟨rfl, rfl, ⟨hx, hb, hml, hown, hts⟩, hK, hN, hA⟩ := h
  intro ls H locs hl hP hD hS
  exact va_mmin hx hb (hml.trans hl.1.symm) hown (hts _ hl1) (hts _ hl2) (hts _ hl3) (hts _ hl4) hfr hlo hcl hsl hd (k ls H locs hl hP hD hS)
theorem v_copyi (h : zOk X l G ca cc own Ts nL rm) {a0 a n0 n1 : Nat} {f g : Nat → Int32} {sp dp n : Int32} {i : Nat} (hd : decode cc pc = .ok (.invokestatic i, 3)) (hl1 : Cond.methodLink own i arraycopyName ∈ Ts) (hl2 : Cond.native arraycopyName ∈ Ts) (hl3 : Cond.static arraycopyName ∈ Ts) (hl4 : Cond.initialized "java/lang/System" ∈ Ts) (q0 q1 t0 : Nat) {cA : ClassId} (ha0 : ws[q0]? = some (a0, .inl (cA, n0, .inl (f)))) (ha1 : ws[q1]? = some (a, .inl (cA, n1, .inl (g)))) (ht : (zty ca)[t0]? = some (cA, .int)) (hok : zcok sp dp n n0 n1 = true) (hfr : 1 ≤ rm.frames) (hlo : (rest.map fun v => v.category).sum + (nativeFrameWords "java/lang/System" "arraycopy" 5 + 11) ≤ rm.locals) (w' : va_W) (hw' : ws.set q1 (a, .inl (cA, n1, .inl (zcpy f g sp dp n))) = w') (pc' : Nat) (hp : pc + 3 = pc') (k : V X G nL cells slots w' pc' lv (rest)) : V X G nL cells slots ws pc lv (.int n :: .int dp :: .ref a :: .int sp :: .ref a0 :: rest) := by
  subst hp
  subst hw'
  obtain ⟨p, l', e, R, s, m, args, below, meth, c, A, H0, Q⟩ := X
  obtain ⟨rfl, rfl, ⟨hx, hb, hml, hown, hts⟩, hK, hN, hA⟩ := h
  intro ls H locs hl hP hD hS
  obtain ⟨g1, g2, g3, g4, g5⟩ := zcok_ok hok
  exact va_copyi hx hb (hml.trans hl.1.symm) hown (hts _ hl1) (hts _ hl2) (hts _ hl3) (hts _ hl4) hK hP hD hS q0 q1 t0 t0 ha0 ha1 ht ht rfl g1 g2 g3 g4 g5 (fun _ _ => rfl) hfr hlo hd (fun H1 locs1 hP hD hS => k ls H1 locs1 hl hP hD hS)
theorem v_copyl (h : zOk X l G ca cc own Ts nL rm) {a0 a n0 n1 : Nat} {f g : Nat → Int64} {sp dp n : Int32} {i : Nat} (hd : decode cc pc = .ok (.invokestatic i, 3)) (hl1 : Cond.methodLink own i arraycopyName ∈ Ts) (hl2 : Cond.native arraycopyName ∈ Ts) (hl3 : Cond.static arraycopyName ∈ Ts) (hl4 : Cond.initialized "java/lang/System" ∈ Ts) (q0 q1 t0 : Nat) {cA : ClassId} (ha0 : ws[q0]? = some (a0, .inl (cA, n0, .inr (.inl (f))))) (ha1 : ws[q1]? = some (a, .inl (cA, n1, .inr (.inl (g))))) (ht : (zty ca)[t0]? = some (cA, .long)) (hok : zcok sp dp n n0 n1 = true) (hfr : 1 ≤ rm.frames) (hlo : (rest.map fun v => v.category).sum + (nativeFrameWords "java/lang/System" "arraycopy" 5 + 11) ≤ rm.locals) (w' : va_W) (hw' : ws.set q1 (a, .inl (cA, n1, .inr (.inl (zcpy f g sp dp n)))) = w') (pc' : Nat) (hp : pc + 3 = pc') (k : V X G nL cells slots w' pc' lv (rest)) : V X G nL cells slots ws pc lv (.int n :: .int dp :: .ref a :: .int sp :: .ref a0 :: rest) := by
  subst hp
  subst hw'
  obtain ⟨p, l', e, R, s, m, args, below, meth, c, A, H0, Q⟩ := X
  obtain ⟨rfl, rfl, ⟨hx, hb, hml, hown, hts⟩, hK, hN, hA⟩ := h
  intro ls H locs hl hP hD hS
  obtain ⟨g1, g2, g3, g4, g5⟩ := zcok_ok hok
  exact va_copyl hx hb (hml.trans hl.1.symm) hown (hts _ hl1) (hts _ hl2) (hts _ hl3) (hts _ hl4) hK hP hD hS q0 q1 t0 t0 ha0 ha1 ht ht rfl g1 g2 g3 g4 g5 (fun _ _ => rfl) hfr hlo hd (fun H1 locs1 hP hD hS => k ls H1 locs1 hl hP hD hS)
end ZI
