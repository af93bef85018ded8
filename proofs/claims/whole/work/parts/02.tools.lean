/-! The walk as a judgement of its own: V speaks of a world, a place, locals and a stack; heap and slots are hidden. -/
abbrev zAI : Type := Nat → Int32
abbrev zAL : Type := Nat → Int64
abbrev zX : Type := Program × Launch × Env × Room × State × MethodId × Array Value × List Frame × Method × Code × (Nat → Prop) × Heap × (State → Prop)
def zty (ca : Nat → ClassId) : List (ClassId × FieldType) := [(ca 0, .int), (ca 1, .long), (ca 2, .char), (ca 3, .object "ThatchCoats$Coats"), (ca 4, .object "ThatchCoats$Sheet")]
/-- links to private members of nest mates -/
def zNests : List (String × Nat × MethodName × String) := [("ThatchCoats$House", 17, yX5_init, "ThatchCoats"), ("ThatchCoats$House", 24, yX0_init, "ThatchCoats"), ("ThatchCoats", 21, yX0_init, "ThatchCoats"), ("ThatchCoats", 28, yX2_init, "ThatchCoats"), ("ThatchCoats", 35, yX4_init, "ThatchCoats"), ("ThatchCoats", 50, yX3_init, "ThatchCoats"), ("ThatchCoats$Tape", 17, yX5_init, "ThatchCoats"), ("ThatchCoats$Tape", 24, yX0_init, "ThatchCoats"), ("ThatchCoats$Tape", 80, yX6_outside, "ThatchCoats")]
def zN (U : State) : Prop := (∀ q ∈ zNests, va_Nw (.methodLinkNest q.1 q.2.1 q.2.2.1 q.2.2.2) U) ∧ va_AO "ThatchCoats$Coats" U ∧ va_AO "ThatchCoats$Sheet" U
theorem zN.warm {s U : State} (hW : s.WarmedH U.vm) (h : zN s) : zN U := ⟨fun q hq => va_Nw.warmM hW (h.1 q hq), va_AO.moved hW.alike h.2.1, va_AO.moved hW.alike h.2.2⟩
theorem zN.same {u U : State} (e : u.vm = U.vm) (h : zN u) : zN U := ⟨fun q hq => va_Nw.same rfl e (h.1 q hq), va_AO.moved (by rw [← e]; exact Vm.Alike.refl _) h.2.1, va_AO.moved (by rw [← e]; exact Vm.Alike.refl _) h.2.2⟩
def zOk (X : zX) (l : Launch) (G : va_G) (ca : Nat → ClassId) (cc : ByteArray) (own : String) (Ts : List Cond) (nL : Nat) (rm : Room) : Prop :=
  match X with
  | (p, l', _, R, s, m, args, _, _, c, A, H0, _) => l' = l ∧ R = rm ∧ CallFix p m c cc nL s args Ts own ∧ va_K G vwCl (zty ca) s ∧ zN s ∧ (∀ q, H0.size ≤ q → A q)
def V (X : zX) (G : va_G) (nL cells slots : Nat) (ws : va_W) (pc : Nat) (lv : List (Nat × Value)) (st : List Value) : Prop :=
  match X with
  | (p, l, e, R, s, m, args, below, meth, c, A, H0, Q) => ∀ (ls : Array Slot) (H : Heap) (locs : List Loc), lv_has ls nL lv → va_P G vwCl ws H → va_D A ws → va_S A H0 H locs → W p l e R s m args below meth c H locs cells slots Q (F0 m pc ls st)
/-- an int method's end -/
def zEi (X : zX) (G : va_G) (cc : ByteArray) (nL : Nat) (ty : FieldType) (r : Int32) (w1 : va_W) : Prop := ∀ (pc : Nat) (lv : List (Nat × Value)), narrow ty (.int r) = .int r → decode cc pc = .ok (.ireturn, 1) → V X G nL 0 0 w1 pc lv [.int r]
def zEl (X : zX) (G : va_G) (cc : ByteArray) (nL : Nat) (r : Int64) (w1 : va_W) : Prop := ∀ (pc : Nat) (lv : List (Nat × Value)), decode cc pc = .ok (.lreturn, 1) → V X G nL 0 0 w1 pc lv [.long r]
def zEv (X : zX) (G : va_G) (cc : ByteArray) (nL : Nat) (w1 : va_W) : Prop := ∀ (pc : Nat) (lv : List (Nat × Value)), decode cc pc = .ok (.return_, 1) → V X G nL 0 0 w1 pc lv []
def zPc (G : va_G) (ca : Nat → ClassId) (As : List Value) (w0 : va_W) (sz : Nat) : Array Value → State → Prop := va_Pc As (fun U => U.heap.size = sz ∧ va_P G vwCl w0 U.heap ∧ va_K G vwCl (zty ca) U ∧ va_D (fun _ => True) w0 ∧ zN U)
def zMi (l : Launch) (y : MethodName) (wy : List Cond) (rm : Room) (G : va_G) (ca : Nat → ClassId) (As : List Value) (w0 : va_W) (r : Int32) (w1 : va_W) : Prop := ∀ sz : Nat, Met l y wy rm (zPc G ca As w0 sz) (va_Qi (fun (r' : Int32) (_ : Unit) => r' = r) (fun _ t => va_P G vwCl w1 t.heap) (va_A w0 sz)) 0 0 (va_A w0 sz)
def zMl (l : Launch) (y : MethodName) (wy : List Cond) (rm : Room) (G : va_G) (ca : Nat → ClassId) (As : List Value) (w0 : va_W) (r : Int64) (w1 : va_W) : Prop := ∀ sz : Nat, Met l y wy rm (zPc G ca As w0 sz) (va_Ql (fun (r' : Int64) (_ : Unit) => r' = r) (fun _ t => va_P G vwCl w1 t.heap) (va_A w0 sz)) 0 0 (va_A w0 sz)
def zMv (l : Launch) (y : MethodName) (wy : List Cond) (rm : Room) (G : va_G) (ca : Nat → ClassId) (As : List Value) (w0 : va_W) (w1 : va_W) : Prop := ∀ sz : Nat, Met l y wy rm (zPc G ca As w0 sz) (va_Qv (fun (_ : Unit) => True) (fun _ t => va_P G vwCl w1 t.heap) (va_A w0 sz)) 0 0 (va_A w0 sz)
theorem zPc.blind {G : va_G} {ca : Nat → ClassId} {As : List Value} {w0 : va_W} {sz : Nat} : FrameBlind (zPc G ca As w0 sz) := fun a U g mk q => by
  obtain ⟨q0, q1, qP, qK, qD, qN⟩ := q
  exact ⟨q0, q1, qP, va_K.moved (u := U) (U := U.calling g mk a) (Vm.Alike.refl U.vm) qK, qD, zN.same (u := U) (U := U.calling g mk a) rfl qN⟩
section ZENT
variable {l : Launch} {y : MethodName} {wy ws' : List Cond} {rm : Room} {G : va_G} {ca : Nat → ClassId} {As : List Value} {w0 w1 : va_W} {cc : ByteArray} {nL : Nat} {own : String}
theorem zMi.of {r : Int32} {ty : FieldType} (hy : plainName y.cls = true) (ho : y.cls = own) (hw : wy = Cond.code y cc nL (some ty) :: ws') (hlen : (lg_sl As).length ≤ nL)
    (body : ∀ X : zX, zOk X l G ca cc own wy nL rm → zEi X G cc nL ty r w1 → V X G nL 0 0 w0 0 (lv_args 0 As) []) : zMi l y wy rm G ca As w0 r w1 := by
  intro sz
  refine Met.ofW (cc := cc) (maxL := nL) (ret := some ty) hy hw ?_
  intro p e s m args below meth c s₁ B hml hv
  obtain ⟨rfl, hsz, hP, hK, hD0, hN⟩ := hv
  have hx := B.exec
  have hb := B.bytes
  have hr := B.returns
  have hts := atoms_spec (ws := wy) B.pre
  have hown : s.vm.findClass own = some m.cls := ho ▸ findClass_of_methodNamed B.named
  have hlocks := B.notSynchronized
  subst hsz
  have hD := hD0.self (sz := s.heap.size)
  have hl := lv_entry As (n := nL) hlen
  rw [lg_entry_eq]
  refine body (p, l, e, rm, s, m, As.toArray, below, meth, c, va_A w0 s.heap.size, s.heap, MQ below (va_Qi (fun (r' : Int32) (_ : Unit) => r' = r) (fun _ t => va_P G vwCl w1 t.heap) (va_A w0 s.heap.size)) As.toArray s 0 0 (va_A w0 s.heap.size)) ⟨rfl, rfl, ⟨hx, hb, hml, hown, hts⟩, hK, hN, fun q h => Or.inr h⟩ ?_ _ _ _ hl hP hD va_S.rf
  intro pc lv hn hd ls H locs hl hP hD hS
  exact W.zret (v := r) hx hb hr hn (fun t ht hW => ⟨⟨r, (), rfl, rfl, by show va_P G vwCl w1 t.heap; rw [ht]; exact hP⟩, hS.F ht⟩) hS.2.2 hd
theorem zMl.of {r : Int64} (hy : plainName y.cls = true) (ho : y.cls = own) (hw : wy = Cond.code y cc nL (some .long) :: ws') (hlen : (lg_sl As).length ≤ nL)
    (body : ∀ X : zX, zOk X l G ca cc own wy nL rm → zEl X G cc nL r w1 → V X G nL 0 0 w0 0 (lv_args 0 As) []) : zMl l y wy rm G ca As w0 r w1 := by
  intro sz
  refine Met.ofW (cc := cc) (maxL := nL) (ret := some .long) hy hw ?_
  intro p e s m args below meth c s₁ B hml hv
  obtain ⟨rfl, hsz, hP, hK, hD0, hN⟩ := hv
  have hx := B.exec
  have hb := B.bytes
  have hr := B.returns
  have hts := atoms_spec (ws := wy) B.pre
  have hown : s.vm.findClass own = some m.cls := ho ▸ findClass_of_methodNamed B.named
  have hlocks := B.notSynchronized
  subst hsz
  have hD := hD0.self (sz := s.heap.size)
  have hl := lv_entry As (n := nL) hlen
  rw [lg_entry_eq]
  refine body (p, l, e, rm, s, m, As.toArray, below, meth, c, va_A w0 s.heap.size, s.heap, MQ below (va_Ql (fun (r' : Int64) (_ : Unit) => r' = r) (fun _ t => va_P G vwCl w1 t.heap) (va_A w0 s.heap.size)) As.toArray s 0 0 (va_A w0 s.heap.size)) ⟨rfl, rfl, ⟨hx, hb, hml, hown, hts⟩, hK, hN, fun q h => Or.inr h⟩ ?_ _ _ _ hl hP hD va_S.rf
  intro pc lv hd ls H locs hl hP hD hS
  exact W.lret (v := r) hx hb hr (fun t ht hW => ⟨⟨r, (), rfl, rfl, by show va_P G vwCl w1 t.heap; rw [ht]; exact hP⟩, hS.F ht⟩) hS.2.2 hd
theorem zMv.of (hy : plainName y.cls = true) (ho : y.cls = own) (hw : wy = Cond.code y cc nL none :: ws') (hlen : (lg_sl As).length ≤ nL)
    (body : ∀ X : zX, zOk X l G ca cc own wy nL rm → zEv X G cc nL w1 → V X G nL 0 0 w0 0 (lv_args 0 As) []) : zMv l y wy rm G ca As w0 w1 := by
  intro sz
  refine Met.ofW (cc := cc) (maxL := nL) (ret := none) hy hw ?_
  intro p e s m args below meth c s₁ B hml hv
  obtain ⟨rfl, hsz, hP, hK, hD0, hN⟩ := hv
  have hx := B.exec
  have hb := B.bytes
  have hr := B.returns
  have hts := atoms_spec (ws := wy) B.pre
  have hown : s.vm.findClass own = some m.cls := ho ▸ findClass_of_methodNamed B.named
  have hlocks := B.notSynchronized
  subst hsz
  have hD := hD0.self (sz := s.heap.size)
  have hl := lv_entry As (n := nL) hlen
  rw [lg_entry_eq]
  refine body (p, l, e, rm, s, m, As.toArray, below, meth, c, va_A w0 s.heap.size, s.heap, MQ below (va_Qv (fun (_ : Unit) => True) (fun _ t => va_P G vwCl w1 t.heap) (va_A w0 s.heap.size)) As.toArray s 0 0 (va_A w0 s.heap.size)) ⟨rfl, rfl, ⟨hx, hb, hml, hown, hts⟩, hK, hN, fun q h => Or.inr h⟩ ?_ _ _ _ hl hP hD va_S.rf
  intro pc lv hd ls H locs hl hP hD hS
  exact W.vret hx hb hr (fun t ht hW => ⟨⟨(), rfl, trivial, by show va_P G vwCl w1 t.heap; rw [ht]; exact hP⟩, hS.F ht⟩) hS.2.2 hd
end ZENT
/-! pure words of the walks -/
def zgt {α : Type} (f : Nat → α) (i : Int32) : α := f i.toNatClampNeg
def zpt (f : zAI) (i x : Int32) : zAI := upd f i.toNatClampNeg x
def zptL (f : zAL) (i : Int32) (x : Int64) : zAL := vp_updL f i.toNatClampNeg x
def zptC (f : zAI) (i x : Int32) : zAI := upd f i.toNatClampNeg (vp_nar .char x)
def zcpy {α : Type} (f g : Nat → α) (sp dp n : Int32) : Nat → α := va_cpy f g sp.toNatClampNeg dp.toNatClampNeg n.toNatClampNeg
def zix (i : Int32) (n : Nat) : Bool := !(decide (i < 0) || decide (n ≤ i.toNatClampNeg))
def znz (x : Int32) : Bool := !decide (x = 0)
def znzL (x : Int64) : Bool := !decide (x = 0)
def zcok (sp dp n : Int32) (n0 n1 : Nat) : Bool := !decide (sp < 0) && !decide (dp < 0) && !decide (n < 0) && decide (sp.toNatClampNeg + n.toNatClampNeg ≤ n0) && decide (dp.toNatClampNeg + n.toNatClampNeg ≤ n1)
def zbl (x : Int32) : Bool := decide (x = 0) || decide (x = 1)
def zgrd {α : Type} (b : Bool) (k : Option α) : Option α := if b = true then k else none
theorem zix_in {i : Int32} {n : Nat} (h : zix i n = true) : vp_in i n := by
  unfold zix at h
  unfold vp_in
  simpa using h
theorem znz_ne {x : Int32} (h : znz x = true) : ¬ x = 0 := by
  unfold znz at h
  simpa using h
theorem znzL_ne {x : Int64} (h : znzL x = true) : ¬ x = 0 := by
  unfold znzL at h
  simpa using h
theorem zcok_ok {sp dp n : Int32} {n0 n1 : Nat} (h : zcok sp dp n n0 n1 = true) : ¬ sp < 0 ∧ ¬ dp < 0 ∧ ¬ n < 0 ∧ sp.toNatClampNeg + n.toNatClampNeg ≤ n0 ∧ dp.toNatClampNeg + n.toNatClampNeg ≤ n1 := by
  unfold zcok at h
  simp only [Bool.and_eq_true, Bool.not_eq_true', decide_eq_false_iff_not, decide_eq_true_eq] at h
  exact ⟨h.1.1.1.1, h.1.1.1.2, h.1.1.2, h.1.2, h.2⟩
theorem zbl_nar {x : Int32} (h : zbl x = true) : narrow .boolean (.int x) = .int x := by
  unfold zbl at h
  rcases (by simpa using h : x = 0 ∨ x = 1) with rfl | rfl <;> rfl
theorem zg {α : Type} {b : Bool} {k : Option α} {o : α} (h : zgrd b k = some o) : b = true ∧ k = some o := by
  unfold zgrd at h
  split at h
  · exact ⟨by assumption, h⟩
  · cases h
theorem zb {α β : Type} {x : Option α} {k : α → Option β} {o : β} (h : x.bind k = some o) : ∃ u, x = some u ∧ k u = some o := Option.bind_eq_some_iff.mp h
theorem zt {α : Type} {c : Prop} [Decidable c] {a b : Option α} {o : Option α} (h : c) (hf : (if c then a else b) = o) : a = o := by rw [if_pos h] at hf; exact hf
theorem zf {α : Type} {c : Prop} [Decidable c] {a b : Option α} {o : Option α} (h : ¬ c) (hf : (if c then a else b) = o) : b = o := by rw [if_neg h] at hf; exact hf
def lvu : List (Nat × Value) → Nat → Value → List (Nat × Value)
  | [], i, x => [(i, x)]
  | (j, y) :: t, i, x => if j = i then (i, x) :: t else (j, y) :: lvu t i x
theorem lvu_mem : ∀ (l : List (Nat × Value)) (i : Nat) (x : Value) (q : Nat × Value), q ∈ lvu l i x → q = (i, x) ∨ q ∈ l
  | [], i, x, q, h => Or.inl (List.mem_singleton.mp h)
  | (j, y) :: t, i, x, q, h => by
    unfold lvu at h
    split at h
    · rcases List.mem_cons.mp h with h | h
      · exact Or.inl h
      · exact Or.inr (List.mem_cons_of_mem _ h)
    · rcases List.mem_cons.mp h with h | h
      · exact Or.inr (h ▸ List.mem_cons_self)
      · rcases lvu_mem t i x q h with h | h
        · exact Or.inl h
        · exact Or.inr (List.mem_cons_of_mem _ h)
def lv_ok (l : List (Nat × Value)) (i : Nat) : Bool := l.all (fun q => !(q.1 + 1 == i && q.2.category == 2))
/-- each place once -/
def lv_one (l : List (Nat × Value)) : Bool := va_nd (l.map Prod.fst)
theorem lvu_ne : ∀ (l : List (Nat × Value)) (i : Nat) (x : Value) (q : Nat × Value), lv_one l = true → q ∈ lvu l i x → q ≠ (i, x) → q.1 ≠ i
  | [], i, x, q, _, h, hne => absurd (List.mem_singleton.mp h) hne
  | (j, y) :: t, i, x, q, h1, h, hne => by
    have h2 : decide (j ∉ t.map Prod.fst) = true ∧ lv_one t = true := by
      have := h1
      simp only [lv_one, List.map_cons, va_nd, Bool.and_eq_true] at this
      exact this
    unfold lvu at h
    by_cases hji : j = i
    · rw [if_pos hji] at h
      rcases List.mem_cons.mp h with h | h
      · exact absurd h hne
      · intro hq
        have := of_decide_eq_true h2.1
        exact this (List.mem_map.mpr ⟨q, h, by rw [hq, hji]⟩)
    · rw [if_neg hji] at h
      rcases List.mem_cons.mp h with h | h
      · rw [h]; exact hji
      · exact lvu_ne t i x q h2.2 h hne
theorem lvu_has {ls : Array Slot} {nL i : Nat} {x : Value} {lv l' : List (Nat × Value)} (hx : lv_ok lv i = true) (h1 : lv_one lv = true) (h : lv_has ls nL ((i, x) :: lv.filter (fun q => !(q.1 == i) && !(q.1 + 1 == i && q.2.category == 2)))) (e : lvu lv i x = l') : lv_has ls nL l' := by
  refine ⟨h.1, h.2.1, fun q hq => h.2.2 q ?_⟩
  subst e
  by_cases hqe : q = (i, x)
  · rw [hqe]; exact List.mem_cons_self
  · refine List.mem_cons_of_mem _ (List.mem_filter.mpr ⟨(lvu_mem lv i x q hq).resolve_left hqe, ?_⟩)
    have ha := List.all_eq_true.mp hx q ((lvu_mem lv i x q hq).resolve_left hqe)
    have hb := lvu_ne lv i x q h1 hq hqe
    simp only [Bool.and_eq_true]
    exact ⟨by simp [hb], ha⟩
