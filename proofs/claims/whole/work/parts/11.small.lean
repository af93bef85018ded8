abbrev rX2_begin : Room := { frames := 0, cells := 0, slots := 0, locals := 0 }
theorem nX2_begin : zNoMH yX2_begin 2 := ⟨by decide +kernel, by decide +kernel, by decide +kernel⟩
theorem iX2_begin_X2 : ∀ w ∈ wsX20, w ∈ wsX2_begin := fun _ h => (List.mem_cons_of_mem _ (List.mem_append_right _ h))
def fX2_begin_L19 : Nat → PV → Int32 → Int32 → Int32 → Option PV
  | 0, _, _, _, _ => none
  | n + 1, v, x1, x2, x3 => if 10 ≤ x3 then (some v) else (if x3 = (x1 - 1) then (zgrd (zix x3 10) (fX2_begin_L19 n ((zpt v.1 x3 x2), v.2) x1 x2 (x3 + 1))) else (zgrd (zix x3 10) (fX2_begin_L19 n ((zpt v.1 x3 0), v.2) x1 x2 (x3 + 1))))
set_option maxRecDepth 100000 in
set_option maxHeartbeats 4000000 in
theorem tX2_begin_l19 {X : zX} {l : Launch} {G : va_G} {ca : Nat → ClassId} {ad : Nat → Nat} (h : zOk X l G ca cX2_begin RX2 wsX2_begin 4 rX2_begin) : ∀ (n : Nat) (v : PV) (x1 : Int32) (x2 : Int32) (x3 : Int32) (out : PV), fX2_begin_L19 n v x1 x2 x3 = some out → (V X G 4 0 0 (wP ca ad out) 49 [] []) → V X G 4 0 0 (wP ca ad v) 19 [(0, .ref (ad 0)), (1, .int x1), (2, .int x2), (3, .int x3)] [] := by
  intro n
  induction n with
  | zero => intro v x1 x2 x3 out hf; rw [fX2_begin_L19] at hf; cases hf
  | succ n ih =>
    intro v x1 x2 x3 out hf kx
    rw [fX2_begin_L19] at hf
    refine v_iload_n h dX2_begin_19 3 rfl 20 rfl ?_
    refine v_bipush h dX2_begin_20 10 rfl 22 rfl ?_
    refine v_icmp_ge h dX2_begin_22 49 (by decide) 25 rfl (fun c1 => ?_) (fun c1 => ?_)
    · replace hf := zt c1 hf
      cases (Option.some.inj hf)
      exact v_sub [] rfl (kx)
    · replace hf := zf c1 hf
      refine v_aload_n h dX2_begin_25 0 rfl 26 rfl ?_
      refine v_get h (v := .ref (ad 1)) dX2_begin_26 iX2_begin_X2 0 rfl rfl 0 (by decide) (zwi 5 rfl) rfl 29 rfl ?_
      refine v_iload_n h dX2_begin_29 3 rfl 30 rfl ?_
      refine v_iload_n h dX2_begin_30 3 rfl 31 rfl ?_
      refine v_iload_n h dX2_begin_31 1 rfl 32 rfl ?_
      refine v_iconst h dX2_begin_32 1 rfl 33 rfl ?_
      refine v_isub h dX2_begin_33 34 rfl ?_
      refine v_icmp_ne h dX2_begin_34 41 (by decide) 37 rfl (fun c2 => ?_) (fun c2 => ?_)
      · replace hf := zf c2 hf
        refine v_iconst h dX2_begin_41 0 rfl 42 rfl ?_
        obtain ⟨g3, hf⟩ := zg hf
        refine v_iast h (f := v.1) dX2_begin_42 1 0 rfl rfl (zix_in g3) (wP ca ad ((zpt v.1 x3 0), v.2)) rfl 43 rfl ?_
        refine v_iinc h dX2_begin_43 3 rfl (x3 + 1) rfl (Nat.le_of_ble_eq_true rfl) rfl rfl [(0, .ref (ad 0)), (1, .int x1), (2, .int x2), (3, .int (x3 + 1))] rfl 46 rfl ?_
        refine v_goto h dX2_begin_46 19 (by decide) ?_
        exact v_sub [0, 1, 2, 3] rfl (ih ((zpt v.1 x3 0), v.2) x1 x2 (x3 + 1) _ hf kx)
      · replace hf := zt c2 hf
        refine v_iload_n h dX2_begin_37 2 rfl 38 rfl ?_
        refine v_goto h dX2_begin_38 42 (by decide) ?_
        obtain ⟨g4, hf⟩ := zg hf
        refine v_iast h (f := v.1) dX2_begin_42 1 0 rfl rfl (zix_in g4) (wP ca ad ((zpt v.1 x3 x2), v.2)) rfl 43 rfl ?_
        refine v_iinc h dX2_begin_43 3 rfl (x3 + 1) rfl (Nat.le_of_ble_eq_true rfl) rfl rfl [(0, .ref (ad 0)), (1, .int x1), (2, .int x2), (3, .int (x3 + 1))] rfl 46 rfl ?_
        refine v_goto h dX2_begin_46 19 (by decide) ?_
        exact v_sub [0, 1, 2, 3] rfl (ih ((zpt v.1 x3 x2), v.2) x1 x2 (x3 + 1) _ hf kx)
def fX2_begin (v : PV) (x1 : Int32) (x2 : Int32) : Option PV := ((fX2_begin_L19 zF (v.1, v.2.1, x1, 1000000000, 1000000000) x1 x2 0) : Option PV).bind (fun u1 => some u1)
set_option maxRecDepth 100000 in
set_option maxHeartbeats 4000000 in
theorem tX2_begin (l : Launch) (G : va_G) (ca : Nat → ClassId) (ad : Nat → Nat) (v : PV) (x1 : Int32) (x2 : Int32) {o : PV} (hf : fX2_begin v x1 x2 = some o) : zMv l yX2_begin wsX2_begin rX2_begin G ca [.ref (ad 0), .int x1, .int x2] (wP ca ad v) (wP ca ad o) := by
  refine zMv.of (cc := cX2_begin) (nL := 4) (own := RX2) (by decide) rfl rfl (Nat.le_of_ble_eq_true rfl) (fun X h hE => ?_)
  show V X G 4 0 0 (wP ca ad v) 0 [(0, .ref (ad 0)), (1, .int x1), (2, .int x2)] []
  unfold fX2_begin at hf
  refine v_aload_n h dX2_begin_0 0 rfl 1 rfl ?_
  refine v_iload_n h dX2_begin_1 1 rfl 2 rfl ?_
  refine v_put h dX2_begin_2 iX2_begin_X2 tyX2 tyX2_ok nmX2 0 rfl rfl 2 (by decide) (zwi 1 rfl) rfl rfl rfl (Nat.le_of_ble_eq_true rfl) (wP ca ad (v.1, v.2.1, x1, v.2.2.2)) rfl 5 rfl ?_
  refine v_aload_n h dX2_begin_5 0 rfl 6 rfl ?_
  refine v_ldc h dX2_begin_6 1000000000 (zwi 2 rfl) 8 rfl ?_
  refine v_put h dX2_begin_8 iX2_begin_X2 tyX2 tyX2_ok nmX2 0 rfl rfl 3 (by decide) (zwi 3 rfl) rfl rfl rfl (Nat.le_of_ble_eq_true rfl) (wP ca ad (v.1, v.2.1, x1, 1000000000, v.2.2.2.2)) rfl 11 rfl ?_
  refine v_aload_n h dX2_begin_11 0 rfl 12 rfl ?_
  refine v_ldc h dX2_begin_12 1000000000 (zwi 2 rfl) 14 rfl ?_
  refine v_put h dX2_begin_14 iX2_begin_X2 tyX2 tyX2_ok nmX2 0 rfl rfl 4 (by decide) (zwi 4 rfl) rfl rfl rfl (Nat.le_of_ble_eq_true rfl) (wP ca ad (v.1, v.2.1, x1, 1000000000, 1000000000)) rfl 17 rfl ?_
  refine v_iconst h dX2_begin_17 0 rfl 18 rfl ?_
  refine v_istore_n h dX2_begin_18 (Nat.le_of_ble_eq_true rfl) rfl rfl [(0, .ref (ad 0)), (1, .int x1), (2, .int x2), (3, .int 0)] rfl 19 rfl ?_
  obtain ⟨u1, hu1, hf⟩ := zb hf
  refine v_sub [0, 1, 2, 3] rfl ?_
  refine tX2_begin_l19 h zF (v.1, v.2.1, x1, 1000000000, 1000000000) x1 x2 0 _ hu1 ?_
  cases (Option.some.inj hf)
  exact hE 49 _ dX2_begin_49
abbrev rX2_keepIfBetter : Room := { frames := 1, cells := 0, slots := 0, locals := 18 }
theorem nX2_keepIfBetter : zNoMH yX2_keepIfBetter 2 := ⟨by decide +kernel, by decide +kernel, by decide +kernel⟩
theorem iX2_keepIfBetter_X2 : ∀ w ∈ wsX20, w ∈ wsX2_keepIfBetter := fun _ h => (List.mem_cons_of_mem _ (List.mem_append_right _ h))
def fX2_keepIfBetter (v : PV) (x1 : Int32) (x2 : Int32) : Option PV := if v.2.2.2.1 < x1 then (some v) else (if x1 = v.2.2.2.1 then (if x2 < v.2.2.2.2 then (some (v.1, (zcpy v.1 v.2.1 0 0 10), v.2.2.1, x1, x2)) else (some v)) else (some (v.1, (zcpy v.1 v.2.1 0 0 10), v.2.2.1, x1, x2)))
set_option maxRecDepth 100000 in
set_option maxHeartbeats 4000000 in
theorem tX2_keepIfBetter (l : Launch) (G : va_G) (ca : Nat → ClassId) (ad : Nat → Nat) (v : PV) (x1 : Int32) (x2 : Int32) {o : PV} (hf : fX2_keepIfBetter v x1 x2 = some o) : zMv l yX2_keepIfBetter wsX2_keepIfBetter rX2_keepIfBetter G ca [.ref (ad 0), .int x1, .int x2] (wP ca ad v) (wP ca ad o) := by
  refine zMv.of (cc := cX2_keepIfBetter) (nL := 3) (own := RX2) (by decide) rfl rfl (Nat.le_of_ble_eq_true rfl) (fun X h hE => ?_)
  show V X G 3 0 0 (wP ca ad v) 0 [(0, .ref (ad 0)), (1, .int x1), (2, .int x2)] []
  unfold fX2_keepIfBetter at hf
  refine v_iload_n h dX2_keepIfBetter_0 1 rfl 1 rfl ?_
  refine v_aload_n h dX2_keepIfBetter_1 0 rfl 2 rfl ?_
  refine v_get h (v := .int v.2.2.2.1) dX2_keepIfBetter_2 iX2_keepIfBetter_X2 0 rfl rfl 3 (by decide) (zwi 1 rfl) rfl 5 rfl ?_
  refine v_icmp_gt h dX2_keepIfBetter_5 24 (by decide) 8 rfl (fun c1 => ?_) (fun c1 => ?_)
  · replace hf := zt c1 hf
    cases (Option.some.inj hf)
    exact hE 24 _ dX2_keepIfBetter_24
  · replace hf := zf c1 hf
    refine v_iload_n h dX2_keepIfBetter_8 1 rfl 9 rfl ?_
    refine v_aload_n h dX2_keepIfBetter_9 0 rfl 10 rfl ?_
    refine v_get h (v := .int v.2.2.2.1) dX2_keepIfBetter_10 iX2_keepIfBetter_X2 0 rfl rfl 3 (by decide) (zwi 1 rfl) rfl 13 rfl ?_
    refine v_icmp_ne h dX2_keepIfBetter_13 25 (by decide) 16 rfl (fun c2 => ?_) (fun c2 => ?_)
    · replace hf := zf c2 hf
      refine v_aload_n h dX2_keepIfBetter_25 0 rfl 26 rfl ?_
      refine v_iload_n h dX2_keepIfBetter_26 1 rfl 27 rfl ?_
      refine v_put h dX2_keepIfBetter_27 iX2_keepIfBetter_X2 tyX2 tyX2_ok nmX2 0 rfl rfl 3 (by decide) (zwi 1 rfl) rfl rfl rfl (Nat.le_of_ble_eq_true rfl) (wP ca ad (v.1, v.2.1, v.2.2.1, x1, v.2.2.2.2)) rfl 30 rfl ?_
      refine v_aload_n h dX2_keepIfBetter_30 0 rfl 31 rfl ?_
      refine v_iload_n h dX2_keepIfBetter_31 2 rfl 32 rfl ?_
      refine v_put h dX2_keepIfBetter_32 iX2_keepIfBetter_X2 tyX2 tyX2_ok nmX2 0 rfl rfl 4 (by decide) (zwi 2 rfl) rfl rfl rfl (Nat.le_of_ble_eq_true rfl) (wP ca ad (v.1, v.2.1, v.2.2.1, x1, x2)) rfl 35 rfl ?_
      refine v_aload_n h dX2_keepIfBetter_35 0 rfl 36 rfl ?_
      refine v_get h (v := .ref (ad 1)) dX2_keepIfBetter_36 iX2_keepIfBetter_X2 0 rfl rfl 0 (by decide) (zwi 3 rfl) rfl 39 rfl ?_
      refine v_iconst h dX2_keepIfBetter_39 0 rfl 40 rfl ?_
      refine v_aload_n h dX2_keepIfBetter_40 0 rfl 41 rfl ?_
      refine v_get h (v := .ref (ad 2)) dX2_keepIfBetter_41 iX2_keepIfBetter_X2 0 rfl rfl 1 (by decide) (zwi 4 rfl) rfl 44 rfl ?_
      refine v_iconst h dX2_keepIfBetter_44 0 rfl 45 rfl ?_
      refine v_bipush h dX2_keepIfBetter_45 10 rfl 47 rfl ?_
      refine v_copyi h (f := v.1) (g := v.2.1) dX2_keepIfBetter_47 (zwi 5 rfl) (zwi 6 rfl) (zwi 7 rfl) (zwi 8 rfl) 1 2 0 rfl rfl rfl (by decide) (Nat.le_of_ble_eq_true rfl) (Nat.le_of_ble_eq_true rfl) (wP ca ad (v.1, (zcpy v.1 v.2.1 0 0 10), v.2.2.1, x1, x2)) rfl 50 rfl ?_
      cases (Option.some.inj hf)
      exact hE 50 _ dX2_keepIfBetter_50
    · replace hf := zt c2 hf
      refine v_iload_n h dX2_keepIfBetter_16 2 rfl 17 rfl ?_
      refine v_aload_n h dX2_keepIfBetter_17 0 rfl 18 rfl ?_
      refine v_get h (v := .int v.2.2.2.2) dX2_keepIfBetter_18 iX2_keepIfBetter_X2 0 rfl rfl 4 (by decide) (zwi 2 rfl) rfl 21 rfl ?_
      refine v_icmp_lt h dX2_keepIfBetter_21 25 (by decide) 24 rfl (fun c3 => ?_) (fun c3 => ?_)
      · replace hf := zt c3 hf
        refine v_aload_n h dX2_keepIfBetter_25 0 rfl 26 rfl ?_
        refine v_iload_n h dX2_keepIfBetter_26 1 rfl 27 rfl ?_
        refine v_put h dX2_keepIfBetter_27 iX2_keepIfBetter_X2 tyX2 tyX2_ok nmX2 0 rfl rfl 3 (by decide) (zwi 1 rfl) rfl rfl rfl (Nat.le_of_ble_eq_true rfl) (wP ca ad (v.1, v.2.1, v.2.2.1, x1, v.2.2.2.2)) rfl 30 rfl ?_
        refine v_aload_n h dX2_keepIfBetter_30 0 rfl 31 rfl ?_
        refine v_iload_n h dX2_keepIfBetter_31 2 rfl 32 rfl ?_
        refine v_put h dX2_keepIfBetter_32 iX2_keepIfBetter_X2 tyX2 tyX2_ok nmX2 0 rfl rfl 4 (by decide) (zwi 2 rfl) rfl rfl rfl (Nat.le_of_ble_eq_true rfl) (wP ca ad (v.1, v.2.1, v.2.2.1, x1, x2)) rfl 35 rfl ?_
        refine v_aload_n h dX2_keepIfBetter_35 0 rfl 36 rfl ?_
        refine v_get h (v := .ref (ad 1)) dX2_keepIfBetter_36 iX2_keepIfBetter_X2 0 rfl rfl 0 (by decide) (zwi 3 rfl) rfl 39 rfl ?_
        refine v_iconst h dX2_keepIfBetter_39 0 rfl 40 rfl ?_
        refine v_aload_n h dX2_keepIfBetter_40 0 rfl 41 rfl ?_
        refine v_get h (v := .ref (ad 2)) dX2_keepIfBetter_41 iX2_keepIfBetter_X2 0 rfl rfl 1 (by decide) (zwi 4 rfl) rfl 44 rfl ?_
        refine v_iconst h dX2_keepIfBetter_44 0 rfl 45 rfl ?_
        refine v_bipush h dX2_keepIfBetter_45 10 rfl 47 rfl ?_
        refine v_copyi h (f := v.1) (g := v.2.1) dX2_keepIfBetter_47 (zwi 5 rfl) (zwi 6 rfl) (zwi 7 rfl) (zwi 8 rfl) 1 2 0 rfl rfl rfl (by decide) (Nat.le_of_ble_eq_true rfl) (Nat.le_of_ble_eq_true rfl) (wP ca ad (v.1, (zcpy v.1 v.2.1 0 0 10), v.2.2.1, x1, x2)) rfl 50 rfl ?_
        cases (Option.some.inj hf)
        exact hE 50 _ dX2_keepIfBetter_50
      · replace hf := zf c3 hf
        cases (Option.some.inj hf)
        exact hE 24 _ dX2_keepIfBetter_24
abbrev rX2_advance : Room := { frames := 0, cells := 0, slots := 0, locals := 0 }
theorem nX2_advance : zNoMH yX2_advance 0 := ⟨by decide +kernel, by decide +kernel, by decide +kernel⟩
theorem iX2_advance_X2 : ∀ w ∈ wsX20, w ∈ wsX2_advance := fun _ h => (List.mem_cons_of_mem _ (List.mem_append_right _ h))
def fX2_advance_L7 : Nat → PV → Int32 → Option Int32
  | 0, _, _ => none
  | n + 1, v, x1 => if x1 ≤ 0 then (some x1) else (zgrd (zix x1 10) (if (zgt v.1 x1) = 0 then (fX2_advance_L7 n v (x1 + (-1))) else (some x1)))
set_option maxRecDepth 100000 in
set_option maxHeartbeats 4000000 in
theorem tX2_advance_l7 {X : zX} {l : Launch} {G : va_G} {ca : Nat → ClassId} {ad : Nat → Nat} (h : zOk X l G ca cX2_advance RX2 wsX2_advance 3 rX2_advance) : ∀ (n : Nat) (v : PV) (x1 : Int32) (out : Int32), fX2_advance_L7 n v x1 = some out → (V X G 3 0 0 (wP ca ad v) 26 [(0, .ref (ad 0)), (1, .int out)] []) → V X G 3 0 0 (wP ca ad v) 7 [(0, .ref (ad 0)), (1, .int x1)] [] := by
  intro n
  induction n with
  | zero => intro v x1 out hf; rw [fX2_advance_L7] at hf; cases hf
  | succ n ih =>
    intro v x1 out hf kx
    rw [fX2_advance_L7] at hf
    refine v_iload_n h dX2_advance_7 1 rfl 8 rfl ?_
    refine v_if_le h dX2_advance_8 26 (by decide) 11 rfl (fun c1 => ?_) (fun c1 => ?_)
    · replace hf := zt c1 hf
      cases (Option.some.inj hf)
      exact v_sub [0, 1] rfl (kx)
    · replace hf := zf c1 hf
      refine v_aload_n h dX2_advance_11 0 rfl 12 rfl ?_
      refine v_get h (v := .ref (ad 1)) dX2_advance_12 iX2_advance_X2 0 rfl rfl 0 (by decide) (zwi 2 rfl) rfl 15 rfl ?_
      refine v_iload_n h dX2_advance_15 1 rfl 16 rfl ?_
      obtain ⟨g2, hf⟩ := zg hf
      refine v_iald h (f := v.1) dX2_advance_16 1 0 rfl rfl (zix_in g2) 17 rfl ?_
      refine v_if_ne h dX2_advance_17 26 (by decide) 20 rfl (fun c3 => ?_) (fun c3 => ?_)
      · replace hf := zf c3 hf
        cases (Option.some.inj hf)
        exact v_sub [0, 1] rfl (kx)
      · replace hf := zt c3 hf
        refine v_iinc h dX2_advance_20 1 rfl (x1 + (-1)) rfl (Nat.le_of_ble_eq_true rfl) rfl rfl [(0, .ref (ad 0)), (1, .int (x1 + (-1)))] rfl 23 rfl ?_
        refine v_goto h dX2_advance_23 7 (by decide) ?_
        exact v_sub [0, 1] rfl (ih v (x1 + (-1)) _ hf kx)
def fX2_advance (v : PV) : Option (Int32 × PV) := ((fX2_advance_L7 zF v (v.2.2.1 - 1)) : Option Int32).bind (fun u1 => if 0 < u1 then (zgrd (zix u1 10) (zgrd (zix (u1 - 1) 10) (zgrd (zix (v.2.2.1 - 1) 10) (some (1, ((zpt (zpt (zpt v.1 u1 0) (u1 - 1) ((zgt (zpt v.1 u1 0) (u1 - 1)) + 1)) (v.2.2.1 - 1) ((zgt v.1 u1) - 1)), v.2)))))) else (some (0, v)))
set_option maxRecDepth 100000 in
set_option maxHeartbeats 4000000 in
theorem tX2_advance (l : Launch) (G : va_G) (ca : Nat → ClassId) (ad : Nat → Nat) (v : PV)  {o : (Int32 × PV)} (hf : fX2_advance v = some o) : zMi l yX2_advance wsX2_advance rX2_advance G ca [.ref (ad 0)] (wP ca ad v) o.1 (wP ca ad o.2) := by
  refine zMi.of (cc := cX2_advance) (nL := 3) (own := RX2) (ty := .boolean) (by decide) rfl rfl (Nat.le_of_ble_eq_true rfl) (fun X h hE => ?_)
  show V X G 3 0 0 (wP ca ad v) 0 [(0, .ref (ad 0))] []
  unfold fX2_advance at hf
  refine v_aload_n h dX2_advance_0 0 rfl 1 rfl ?_
  refine v_get h (v := .int v.2.2.1) dX2_advance_1 iX2_advance_X2 0 rfl rfl 2 (by decide) (zwi 1 rfl) rfl 4 rfl ?_
  refine v_iconst h dX2_advance_4 1 rfl 5 rfl ?_
  refine v_isub h dX2_advance_5 6 rfl ?_
  refine v_istore_n h dX2_advance_6 (Nat.le_of_ble_eq_true rfl) rfl rfl [(0, .ref (ad 0)), (1, .int (v.2.2.1 - 1))] rfl 7 rfl ?_
  obtain ⟨u1, hu1, hf⟩ := zb hf
  refine v_sub [0, 1] rfl ?_
  refine tX2_advance_l7 h zF v (v.2.2.1 - 1) _ hu1 ?_
  refine v_iload_n h dX2_advance_26 1 rfl 27 rfl ?_
  refine v_if_gt h dX2_advance_27 32 (by decide) 30 rfl (fun c2 => ?_) (fun c2 => ?_)
  · replace hf := zt c2 hf
    refine v_aload_n h dX2_advance_32 0 rfl 33 rfl ?_
    refine v_get h (v := .ref (ad 1)) dX2_advance_33 iX2_advance_X2 0 rfl rfl 0 (by decide) (zwi 2 rfl) rfl 36 rfl ?_
    refine v_iload_n h dX2_advance_36 1 rfl 37 rfl ?_
    obtain ⟨g3, hf⟩ := zg hf
    refine v_iald h (f := v.1) dX2_advance_37 1 0 rfl rfl (zix_in g3) 38 rfl ?_
    refine v_istore_n h dX2_advance_38 (Nat.le_of_ble_eq_true rfl) rfl rfl [(0, .ref (ad 0)), (1, .int u1), (2, .int (zgt v.1 u1))] rfl 39 rfl ?_
    refine v_aload_n h dX2_advance_39 0 rfl 40 rfl ?_
    refine v_get h (v := .ref (ad 1)) dX2_advance_40 iX2_advance_X2 0 rfl rfl 0 (by decide) (zwi 2 rfl) rfl 43 rfl ?_
    refine v_iload_n h dX2_advance_43 1 rfl 44 rfl ?_
    refine v_iconst h dX2_advance_44 0 rfl 45 rfl ?_
    refine v_iast h (f := v.1) dX2_advance_45 1 0 rfl rfl (zix_in g3) (wP ca ad ((zpt v.1 u1 0), v.2)) rfl 46 rfl ?_
    refine v_aload_n h dX2_advance_46 0 rfl 47 rfl ?_
    refine v_get h (v := .ref (ad 1)) dX2_advance_47 iX2_advance_X2 0 rfl rfl 0 (by decide) (zwi 2 rfl) rfl 50 rfl ?_
    refine v_iload_n h dX2_advance_50 1 rfl 51 rfl ?_
    refine v_iconst h dX2_advance_51 1 rfl 52 rfl ?_
    refine v_isub h dX2_advance_52 53 rfl ?_
    refine v_dup2 h dX2_advance_53 rfl rfl 54 rfl ?_
    obtain ⟨g4, hf⟩ := zg hf
    refine v_iald h (f := (zpt v.1 u1 0)) dX2_advance_54 1 0 rfl rfl (zix_in g4) 55 rfl ?_
    refine v_iconst h dX2_advance_55 1 rfl 56 rfl ?_
    refine v_iadd h dX2_advance_56 57 rfl ?_
    refine v_iast h (f := (zpt v.1 u1 0)) dX2_advance_57 1 0 rfl rfl (zix_in g4) (wP ca ad ((zpt (zpt v.1 u1 0) (u1 - 1) ((zgt (zpt v.1 u1 0) (u1 - 1)) + 1)), v.2)) rfl 58 rfl ?_
    refine v_aload_n h dX2_advance_58 0 rfl 59 rfl ?_
    refine v_get h (v := .ref (ad 1)) dX2_advance_59 iX2_advance_X2 0 rfl rfl 0 (by decide) (zwi 2 rfl) rfl 62 rfl ?_
    refine v_aload_n h dX2_advance_62 0 rfl 63 rfl ?_
    refine v_get h (v := .int v.2.2.1) dX2_advance_63 iX2_advance_X2 0 rfl rfl 2 (by decide) (zwi 1 rfl) rfl 66 rfl ?_
    refine v_iconst h dX2_advance_66 1 rfl 67 rfl ?_
    refine v_isub h dX2_advance_67 68 rfl ?_
    refine v_iload_n h dX2_advance_68 2 rfl 69 rfl ?_
    refine v_iconst h dX2_advance_69 1 rfl 70 rfl ?_
    refine v_isub h dX2_advance_70 71 rfl ?_
    obtain ⟨g5, hf⟩ := zg hf
    refine v_iast h (f := (zpt (zpt v.1 u1 0) (u1 - 1) ((zgt (zpt v.1 u1 0) (u1 - 1)) + 1))) dX2_advance_71 1 0 rfl rfl (zix_in g5) (wP ca ad ((zpt (zpt (zpt v.1 u1 0) (u1 - 1) ((zgt (zpt v.1 u1 0) (u1 - 1)) + 1)) (v.2.2.1 - 1) ((zgt v.1 u1) - 1)), v.2)) rfl 72 rfl ?_
    refine v_iconst h dX2_advance_72 1 rfl 73 rfl ?_
    cases (Option.some.inj hf)
    exact hE 73 _ znar1 dX2_advance_73
  · replace hf := zf c2 hf
    refine v_iconst h dX2_advance_30 0 rfl 31 rfl ?_
    cases (Option.some.inj hf)
    exact hE 31 _ znar0 dX2_advance_31
abbrev rX3_begin : Room := { frames := 0, cells := 0, slots := 0, locals := 0 }
theorem nX3_begin : zNoMH yX3_begin 2 := ⟨by decide +kernel, by decide +kernel, by decide +kernel⟩
theorem iX3_begin_X3 : ∀ w ∈ wsX30, w ∈ wsX3_begin := fun _ h => (List.mem_cons_of_mem _ (List.mem_append_right _ h))
def fX3_begin_L17 : Nat → SV → Int32 → Option SV
  | 0, _, _ => none
  | n + 1, v, x3 => if 24 ≤ x3 then (some v) else (zgrd (zix x3 24) (fX3_begin_L17 n ((zptL v.1 x3 0), v.2) (x3 + 1)))
set_option maxRecDepth 100000 in
set_option maxHeartbeats 4000000 in
theorem tX3_begin_l17 {X : zX} {l : Launch} {G : va_G} {ca : Nat → ClassId} {ad : Nat → Nat} (h : zOk X l G ca cX3_begin RX3 wsX3_begin 4 rX3_begin) : ∀ (n : Nat) (v : SV) (x3 : Int32) (out : SV), fX3_begin_L17 n v x3 = some out → (V X G 4 0 0 (wS ca ad out) 36 [] []) → V X G 4 0 0 (wS ca ad v) 17 [(0, .ref (ad 0)), (3, .int x3)] [] := by
  intro n
  induction n with
  | zero => intro v x3 out hf; rw [fX3_begin_L17] at hf; cases hf
  | succ n ih =>
    intro v x3 out hf kx
    rw [fX3_begin_L17] at hf
    refine v_iload_n h dX3_begin_17 1 rfl 18 rfl ?_
    refine v_bipush h dX3_begin_18 24 rfl 20 rfl ?_
    refine v_icmp_ge h dX3_begin_20 36 (by decide) 23 rfl (fun c1 => ?_) (fun c1 => ?_)
    · replace hf := zt c1 hf
      cases (Option.some.inj hf)
      exact v_sub [] rfl (kx)
    · replace hf := zf c1 hf
      refine v_aload_n h dX3_begin_23 0 rfl 24 rfl ?_
      refine v_get h (v := .ref (ad 1)) dX3_begin_24 iX3_begin_X3 0 rfl rfl 0 (by decide) (zwi 4 rfl) rfl 27 rfl ?_
      refine v_iload_n h dX3_begin_27 1 rfl 28 rfl ?_
      refine v_lconst h dX3_begin_28 0 rfl 29 rfl ?_
      obtain ⟨g2, hf⟩ := zg hf
      refine v_last h (f := v.1) dX3_begin_29 1 1 rfl rfl (zix_in g2) (wS ca ad ((zptL v.1 x3 0), v.2)) rfl 30 rfl ?_
      refine v_iinc h dX3_begin_30 1 rfl (x3 + 1) rfl (Nat.le_of_ble_eq_true rfl) rfl rfl [(0, .ref (ad 0)), (3, .int (x3 + 1))] rfl 33 rfl ?_
      refine v_goto h dX3_begin_33 17 (by decide) ?_
      exact v_sub [0, 1] rfl (ih ((zptL v.1 x3 0), v.2) (x3 + 1) _ hf kx)
def fX3_begin (v : SV) (x1 : Int32) (x2 : Int32) : Option SV := ((fX3_begin_L17 zF (v.1, 1, x1, x2) 0) : Option SV).bind (fun u1 => some u1)
set_option maxRecDepth 100000 in
set_option maxHeartbeats 4000000 in
theorem tX3_begin (l : Launch) (G : va_G) (ca : Nat → ClassId) (ad : Nat → Nat) (v : SV) (x1 : Int32) (x2 : Int32) {o : SV} (hf : fX3_begin v x1 x2 = some o) : zMv l yX3_begin wsX3_begin rX3_begin G ca [.ref (ad 0), .int x1, .int x2] (wS ca ad v) (wS ca ad o) := by
  refine zMv.of (cc := cX3_begin) (nL := 4) (own := RX3) (by decide) rfl rfl (Nat.le_of_ble_eq_true rfl) (fun X h hE => ?_)
  show V X G 4 0 0 (wS ca ad v) 0 [(0, .ref (ad 0)), (1, .int x1), (2, .int x2)] []
  unfold fX3_begin at hf
  refine v_aload_n h dX3_begin_0 0 rfl 1 rfl ?_
  refine v_iconst h dX3_begin_1 1 rfl 2 rfl ?_
  refine v_put h dX3_begin_2 iX3_begin_X3 tyX3 tyX3_ok nmX3 0 rfl rfl 1 (by decide) (zwi 1 rfl) rfl rfl rfl (Nat.le_of_ble_eq_true rfl) (wS ca ad (v.1, 1, v.2.2)) rfl 5 rfl ?_
  refine v_aload_n h dX3_begin_5 0 rfl 6 rfl ?_
  refine v_iload_n h dX3_begin_6 1 rfl 7 rfl ?_
  refine v_put h dX3_begin_7 iX3_begin_X3 tyX3 tyX3_ok nmX3 0 rfl rfl 2 (by decide) (zwi 2 rfl) rfl rfl rfl (Nat.le_of_ble_eq_true rfl) (wS ca ad (v.1, 1, x1, v.2.2.2)) rfl 10 rfl ?_
  refine v_aload_n h dX3_begin_10 0 rfl 11 rfl ?_
  refine v_iload_n h dX3_begin_11 2 rfl 12 rfl ?_
  refine v_put h dX3_begin_12 iX3_begin_X3 tyX3 tyX3_ok nmX3 0 rfl rfl 3 (by decide) (zwi 3 rfl) rfl rfl rfl (Nat.le_of_ble_eq_true rfl) (wS ca ad (v.1, 1, x1, x2)) rfl 15 rfl ?_
  refine v_iconst h dX3_begin_15 0 rfl 16 rfl ?_
  refine v_istore_n h dX3_begin_16 (Nat.le_of_ble_eq_true rfl) rfl rfl [(0, .ref (ad 0)), (1, .int x1), (2, .int x2), (3, .int 0)] rfl 17 rfl ?_
  obtain ⟨u1, hu1, hf⟩ := zb hf
  refine v_sub [0, 3] rfl ?_
  refine tX3_begin_l17 h zF (v.1, 1, x1, x2) 0 _ hu1 ?_
  cases (Option.some.inj hf)
  exact hE 36 _ dX3_begin_36
abbrev rX3_spans : Room := { frames := 0, cells := 0, slots := 0, locals := 0 }
theorem nX3_spans : zNoMH yX3_spans 2 := ⟨by decide +kernel, by decide +kernel, by decide +kernel⟩
theorem iX3_spans_X3 : ∀ w ∈ wsX30, w ∈ wsX3_spans := fun _ h => (List.mem_cons_of_mem _ (List.mem_append_right _ h))
def fX3_spans (v : SV) (x1 : Int32) (x2 : Int32) : Option Int32 := if x1 < 0 then (some 0) else (if x2 < 0 then (some 0) else (if (v.2.2.2 - x2) < x1 then (some 0) else (some 1)))
set_option maxRecDepth 100000 in
set_option maxHeartbeats 4000000 in
theorem tX3_spans (l : Launch) (G : va_G) (ca : Nat → ClassId) (ad : Nat → Nat) (v : SV) (x1 : Int32) (x2 : Int32) {o : Int32} (hf : fX3_spans v x1 x2 = some o) : zMi l yX3_spans wsX3_spans rX3_spans G ca [.ref (ad 0), .int x1, .int x2] (wS ca ad v) o (wS ca ad v) := by
  refine zMi.of (cc := cX3_spans) (nL := 3) (own := RX3) (ty := .boolean) (by decide) rfl rfl (Nat.le_of_ble_eq_true rfl) (fun X h hE => ?_)
  show V X G 3 0 0 (wS ca ad v) 0 [(0, .ref (ad 0)), (1, .int x1), (2, .int x2)] []
  unfold fX3_spans at hf
  refine v_iload_n h dX3_spans_0 1 rfl 1 rfl ?_
  refine v_if_lt h dX3_spans_1 22 (by decide) 4 rfl (fun c1 => ?_) (fun c1 => ?_)
  · replace hf := zt c1 hf
    refine v_iconst h dX3_spans_22 0 rfl 23 rfl ?_
    cases (Option.some.inj hf)
    exact hE 23 _ znar0 dX3_spans_23
  · replace hf := zf c1 hf
    refine v_iload_n h dX3_spans_4 2 rfl 5 rfl ?_
    refine v_if_lt h dX3_spans_5 22 (by decide) 8 rfl (fun c2 => ?_) (fun c2 => ?_)
    · replace hf := zt c2 hf
      refine v_iconst h dX3_spans_22 0 rfl 23 rfl ?_
      cases (Option.some.inj hf)
      exact hE 23 _ znar0 dX3_spans_23
    · replace hf := zf c2 hf
      refine v_iload_n h dX3_spans_8 1 rfl 9 rfl ?_
      refine v_aload_n h dX3_spans_9 0 rfl 10 rfl ?_
      refine v_get h (v := .int v.2.2.2) dX3_spans_10 iX3_spans_X3 0 rfl rfl 3 (by decide) (zwi 1 rfl) rfl 13 rfl ?_
      refine v_iload_n h dX3_spans_13 2 rfl 14 rfl ?_
      refine v_isub h dX3_spans_14 15 rfl ?_
      refine v_icmp_gt h dX3_spans_15 22 (by decide) 18 rfl (fun c3 => ?_) (fun c3 => ?_)
      · replace hf := zt c3 hf
        refine v_iconst h dX3_spans_22 0 rfl 23 rfl ?_
        cases (Option.some.inj hf)
        exact hE 23 _ znar0 dX3_spans_23
      · replace hf := zf c3 hf
        refine v_iconst h dX3_spans_18 1 rfl 19 rfl ?_
        refine v_goto h dX3_spans_19 23 (by decide) ?_
        cases (Option.some.inj hf)
        exact hE 23 _ znar1 dX3_spans_23
abbrev rX3_refuse : Room := { frames := 1, cells := 0, slots := 0, locals := 22 }
theorem nX3_refuse : zNoMH yX3_refuse 3 := ⟨by decide +kernel, by decide +kernel, by decide +kernel⟩
theorem iX3_refuse_X3 : ∀ w ∈ wsX30, w ∈ wsX3_refuse := fun _ h => (List.mem_cons_of_mem _ (List.mem_append_right _ h))
def fX3_refuse (v : SV) (x1 : Int32) (x2 : Int32) (x3 : Int32) : Option Int32 := if v.2.1 = 0 then (some (-11)) else (if x1 = v.2.2.1 then (((fX3_spans v x2 x3) : Option Int32).bind (fun u3 => if u3 = 0 then (some (-13)) else (some 0))) else (some (-12)))
set_option maxRecDepth 100000 in
set_option maxHeartbeats 4000000 in
theorem tX3_refuse (l : Launch) (G : va_G) (ca : Nat → ClassId) (ad : Nat → Nat) (v : SV) (x1 : Int32) (x2 : Int32) (x3 : Int32) {o : Int32} (hf : fX3_refuse v x1 x2 x3 = some o) : zMi l yX3_refuse wsX3_refuse rX3_refuse G ca [.ref (ad 0), .int x1, .int x2, .int x3] (wS ca ad v) o (wS ca ad v) := by
  refine zMi.of (cc := cX3_refuse) (nL := 4) (own := RX3) (ty := .int) (by decide) rfl rfl (Nat.le_of_ble_eq_true rfl) (fun X h hE => ?_)
  show V X G 4 0 0 (wS ca ad v) 0 [(0, .ref (ad 0)), (1, .int x1), (2, .int x2), (3, .int x3)] []
  unfold fX3_refuse at hf
  refine v_aload_n h dX3_refuse_0 0 rfl 1 rfl ?_
  refine v_get h (v := .int v.2.1) dX3_refuse_1 iX3_refuse_X3 0 rfl rfl 1 (by decide) (zwi 1 rfl) rfl 4 rfl ?_
  refine v_if_ne h dX3_refuse_4 10 (by decide) 7 rfl (fun c1 => ?_) (fun c1 => ?_)
  · replace hf := zf c1 hf
    refine v_iload_n h dX3_refuse_10 1 rfl 11 rfl ?_
    refine v_aload_n h dX3_refuse_11 0 rfl 12 rfl ?_
    refine v_get h (v := .int v.2.2.1) dX3_refuse_12 iX3_refuse_X3 0 rfl rfl 2 (by decide) (zwi 2 rfl) rfl 15 rfl ?_
    refine v_icmp_eq h dX3_refuse_15 21 (by decide) 18 rfl (fun c2 => ?_) (fun c2 => ?_)
    · replace hf := zt c2 hf
      refine v_aload_n h dX3_refuse_21 0 rfl 22 rfl ?_
      refine v_iload_n h dX3_refuse_22 2 rfl 23 rfl ?_
      refine v_iload_n h dX3_refuse_23 3 rfl 24 rfl ?_
      obtain ⟨u3, hu3, hf⟩ := zb hf
      refine v_wcallVi h (rest := []) dX3_refuse_24 (tX3_spans l G ca ad v x2 x3 hu3) gX3_refuse_X3_spans rfl rfl ⟨rfl, rfl⟩ nX3_spans ⟨Nat.le_of_ble_eq_true rfl, Nat.le_of_ble_eq_true rfl⟩ 0 rfl rfl rfl rfl (Nat.le_of_ble_eq_true rfl) ⟨Nat.zero_le _, Nat.zero_le _⟩ (wS_adr _ _ _ _) 27 rfl ?_
      refine v_if_eq h dX3_refuse_27 34 (by decide) 30 rfl (fun c4 => ?_) (fun c4 => ?_)
      · replace hf := zt c4 hf
        refine v_bipush h dX3_refuse_34 (-13) rfl 36 rfl ?_
        cases (Option.some.inj hf)
        exact hE 36 _ rfl dX3_refuse_36
      · replace hf := zf c4 hf
        refine v_iconst h dX3_refuse_30 0 rfl 31 rfl ?_
        refine v_goto h dX3_refuse_31 36 (by decide) ?_
        cases (Option.some.inj hf)
        exact hE 36 _ rfl dX3_refuse_36
    · replace hf := zf c2 hf
      refine v_bipush h dX3_refuse_18 (-12) rfl 20 rfl ?_
      cases (Option.some.inj hf)
      exact hE 20 _ rfl dX3_refuse_20
  · replace hf := zt c1 hf
    refine v_bipush h dX3_refuse_7 (-11) rfl 9 rfl ?_
    cases (Option.some.inj hf)
    exact hE 9 _ rfl dX3_refuse_9
abbrev rX3_cutToLane : Room := { frames := 0, cells := 0, slots := 0, locals := 0 }
theorem nX3_cutToLane : zNoMH yX3_cutToLane 1 := ⟨by decide +kernel, by decide +kernel, by decide +kernel⟩
theorem iX3_cutToLane_X3 : ∀ w ∈ wsX30, w ∈ wsX3_cutToLane := fun _ h => (List.mem_cons_of_mem _ (List.mem_append_right _ h))
def fX3_cutToLane (v : SV) (x1 : Int64) : Option Int64 := if v.2.2.1 = 0 then (zlet (x1.toInt32 : Int32) (fun d2 => zlet (d2.toInt8.toInt32 : Int32) (fun d3 => some d3.toInt64))) else (if v.2.2.1 = 1 then (zlet (x1.toInt32 : Int32) (fun d5 => zlet (d5.toInt16.toInt32 : Int32) (fun d6 => some d6.toInt64))) else (if v.2.2.1 = 2 then (zlet (x1.toInt32 : Int32) (fun d8 => some d8.toInt64)) else (some x1)))
set_option maxRecDepth 100000 in
set_option maxHeartbeats 4000000 in
theorem tX3_cutToLane (l : Launch) (G : va_G) (ca : Nat → ClassId) (ad : Nat → Nat) (v : SV) (x1 : Int64) {o : Int64} (hf : fX3_cutToLane v x1 = some o) : zMl l yX3_cutToLane wsX3_cutToLane rX3_cutToLane G ca [.ref (ad 0), .long x1] (wS ca ad v) o (wS ca ad v) := by
  refine zMl.of (cc := cX3_cutToLane) (nL := 3) (own := RX3) (by decide) rfl rfl (Nat.le_of_ble_eq_true rfl) (fun X h hE => ?_)
  show V X G 3 0 0 (wS ca ad v) 0 [(0, .ref (ad 0)), (1, .long x1)] []
  unfold fX3_cutToLane at hf
  refine v_aload_n h dX3_cutToLane_0 0 rfl 1 rfl ?_
  refine v_get h (v := .int v.2.2.1) dX3_cutToLane_1 iX3_cutToLane_X3 0 rfl rfl 2 (by decide) (zwi 1 rfl) rfl 4 rfl ?_
  by_cases c1 : v.2.2.1 = 0
  · replace hf := zt c1 hf
    refine v_tsIn h dX3_cutToLane_4 c1 (by decide) (by decide) rfl 32 (by decide) ?_
    refine v_lload_n h dX3_cutToLane_32 1 rfl 33 rfl ?_
    refine v_l2i h dX3_cutToLane_33 34 rfl ?_
    obtain ⟨d2, ed2, hf⟩ := zl hf
    refine v_topi ed2 ?_
    refine v_i2b h dX3_cutToLane_34 35 rfl ?_
    obtain ⟨d3, ed3, hf⟩ := zl hf
    refine v_topi ed3 ?_
    refine v_i2l h dX3_cutToLane_35 36 rfl ?_
    cases (Option.some.inj hf)
    exact hE 36 _ dX3_cutToLane_36
  · replace hf := zf c1 hf
    by_cases c4 : v.2.2.1 = 1
    · replace hf := zt c4 hf
      refine v_tsIn h dX3_cutToLane_4 c4 (by decide) (by decide) rfl 37 (by decide) ?_
      refine v_lload_n h dX3_cutToLane_37 1 rfl 38 rfl ?_
      refine v_l2i h dX3_cutToLane_38 39 rfl ?_
      obtain ⟨d5, ed5, hf⟩ := zl hf
      refine v_topi ed5 ?_
      refine v_i2s h dX3_cutToLane_39 40 rfl ?_
      obtain ⟨d6, ed6, hf⟩ := zl hf
      refine v_topi ed6 ?_
      refine v_i2l h dX3_cutToLane_40 41 rfl ?_
      cases (Option.some.inj hf)
      exact hE 41 _ dX3_cutToLane_41
    · replace hf := zf c4 hf
      by_cases c7 : v.2.2.1 = 2
      · replace hf := zt c7 hf
        refine v_tsIn h dX3_cutToLane_4 c7 (by decide) (by decide) rfl 42 (by decide) ?_
        refine v_lload_n h dX3_cutToLane_42 1 rfl 43 rfl ?_
        refine v_l2i h dX3_cutToLane_43 44 rfl ?_
        obtain ⟨d8, ed8, hf⟩ := zl hf
        refine v_topi ed8 ?_
        refine v_i2l h dX3_cutToLane_44 45 rfl ?_
        cases (Option.some.inj hf)
        exact hE 45 _ dX3_cutToLane_45
      · replace hf := zf c7 hf
        refine v_tsOut h dX3_cutToLane_4 (by have := lv_neT c1 (a := 0) (by decide); have := lv_neT c4 (a := 1) (by decide); have := lv_neT c7 (a := 2) (by decide); omega) 46 (by decide) ?_
        refine v_lload_n h dX3_cutToLane_46 1 rfl 47 rfl ?_
        cases (Option.some.inj hf)
        exact hE 47 _ dX3_cutToLane_47
abbrev rX3_put : Room := { frames := 1, cells := 0, slots := 0, locals := 22 }
theorem nX3_put : zNoMH yX3_put 2 := ⟨by decide +kernel, by decide +kernel, by decide +kernel⟩
theorem iX3_put_X3 : ∀ w ∈ wsX30, w ∈ wsX3_put := fun _ h => (List.mem_cons_of_mem _ (List.mem_append_right _ h))
def fX3_put (v : SV) (x1 : Int32) (x2 : Int64) : Option SV := ((fX3_cutToLane v x2) : Option Int64).bind (fun u1 => zgrd (zix x1 24) (some ((zptL v.1 x1 u1), v.2)))
set_option maxRecDepth 100000 in
set_option maxHeartbeats 4000000 in
theorem tX3_put (l : Launch) (G : va_G) (ca : Nat → ClassId) (ad : Nat → Nat) (v : SV) (x1 : Int32) (x2 : Int64) {o : SV} (hf : fX3_put v x1 x2 = some o) : zMv l yX3_put wsX3_put rX3_put G ca [.ref (ad 0), .int x1, .long x2] (wS ca ad v) (wS ca ad o) := by
  refine zMv.of (cc := cX3_put) (nL := 4) (own := RX3) (by decide) rfl rfl (Nat.le_of_ble_eq_true rfl) (fun X h hE => ?_)
  show V X G 4 0 0 (wS ca ad v) 0 [(0, .ref (ad 0)), (1, .int x1), (2, .long x2)] []
  unfold fX3_put at hf
  refine v_aload_n h dX3_put_0 0 rfl 1 rfl ?_
  refine v_get h (v := .ref (ad 1)) dX3_put_1 iX3_put_X3 0 rfl rfl 0 (by decide) (zwi 1 rfl) rfl 4 rfl ?_
  refine v_iload_n h dX3_put_4 1 rfl 5 rfl ?_
  refine v_aload_n h dX3_put_5 0 rfl 6 rfl ?_
  refine v_lload_n h dX3_put_6 2 rfl 7 rfl ?_
  obtain ⟨u1, hu1, hf⟩ := zb hf
  refine v_wcallVl h (rest := [.int x1, .ref (ad 1)]) dX3_put_7 (tX3_cutToLane l G ca ad v x2 hu1) gX3_put_X3_cutToLane rfl rfl ⟨rfl, rfl⟩ nX3_cutToLane ⟨Nat.le_of_ble_eq_true rfl, Nat.le_of_ble_eq_true rfl⟩ 0 rfl rfl rfl rfl (Nat.le_of_ble_eq_true rfl) ⟨Nat.zero_le _, Nat.zero_le _⟩ (wS_adr _ _ _ _) 10 rfl ?_
  obtain ⟨g2, hf⟩ := zg hf
  refine v_last h (f := v.1) dX3_put_10 1 1 rfl rfl (zix_in g2) (wS ca ad ((zptL v.1 x1 u1), v.2)) rfl 11 rfl ?_
  cases (Option.some.inj hf)
  exact hE 11 _ dX3_put_11
abbrev rX5_append : Room := { frames := 0, cells := 0, slots := 0, locals := 0 }
theorem nX5_append : zNoMH yX5_append 1 := ⟨by decide +kernel, by decide +kernel, by decide +kernel⟩
theorem iX5_append_X5 : ∀ w ∈ wsX50, w ∈ wsX5_append := fun _ h => (List.mem_cons_of_mem _ (List.mem_append_right _ h))
def fX5_append (v : WV) (x1 : Int32) : Option WV := if 8 ≤ v.2 then (some v) else (zgrd (zix v.2 8) (some ((zpt v.1 v.2 x1), (v.2 + 1))))
set_option maxRecDepth 100000 in
set_option maxHeartbeats 4000000 in
theorem tX5_append (l : Launch) (G : va_G) (ca : Nat → ClassId) (ad : Nat → Nat) (v : WV) (x1 : Int32) {o : WV} (hf : fX5_append v x1 = some o) : zMv l yX5_append wsX5_append rX5_append G ca [.ref (ad 0), .int x1] (wW ca ad v) (wW ca ad o) := by
  refine zMv.of (cc := cX5_append) (nL := 2) (own := RX5) (by decide) rfl rfl (Nat.le_of_ble_eq_true rfl) (fun X h hE => ?_)
  show V X G 2 0 0 (wW ca ad v) 0 [(0, .ref (ad 0)), (1, .int x1)] []
  unfold fX5_append at hf
  refine v_aload_n h dX5_append_0 0 rfl 1 rfl ?_
  refine v_get h (v := .int v.2) dX5_append_1 iX5_append_X5 0 rfl rfl 1 (by decide) (zwi 1 rfl) rfl 4 rfl ?_
  refine v_bipush h dX5_append_4 8 rfl 6 rfl ?_
  refine v_icmp_ge h dX5_append_6 29 (by decide) 9 rfl (fun c1 => ?_) (fun c1 => ?_)
  · replace hf := zt c1 hf
    cases (Option.some.inj hf)
    exact hE 29 _ dX5_append_29
  · replace hf := zf c1 hf
    refine v_aload_n h dX5_append_9 0 rfl 10 rfl ?_
    refine v_get h (v := .ref (ad 1)) dX5_append_10 iX5_append_X5 0 rfl rfl 0 (by decide) (zwi 2 rfl) rfl 13 rfl ?_
    refine v_aload_n h dX5_append_13 0 rfl 14 rfl ?_
    refine v_get h (v := .int v.2) dX5_append_14 iX5_append_X5 0 rfl rfl 1 (by decide) (zwi 1 rfl) rfl 17 rfl ?_
    refine v_iload_n h dX5_append_17 1 rfl 18 rfl ?_
    obtain ⟨g2, hf⟩ := zg hf
    refine v_iast h (f := v.1) dX5_append_18 1 0 rfl rfl (zix_in g2) (wW ca ad ((zpt v.1 v.2 x1), v.2)) rfl 19 rfl ?_
    refine v_aload_n h dX5_append_19 0 rfl 20 rfl ?_
    refine v_dup h dX5_append_20 rfl 21 rfl ?_
    refine v_get h (v := .int v.2) dX5_append_21 iX5_append_X5 0 rfl rfl 1 (by decide) (zwi 1 rfl) rfl 24 rfl ?_
    refine v_iconst h dX5_append_24 1 rfl 25 rfl ?_
    refine v_iadd h dX5_append_25 26 rfl ?_
    refine v_put h dX5_append_26 iX5_append_X5 tyX5 tyX5_ok nmX5 0 rfl rfl 1 (by decide) (zwi 1 rfl) rfl rfl rfl (Nat.le_of_ble_eq_true rfl) (wW ca ad ((zpt v.1 v.2 x1), (v.2 + 1))) rfl 29 rfl ?_
    cases (Option.some.inj hf)
    exact hE 29 _ dX5_append_29
abbrev rX5_inYear : Room := { frames := 0, cells := 0, slots := 0, locals := 0 }
theorem nX5_inYear : zNoMH yX5_inYear 1 := ⟨by decide +kernel, by decide +kernel, by decide +kernel⟩
theorem iX5_inYear_X5 : ∀ w ∈ wsX50, w ∈ wsX5_inYear := fun _ h => (List.mem_cons_of_mem _ (List.mem_append_right _ h))
def fX5_inYear (v : WV) (x1 : Int32) : Option Int32 := if v.2 = 0 then (some 0) else (zgrd (znz v.2) (zgrd (zix (x1 - x1 / v.2 * v.2) 8) (some (zgt v.1 (x1 - x1 / v.2 * v.2)))))
set_option maxRecDepth 100000 in
set_option maxHeartbeats 4000000 in
theorem tX5_inYear (l : Launch) (G : va_G) (ca : Nat → ClassId) (ad : Nat → Nat) (v : WV) (x1 : Int32) {o : Int32} (hf : fX5_inYear v x1 = some o) : zMi l yX5_inYear wsX5_inYear rX5_inYear G ca [.ref (ad 0), .int x1] (wW ca ad v) o (wW ca ad v) := by
  refine zMi.of (cc := cX5_inYear) (nL := 2) (own := RX5) (ty := .int) (by decide) rfl rfl (Nat.le_of_ble_eq_true rfl) (fun X h hE => ?_)
  show V X G 2 0 0 (wW ca ad v) 0 [(0, .ref (ad 0)), (1, .int x1)] []
  unfold fX5_inYear at hf
  refine v_aload_n h dX5_inYear_0 0 rfl 1 rfl ?_
  refine v_get h (v := .int v.2) dX5_inYear_1 iX5_inYear_X5 0 rfl rfl 1 (by decide) (zwi 1 rfl) rfl 4 rfl ?_
  refine v_if_ne h dX5_inYear_4 11 (by decide) 7 rfl (fun c1 => ?_) (fun c1 => ?_)
  · replace hf := zf c1 hf
    refine v_aload_n h dX5_inYear_11 0 rfl 12 rfl ?_
    refine v_get h (v := .ref (ad 1)) dX5_inYear_12 iX5_inYear_X5 0 rfl rfl 0 (by decide) (zwi 2 rfl) rfl 15 rfl ?_
    refine v_iload_n h dX5_inYear_15 1 rfl 16 rfl ?_
    refine v_aload_n h dX5_inYear_16 0 rfl 17 rfl ?_
    refine v_get h (v := .int v.2) dX5_inYear_17 iX5_inYear_X5 0 rfl rfl 1 (by decide) (zwi 1 rfl) rfl 20 rfl ?_
    obtain ⟨g2, hf⟩ := zg hf
    refine v_irem h dX5_inYear_20 (znz_ne g2) 21 rfl ?_
    obtain ⟨g3, hf⟩ := zg hf
    refine v_iald h (f := v.1) dX5_inYear_21 1 0 rfl rfl (zix_in g3) 22 rfl ?_
    cases (Option.some.inj hf)
    exact hE 22 _ rfl dX5_inYear_22
  · replace hf := zt c1 hf
    refine v_iconst h dX5_inYear_7 0 rfl 8 rfl ?_
    refine v_goto h dX5_inYear_8 22 (by decide) ?_
    cases (Option.some.inj hf)
    exact hE 22 _ rfl dX5_inYear_22
abbrev rX5_become : Room := { frames := 1, cells := 0, slots := 0, locals := 18 }
theorem nX5_become : zNoMH yX5_become 1 := ⟨by decide +kernel, by decide +kernel, by decide +kernel⟩
theorem iX5_become_X5 : ∀ w ∈ wsX50, w ∈ wsX5_become := fun _ h => (List.mem_cons_of_mem _ (List.mem_append_right _ h))
def fX5_become (v : WV) (w : WV) : Option WV := some ((zcpy w.1 v.1 0 0 8), w.2)
set_option maxRecDepth 100000 in
set_option maxHeartbeats 4000000 in
theorem tX5_become (l : Launch) (G : va_G) (ca : Nat → ClassId) (ad : Nat → Nat) (ad2 : Nat → Nat) (v : WV) (w : WV)  {o : WV} (hf : fX5_become v w = some o) : zMv l yX5_become wsX5_become rX5_become G ca [.ref (ad 0), .ref (ad2 0)] (wW ca ad v ++ wW ca ad2 w) (wW ca ad o ++ wW ca ad2 w) := by
  refine zMv.of (cc := cX5_become) (nL := 2) (own := RX5) (by decide) rfl rfl (Nat.le_of_ble_eq_true rfl) (fun X h hE => ?_)
  show V X G 2 0 0 (wW ca ad v ++ wW ca ad2 w) 0 [(0, .ref (ad 0)), (1, .ref (ad2 0))] []
  unfold fX5_become at hf
  refine v_aload_n h dX5_become_0 0 rfl 1 rfl ?_
  refine v_aload_n h dX5_become_1 1 rfl 2 rfl ?_
  refine v_get h (v := .int w.2) dX5_become_2 iX5_become_X5 2 rfl rfl 1 (by decide) (zwi 1 rfl) rfl 5 rfl ?_
  refine v_put h dX5_become_5 iX5_become_X5 tyX5 tyX5_ok nmX5 0 rfl rfl 1 (by decide) (zwi 1 rfl) rfl rfl rfl (Nat.le_of_ble_eq_true rfl) (wW ca ad (v.1, w.2) ++ wW ca ad2 w) rfl 8 rfl ?_
  refine v_aload_n h dX5_become_8 1 rfl 9 rfl ?_
  refine v_get h (v := .ref (ad2 1)) dX5_become_9 iX5_become_X5 2 rfl rfl 0 (by decide) (zwi 2 rfl) rfl 12 rfl ?_
  refine v_iconst h dX5_become_12 0 rfl 13 rfl ?_
  refine v_aload_n h dX5_become_13 0 rfl 14 rfl ?_
  refine v_get h (v := .ref (ad 1)) dX5_become_14 iX5_become_X5 0 rfl rfl 0 (by decide) (zwi 2 rfl) rfl 17 rfl ?_
  refine v_iconst h dX5_become_17 0 rfl 18 rfl ?_
  refine v_bipush h dX5_become_18 8 rfl 20 rfl ?_
  refine v_copyi h (f := w.1) (g := v.1) dX5_become_20 (zwi 3 rfl) (zwi 4 rfl) (zwi 5 rfl) (zwi 6 rfl) 3 1 0 rfl rfl rfl (by decide) (Nat.le_of_ble_eq_true rfl) (Nat.le_of_ble_eq_true rfl) (wW ca ad ((zcpy w.1 v.1 0 0 8), w.2) ++ wW ca ad2 w) rfl 23 rfl ?_
  cases (Option.some.inj hf)
  exact hE 23 _ dX5_become_23
