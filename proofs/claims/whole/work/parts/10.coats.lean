abbrev rX0_has : Room := { frames := 0, cells := 0, slots := 0, locals := 0 }
theorem nX0_has : zNoMH yX0_has 1 := ⟨by decide +kernel, by decide +kernel, by decide +kernel⟩
theorem iX0_has_X0 : ∀ w ∈ wsX00, w ∈ wsX0_has := fun _ h => (List.mem_cons_of_mem _ (List.mem_append_right _ h))
def fX0_has (v : CV) (x1 : Int32) : Option Int32 := if x1 < 0 then (some 0) else (if v.2.2.2.2.1 ≤ x1 then (some 0) else (some 1))
set_option maxRecDepth 100000 in
set_option maxHeartbeats 4000000 in
theorem tX0_has (l : Launch) (G : va_G) (ca : Nat → ClassId) (ad : Nat → Nat) (v : CV) (x1 : Int32) {o : Int32} (hf : fX0_has v x1 = some o) : zMi l yX0_has wsX0_has rX0_has G ca [.ref (ad 0), .int x1] (wC ca ad v) o (wC ca ad v) := by
  refine zMi.of (cc := cX0_has) (nL := 2) (own := RX0) (ty := .boolean) (by decide) rfl rfl (Nat.le_of_ble_eq_true rfl) (fun X h hE => ?_)
  show V X G 2 0 0 (wC ca ad v) 0 [(0, .ref (ad 0)), (1, .int x1)] []
  unfold fX0_has at hf
  refine v_iload_n h dX0_has_0 1 rfl 1 rfl ?_
  refine v_if_lt h dX0_has_1 16 (by decide) 4 rfl (fun c1 => ?_) (fun c1 => ?_)
  · replace hf := zt c1 hf
    refine v_iconst h dX0_has_16 0 rfl 17 rfl ?_
    cases (Option.some.inj hf)
    exact hE 17 _ znar0 dX0_has_17
  · replace hf := zf c1 hf
    refine v_iload_n h dX0_has_4 1 rfl 5 rfl ?_
    refine v_aload_n h dX0_has_5 0 rfl 6 rfl ?_
    refine v_get h (v := .int v.2.2.2.2.1) dX0_has_6 iX0_has_X0 0 rfl rfl 4 (by decide) (zwi 1 rfl) rfl 9 rfl ?_
    refine v_icmp_ge h dX0_has_9 16 (by decide) 12 rfl (fun c2 => ?_) (fun c2 => ?_)
    · replace hf := zt c2 hf
      refine v_iconst h dX0_has_16 0 rfl 17 rfl ?_
      cases (Option.some.inj hf)
      exact hE 17 _ znar0 dX0_has_17
    · replace hf := zf c2 hf
      refine v_iconst h dX0_has_12 1 rfl 13 rfl ?_
      refine v_goto h dX0_has_13 17 (by decide) ?_
      cases (Option.some.inj hf)
      exact hE 17 _ znar1 dX0_has_17
abbrev rX0_takenAsSedge : Room := { frames := 0, cells := 0, slots := 0, locals := 0 }
theorem nX0_takenAsSedge : zNoMH yX0_takenAsSedge 1 := ⟨by decide +kernel, by decide +kernel, by decide +kernel⟩
theorem iX0_takenAsSedge_X0 : ∀ w ∈ wsX00, w ∈ wsX0_takenAsSedge := fun _ h => (List.mem_cons_of_mem _ (List.mem_append_right _ h))
def fX0_takenAsSedge (v : CV) (x1 : Int32) : Option Int32 := zgrd (zix x1 10) (if (zgt v.2.2.1 x1) = 0 then (some ((zgt v.2.1 x1) + 2)) else (some (zgt v.2.1 x1)))
set_option maxRecDepth 100000 in
set_option maxHeartbeats 4000000 in
theorem tX0_takenAsSedge (l : Launch) (G : va_G) (ca : Nat → ClassId) (ad : Nat → Nat) (v : CV) (x1 : Int32) {o : Int32} (hf : fX0_takenAsSedge v x1 = some o) : zMi l yX0_takenAsSedge wsX0_takenAsSedge rX0_takenAsSedge G ca [.ref (ad 0), .int x1] (wC ca ad v) o (wC ca ad v) := by
  refine zMi.of (cc := cX0_takenAsSedge) (nL := 2) (own := RX0) (ty := .int) (by decide) rfl rfl (Nat.le_of_ble_eq_true rfl) (fun X h hE => ?_)
  show V X G 2 0 0 (wC ca ad v) 0 [(0, .ref (ad 0)), (1, .int x1)] []
  unfold fX0_takenAsSedge at hf
  refine v_aload_n h dX0_takenAsSedge_0 0 rfl 1 rfl ?_
  refine v_get h (v := .ref (ad 3)) dX0_takenAsSedge_1 iX0_takenAsSedge_X0 0 rfl rfl 2 (by decide) (zwi 1 rfl) rfl 4 rfl ?_
  refine v_iload_n h dX0_takenAsSedge_4 1 rfl 5 rfl ?_
  obtain ⟨g1, hf⟩ := zg hf
  refine v_iald h (f := v.2.2.1) dX0_takenAsSedge_5 3 0 rfl rfl (zix_in g1) 6 rfl ?_
  refine v_if_ne h dX0_takenAsSedge_6 20 (by decide) 9 rfl (fun c2 => ?_) (fun c2 => ?_)
  · replace hf := zf c2 hf
    refine v_aload_n h dX0_takenAsSedge_20 0 rfl 21 rfl ?_
    refine v_get h (v := .ref (ad 2)) dX0_takenAsSedge_21 iX0_takenAsSedge_X0 0 rfl rfl 1 (by decide) (zwi 2 rfl) rfl 24 rfl ?_
    refine v_iload_n h dX0_takenAsSedge_24 1 rfl 25 rfl ?_
    refine v_iald h (f := v.2.1) dX0_takenAsSedge_25 2 0 rfl rfl (zix_in g1) 26 rfl ?_
    cases (Option.some.inj hf)
    exact hE 26 _ rfl dX0_takenAsSedge_26
  · replace hf := zt c2 hf
    refine v_aload_n h dX0_takenAsSedge_9 0 rfl 10 rfl ?_
    refine v_get h (v := .ref (ad 2)) dX0_takenAsSedge_10 iX0_takenAsSedge_X0 0 rfl rfl 1 (by decide) (zwi 2 rfl) rfl 13 rfl ?_
    refine v_iload_n h dX0_takenAsSedge_13 1 rfl 14 rfl ?_
    refine v_iald h (f := v.2.1) dX0_takenAsSedge_14 2 0 rfl rfl (zix_in g1) 15 rfl ?_
    refine v_iconst h dX0_takenAsSedge_15 2 rfl 16 rfl ?_
    refine v_iadd h dX0_takenAsSedge_16 17 rfl ?_
    refine v_goto h dX0_takenAsSedge_17 26 (by decide) ?_
    cases (Option.some.inj hf)
    exact hE 26 _ rfl dX0_takenAsSedge_26
abbrev rX0_mostTaken : Room := { frames := 1, cells := 0, slots := 0, locals := 21 }
theorem nX0_mostTaken : zNoMH yX0_mostTaken 1 := ⟨by decide +kernel, by decide +kernel, by decide +kernel⟩
theorem iX0_mostTaken_X0 : ∀ w ∈ wsX00, w ∈ wsX0_mostTaken := fun _ h => (List.mem_cons_of_mem _ (List.mem_append_right _ h))
def fX0_mostTaken (v : CV) (x1 : Int32) : Option Int32 := zgrd (zix x1 10) (if (zgt v.1 x1) = 1 then (some ((zgt v.2.1 x1) / 2)) else (if (zgt v.1 x1) = 2 then (((fX0_takenAsSedge v x1) : Option Int32).bind (fun u4 => some u4)) else (if (zgt v.1 x1) = 3 then (some (((zgt v.2.1 x1) / 2) + (v.2.2.2.2.2.1 - v.2.2.2.2.2.1 / 2 * 2))) else (if (zgt v.1 x1) = 4 then (((fX0_takenAsSedge v x1) : Option Int32).bind (fun u7 => some (2 * u7))) else (some (zgt v.2.1 x1))))))
set_option maxRecDepth 100000 in
set_option maxHeartbeats 4000000 in
theorem tX0_mostTaken (l : Launch) (G : va_G) (ca : Nat → ClassId) (ad : Nat → Nat) (v : CV) (x1 : Int32) {o : Int32} (hf : fX0_mostTaken v x1 = some o) : zMi l yX0_mostTaken wsX0_mostTaken rX0_mostTaken G ca [.ref (ad 0), .int x1] (wC ca ad v) o (wC ca ad v) := by
  refine zMi.of (cc := cX0_mostTaken) (nL := 2) (own := RX0) (ty := .int) (by decide) rfl rfl (Nat.le_of_ble_eq_true rfl) (fun X h hE => ?_)
  show V X G 2 0 0 (wC ca ad v) 0 [(0, .ref (ad 0)), (1, .int x1)] []
  unfold fX0_mostTaken at hf
  refine v_aload_n h dX0_mostTaken_0 0 rfl 1 rfl ?_
  refine v_get h (v := .ref (ad 1)) dX0_mostTaken_1 iX0_mostTaken_X0 0 rfl rfl 0 (by decide) (zwi 1 rfl) rfl 4 rfl ?_
  refine v_iload_n h dX0_mostTaken_4 1 rfl 5 rfl ?_
  obtain ⟨g1, hf⟩ := zg hf
  refine v_iald h (f := v.1) dX0_mostTaken_5 1 0 rfl rfl (zix_in g1) 6 rfl ?_
  by_cases c2 : (zgt v.1 x1) = 1
  · replace hf := zt c2 hf
    refine v_tsIn h dX0_mostTaken_6 c2 (by decide) (by decide) rfl 36 (by decide) ?_
    refine v_aload_n h dX0_mostTaken_36 0 rfl 37 rfl ?_
    refine v_get h (v := .ref (ad 2)) dX0_mostTaken_37 iX0_mostTaken_X0 0 rfl rfl 1 (by decide) (zwi 2 rfl) rfl 40 rfl ?_
    refine v_iload_n h dX0_mostTaken_40 1 rfl 41 rfl ?_
    refine v_iald h (f := v.2.1) dX0_mostTaken_41 2 0 rfl rfl (zix_in g1) 42 rfl ?_
    refine v_iconst h dX0_mostTaken_42 2 rfl 43 rfl ?_
    refine v_idiv h dX0_mostTaken_43 (by decide) 44 rfl ?_
    cases (Option.some.inj hf)
    exact hE 44 _ rfl dX0_mostTaken_44
  · replace hf := zf c2 hf
    by_cases c3 : (zgt v.1 x1) = 2
    · replace hf := zt c3 hf
      refine v_tsIn h dX0_mostTaken_6 c3 (by decide) (by decide) rfl 45 (by decide) ?_
      refine v_aload_n h dX0_mostTaken_45 0 rfl 46 rfl ?_
      refine v_iload_n h dX0_mostTaken_46 1 rfl 47 rfl ?_
      obtain ⟨u4, hu4, hf⟩ := zb hf
      refine v_wcallVi h (rest := []) dX0_mostTaken_47 (tX0_takenAsSedge l G ca ad v x1 hu4) gX0_mostTaken_X0_takenAsSedge rfl rfl ⟨rfl, rfl⟩ nX0_takenAsSedge ⟨Nat.le_of_ble_eq_true rfl, Nat.le_of_ble_eq_true rfl⟩ 0 rfl rfl rfl rfl (Nat.le_of_ble_eq_true rfl) ⟨Nat.zero_le _, Nat.zero_le _⟩ (wC_adr _ _ _ _) 50 rfl ?_
      cases (Option.some.inj hf)
      exact hE 50 _ rfl dX0_mostTaken_50
    · replace hf := zf c3 hf
      by_cases c5 : (zgt v.1 x1) = 3
      · replace hf := zt c5 hf
        refine v_tsIn h dX0_mostTaken_6 c5 (by decide) (by decide) rfl 51 (by decide) ?_
        refine v_aload_n h dX0_mostTaken_51 0 rfl 52 rfl ?_
        refine v_get h (v := .ref (ad 2)) dX0_mostTaken_52 iX0_mostTaken_X0 0 rfl rfl 1 (by decide) (zwi 2 rfl) rfl 55 rfl ?_
        refine v_iload_n h dX0_mostTaken_55 1 rfl 56 rfl ?_
        refine v_iald h (f := v.2.1) dX0_mostTaken_56 2 0 rfl rfl (zix_in g1) 57 rfl ?_
        refine v_iconst h dX0_mostTaken_57 2 rfl 58 rfl ?_
        refine v_idiv h dX0_mostTaken_58 (by decide) 59 rfl ?_
        refine v_aload_n h dX0_mostTaken_59 0 rfl 60 rfl ?_
        refine v_get h (v := .int v.2.2.2.2.2.1) dX0_mostTaken_60 iX0_mostTaken_X0 0 rfl rfl 5 (by decide) (zwi 3 rfl) rfl 63 rfl ?_
        refine v_iconst h dX0_mostTaken_63 2 rfl 64 rfl ?_
        refine v_irem h dX0_mostTaken_64 (by decide) 65 rfl ?_
        refine v_iadd h dX0_mostTaken_65 66 rfl ?_
        cases (Option.some.inj hf)
        exact hE 66 _ rfl dX0_mostTaken_66
      · replace hf := zf c5 hf
        by_cases c6 : (zgt v.1 x1) = 4
        · replace hf := zt c6 hf
          refine v_tsIn h dX0_mostTaken_6 c6 (by decide) (by decide) rfl 67 (by decide) ?_
          refine v_iconst h dX0_mostTaken_67 2 rfl 68 rfl ?_
          refine v_aload_n h dX0_mostTaken_68 0 rfl 69 rfl ?_
          refine v_iload_n h dX0_mostTaken_69 1 rfl 70 rfl ?_
          obtain ⟨u7, hu7, hf⟩ := zb hf
          refine v_wcallVi h (rest := [.int 2]) dX0_mostTaken_70 (tX0_takenAsSedge l G ca ad v x1 hu7) gX0_mostTaken_X0_takenAsSedge rfl rfl ⟨rfl, rfl⟩ nX0_takenAsSedge ⟨Nat.le_of_ble_eq_true rfl, Nat.le_of_ble_eq_true rfl⟩ 0 rfl rfl rfl rfl (Nat.le_of_ble_eq_true rfl) ⟨Nat.zero_le _, Nat.zero_le _⟩ (wC_adr _ _ _ _) 73 rfl ?_
          refine v_imul h dX0_mostTaken_73 74 rfl ?_
          cases (Option.some.inj hf)
          exact hE 74 _ rfl dX0_mostTaken_74
        · replace hf := zf c6 hf
          refine v_tsOut h dX0_mostTaken_6 (by have := lv_neT c2 (a := 1) (by decide); have := lv_neT c3 (a := 2) (by decide); have := lv_neT c5 (a := 3) (by decide); have := lv_neT c6 (a := 4) (by decide); omega) 75 (by decide) ?_
          refine v_aload_n h dX0_mostTaken_75 0 rfl 76 rfl ?_
          refine v_get h (v := .ref (ad 2)) dX0_mostTaken_76 iX0_mostTaken_X0 0 rfl rfl 1 (by decide) (zwi 2 rfl) rfl 79 rfl ?_
          refine v_iload_n h dX0_mostTaken_79 1 rfl 80 rfl ?_
          refine v_iald h (f := v.2.1) dX0_mostTaken_80 2 0 rfl rfl (zix_in g1) 81 rfl ?_
          cases (Option.some.inj hf)
          exact hE 81 _ rfl dX0_mostTaken_81
abbrev rX0_mostTakenAbove : Room := { frames := 2, cells := 0, slots := 0, locals := 42 }
theorem nX0_mostTakenAbove : zNoMH yX0_mostTakenAbove 1 := ⟨by decide +kernel, by decide +kernel, by decide +kernel⟩
theorem iX0_mostTakenAbove_X0 : ∀ w ∈ wsX00, w ∈ wsX0_mostTakenAbove := fun _ h => (List.mem_cons_of_mem _ (List.mem_append_right _ h))
def fX0_mostTakenAbove_L6 : Nat → CV → Int32 → Int32 → Option Int32
  | 0, _, _, _ => none
  | n + 1, v, x2, x3 => if v.2.2.2.2.1 ≤ x3 then (some x2) else (((fX0_mostTaken v x3) : Option Int32).bind (fun u2 => fX0_mostTakenAbove_L6 n v (x2 + u2) (x3 + 1)))
set_option maxRecDepth 100000 in
set_option maxHeartbeats 4000000 in
theorem tX0_mostTakenAbove_l6 {X : zX} {l : Launch} {G : va_G} {ca : Nat → ClassId} {ad : Nat → Nat} (h : zOk X l G ca cX0_mostTakenAbove RX0 wsX0_mostTakenAbove 4 rX0_mostTakenAbove) : ∀ (n : Nat) (v : CV) (x2 : Int32) (x3 : Int32) (out : Int32), fX0_mostTakenAbove_L6 n v x2 x3 = some out → (V X G 4 0 0 (wC ca ad v) 28 [(2, .int out)] []) → V X G 4 0 0 (wC ca ad v) 6 [(0, .ref (ad 0)), (2, .int x2), (3, .int x3)] [] := by
  intro n
  induction n with
  | zero => intro v x2 x3 out hf; rw [fX0_mostTakenAbove_L6] at hf; cases hf
  | succ n ih =>
    intro v x2 x3 out hf kx
    rw [fX0_mostTakenAbove_L6] at hf
    refine v_iload_n h dX0_mostTakenAbove_6 2 rfl 7 rfl ?_
    refine v_aload_n h dX0_mostTakenAbove_7 0 rfl 8 rfl ?_
    refine v_get h (v := .int v.2.2.2.2.1) dX0_mostTakenAbove_8 iX0_mostTakenAbove_X0 0 rfl rfl 4 (by decide) (zwi 1 rfl) rfl 11 rfl ?_
    refine v_icmp_ge h dX0_mostTakenAbove_11 28 (by decide) 14 rfl (fun c1 => ?_) (fun c1 => ?_)
    · replace hf := zt c1 hf
      cases (Option.some.inj hf)
      exact v_sub [1] rfl (kx)
    · replace hf := zf c1 hf
      refine v_iload_n h dX0_mostTakenAbove_14 1 rfl 15 rfl ?_
      refine v_aload_n h dX0_mostTakenAbove_15 0 rfl 16 rfl ?_
      refine v_iload_n h dX0_mostTakenAbove_16 2 rfl 17 rfl ?_
      obtain ⟨u2, hu2, hf⟩ := zb hf
      refine v_wcallVi h (rest := [.int x2]) dX0_mostTakenAbove_17 (tX0_mostTaken l G ca ad v x3 hu2) gX0_mostTakenAbove_X0_mostTaken rfl rfl ⟨rfl, rfl⟩ nX0_mostTaken ⟨Nat.le_of_ble_eq_true rfl, Nat.le_of_ble_eq_true rfl⟩ 0 rfl rfl rfl rfl (Nat.le_of_ble_eq_true rfl) ⟨Nat.zero_le _, Nat.zero_le _⟩ (wC_adr _ _ _ _) 20 rfl ?_
      refine v_iadd h dX0_mostTakenAbove_20 21 rfl ?_
      refine v_istore_n h dX0_mostTakenAbove_21 (Nat.le_of_ble_eq_true rfl) rfl rfl [(0, .ref (ad 0)), (2, .int (x2 + u2)), (3, .int x3)] rfl 22 rfl ?_
      refine v_iinc h dX0_mostTakenAbove_22 2 rfl (x3 + 1) rfl (Nat.le_of_ble_eq_true rfl) rfl rfl [(0, .ref (ad 0)), (2, .int (x2 + u2)), (3, .int (x3 + 1))] rfl 25 rfl ?_
      refine v_goto h dX0_mostTakenAbove_25 6 (by decide) ?_
      exact v_sub [0, 1, 2] rfl (ih v (x2 + u2) (x3 + 1) _ hf kx)
def fX0_mostTakenAbove (v : CV) (x1 : Int32) : Option Int32 := ((fX0_mostTakenAbove_L6 zF v 0 (x1 + 1)) : Option Int32).bind (fun u1 => some u1)
set_option maxRecDepth 100000 in
set_option maxHeartbeats 4000000 in
theorem tX0_mostTakenAbove (l : Launch) (G : va_G) (ca : Nat → ClassId) (ad : Nat → Nat) (v : CV) (x1 : Int32) {o : Int32} (hf : fX0_mostTakenAbove v x1 = some o) : zMi l yX0_mostTakenAbove wsX0_mostTakenAbove rX0_mostTakenAbove G ca [.ref (ad 0), .int x1] (wC ca ad v) o (wC ca ad v) := by
  refine zMi.of (cc := cX0_mostTakenAbove) (nL := 4) (own := RX0) (ty := .int) (by decide) rfl rfl (Nat.le_of_ble_eq_true rfl) (fun X h hE => ?_)
  show V X G 4 0 0 (wC ca ad v) 0 [(0, .ref (ad 0)), (1, .int x1)] []
  unfold fX0_mostTakenAbove at hf
  refine v_iconst h dX0_mostTakenAbove_0 0 rfl 1 rfl ?_
  refine v_istore_n h dX0_mostTakenAbove_1 (Nat.le_of_ble_eq_true rfl) rfl rfl [(0, .ref (ad 0)), (1, .int x1), (2, .int 0)] rfl 2 rfl ?_
  refine v_iload_n h dX0_mostTakenAbove_2 1 rfl 3 rfl ?_
  refine v_iconst h dX0_mostTakenAbove_3 1 rfl 4 rfl ?_
  refine v_iadd h dX0_mostTakenAbove_4 5 rfl ?_
  refine v_istore_n h dX0_mostTakenAbove_5 (Nat.le_of_ble_eq_true rfl) rfl rfl [(0, .ref (ad 0)), (1, .int x1), (2, .int 0), (3, .int (x1 + 1))] rfl 6 rfl ?_
  obtain ⟨u1, hu1, hf⟩ := zb hf
  refine v_sub [0, 2, 3] rfl ?_
  refine tX0_mostTakenAbove_l6 h zF v 0 (x1 + 1) _ hu1 ?_
  refine v_iload_n h dX0_mostTakenAbove_28 0 rfl 29 rfl ?_
  cases (Option.some.inj hf)
  exact hE 29 _ rfl dX0_mostTakenAbove_29
abbrev rX0_reachedBy : Room := { frames := 2, cells := 0, slots := 0, locals := 42 }
theorem nX0_reachedBy : zNoMH yX0_reachedBy 1 := ⟨by decide +kernel, by decide +kernel, by decide +kernel⟩
theorem iX0_reachedBy_X0 : ∀ w ∈ wsX00, w ∈ wsX0_reachedBy := fun _ h => (List.mem_cons_of_mem _ (List.mem_append_right _ h))
def fX0_reachedBy_L12 : Nat → CV → Int32 → Int32 → Int32 → Option Int32
  | 0, _, _, _, _ => none
  | n + 1, v, x2, x3, x4 => if x4 < 0 then (some x2) else (if x3 ≤ 0 then (some x2) else (((fX0_mostTaken v x4) : Option Int32).bind (fun u3 => fX0_reachedBy_L12 n v (x2 + 1) (x3 - u3) (x4 + (-1)))))
set_option maxRecDepth 100000 in
set_option maxHeartbeats 4000000 in
theorem tX0_reachedBy_l12 {X : zX} {l : Launch} {G : va_G} {ca : Nat → ClassId} {ad : Nat → Nat} (h : zOk X l G ca cX0_reachedBy RX0 wsX0_reachedBy 5 rX0_reachedBy) : ∀ (n : Nat) (v : CV) (x2 : Int32) (x3 : Int32) (x4 : Int32) (out : Int32), fX0_reachedBy_L12 n v x2 x3 x4 = some out → (V X G 5 0 0 (wC ca ad v) 39 [(2, .int out)] []) → V X G 5 0 0 (wC ca ad v) 12 [(0, .ref (ad 0)), (2, .int x2), (3, .int x3), (4, .int x4)] [] := by
  intro n
  induction n with
  | zero => intro v x2 x3 x4 out hf; rw [fX0_reachedBy_L12] at hf; cases hf
  | succ n ih =>
    intro v x2 x3 x4 out hf kx
    rw [fX0_reachedBy_L12] at hf
    refine v_iload h dX0_reachedBy_12 3 rfl 14 rfl ?_
    refine v_if_lt h dX0_reachedBy_14 39 (by decide) 17 rfl (fun c1 => ?_) (fun c1 => ?_)
    · replace hf := zt c1 hf
      cases (Option.some.inj hf)
      exact v_sub [1] rfl (kx)
    · replace hf := zf c1 hf
      refine v_iload_n h dX0_reachedBy_17 2 rfl 18 rfl ?_
      refine v_if_le h dX0_reachedBy_18 39 (by decide) 21 rfl (fun c2 => ?_) (fun c2 => ?_)
      · replace hf := zt c2 hf
        cases (Option.some.inj hf)
        exact v_sub [1] rfl (kx)
      · replace hf := zf c2 hf
        refine v_iinc h dX0_reachedBy_21 1 rfl (x2 + 1) rfl (Nat.le_of_ble_eq_true rfl) rfl rfl [(0, .ref (ad 0)), (2, .int (x2 + 1)), (3, .int x3), (4, .int x4)] rfl 24 rfl ?_
        refine v_iload_n h dX0_reachedBy_24 2 rfl 25 rfl ?_
        refine v_aload_n h dX0_reachedBy_25 0 rfl 26 rfl ?_
        refine v_iload h dX0_reachedBy_26 3 rfl 28 rfl ?_
        obtain ⟨u3, hu3, hf⟩ := zb hf
        refine v_wcallVi h (rest := [.int x3]) dX0_reachedBy_28 (tX0_mostTaken l G ca ad v x4 hu3) gX0_reachedBy_X0_mostTaken rfl rfl ⟨rfl, rfl⟩ nX0_mostTaken ⟨Nat.le_of_ble_eq_true rfl, Nat.le_of_ble_eq_true rfl⟩ 0 rfl rfl rfl rfl (Nat.le_of_ble_eq_true rfl) ⟨Nat.zero_le _, Nat.zero_le _⟩ (wC_adr _ _ _ _) 31 rfl ?_
        refine v_isub h dX0_reachedBy_31 32 rfl ?_
        refine v_istore_n h dX0_reachedBy_32 (Nat.le_of_ble_eq_true rfl) rfl rfl [(0, .ref (ad 0)), (2, .int (x2 + 1)), (3, .int (x3 - u3)), (4, .int x4)] rfl 33 rfl ?_
        refine v_iinc h dX0_reachedBy_33 3 rfl (x4 + (-1)) rfl (Nat.le_of_ble_eq_true rfl) rfl rfl [(0, .ref (ad 0)), (2, .int (x2 + 1)), (3, .int (x3 - u3)), (4, .int (x4 + (-1)))] rfl 36 rfl ?_
        refine v_goto h dX0_reachedBy_36 12 (by decide) ?_
        exact v_sub [0, 1, 2, 3] rfl (ih v (x2 + 1) (x3 - u3) (x4 + (-1)) _ hf kx)
def fX0_reachedBy (v : CV) (x1 : Int32) : Option Int32 := ((fX0_reachedBy_L12 zF v 0 x1 (v.2.2.2.2.1 - 1)) : Option Int32).bind (fun u1 => some u1)
set_option maxRecDepth 100000 in
set_option maxHeartbeats 4000000 in
theorem tX0_reachedBy (l : Launch) (G : va_G) (ca : Nat → ClassId) (ad : Nat → Nat) (v : CV) (x1 : Int32) {o : Int32} (hf : fX0_reachedBy v x1 = some o) : zMi l yX0_reachedBy wsX0_reachedBy rX0_reachedBy G ca [.ref (ad 0), .int x1] (wC ca ad v) o (wC ca ad v) := by
  refine zMi.of (cc := cX0_reachedBy) (nL := 5) (own := RX0) (ty := .int) (by decide) rfl rfl (Nat.le_of_ble_eq_true rfl) (fun X h hE => ?_)
  show V X G 5 0 0 (wC ca ad v) 0 [(0, .ref (ad 0)), (1, .int x1)] []
  unfold fX0_reachedBy at hf
  refine v_iconst h dX0_reachedBy_0 0 rfl 1 rfl ?_
  refine v_istore_n h dX0_reachedBy_1 (Nat.le_of_ble_eq_true rfl) rfl rfl [(0, .ref (ad 0)), (1, .int x1), (2, .int 0)] rfl 2 rfl ?_
  refine v_iload_n h dX0_reachedBy_2 1 rfl 3 rfl ?_
  refine v_istore_n h dX0_reachedBy_3 (Nat.le_of_ble_eq_true rfl) rfl rfl [(0, .ref (ad 0)), (1, .int x1), (2, .int 0), (3, .int x1)] rfl 4 rfl ?_
  refine v_aload_n h dX0_reachedBy_4 0 rfl 5 rfl ?_
  refine v_get h (v := .int v.2.2.2.2.1) dX0_reachedBy_5 iX0_reachedBy_X0 0 rfl rfl 4 (by decide) (zwi 1 rfl) rfl 8 rfl ?_
  refine v_iconst h dX0_reachedBy_8 1 rfl 9 rfl ?_
  refine v_isub h dX0_reachedBy_9 10 rfl ?_
  refine v_istore h dX0_reachedBy_10 (Nat.le_of_ble_eq_true rfl) rfl rfl [(0, .ref (ad 0)), (1, .int x1), (2, .int 0), (3, .int x1), (4, .int (v.2.2.2.2.1 - 1))] rfl 12 rfl ?_
  obtain ⟨u1, hu1, hf⟩ := zb hf
  refine v_sub [0, 2, 3, 4] rfl ?_
  refine tX0_reachedBy_l12 h zF v 0 x1 (v.2.2.2.2.1 - 1) _ hu1 ?_
  refine v_iload_n h dX0_reachedBy_39 0 rfl 40 rfl ?_
  cases (Option.some.inj hf)
  exact hE 40 _ rfl dX0_reachedBy_40
abbrev rX0_heavinessOf : Room := { frames := 0, cells := 0, slots := 0, locals := 0 }
theorem nX0_heavinessOf : zNoMH yX0_heavinessOf 1 := ⟨by decide +kernel, by decide +kernel, by decide +kernel⟩
theorem iX0_heavinessOf_X0 : ∀ w ∈ wsX00, w ∈ wsX0_heavinessOf := fun _ h => (List.mem_cons_of_mem _ (List.mem_append_right _ h))
def fX0_heavinessOf (v : CV) (x1 : Int32) : Option Int32 := zgrd (zix x1 10) (some ((zgt v.2.1 x1) + (zgt v.2.2.1 x1)))
set_option maxRecDepth 100000 in
set_option maxHeartbeats 4000000 in
theorem tX0_heavinessOf (l : Launch) (G : va_G) (ca : Nat → ClassId) (ad : Nat → Nat) (v : CV) (x1 : Int32) {o : Int32} (hf : fX0_heavinessOf v x1 = some o) : zMi l yX0_heavinessOf wsX0_heavinessOf rX0_heavinessOf G ca [.ref (ad 0), .int x1] (wC ca ad v) o (wC ca ad v) := by
  refine zMi.of (cc := cX0_heavinessOf) (nL := 2) (own := RX0) (ty := .int) (by decide) rfl rfl (Nat.le_of_ble_eq_true rfl) (fun X h hE => ?_)
  show V X G 2 0 0 (wC ca ad v) 0 [(0, .ref (ad 0)), (1, .int x1)] []
  unfold fX0_heavinessOf at hf
  refine v_aload_n h dX0_heavinessOf_0 0 rfl 1 rfl ?_
  refine v_get h (v := .ref (ad 2)) dX0_heavinessOf_1 iX0_heavinessOf_X0 0 rfl rfl 1 (by decide) (zwi 1 rfl) rfl 4 rfl ?_
  refine v_iload_n h dX0_heavinessOf_4 1 rfl 5 rfl ?_
  obtain ⟨g1, hf⟩ := zg hf
  refine v_iald h (f := v.2.1) dX0_heavinessOf_5 2 0 rfl rfl (zix_in g1) 6 rfl ?_
  refine v_aload_n h dX0_heavinessOf_6 0 rfl 7 rfl ?_
  refine v_get h (v := .ref (ad 3)) dX0_heavinessOf_7 iX0_heavinessOf_X0 0 rfl rfl 2 (by decide) (zwi 2 rfl) rfl 10 rfl ?_
  refine v_iload_n h dX0_heavinessOf_10 1 rfl 11 rfl ?_
  refine v_iald h (f := v.2.2.1) dX0_heavinessOf_11 3 0 rfl rfl (zix_in g1) 12 rfl ?_
  refine v_iadd h dX0_heavinessOf_12 13 rfl ?_
  cases (Option.some.inj hf)
  exact hE 13 _ rfl dX0_heavinessOf_13
abbrev rX0_heaviness : Room := { frames := 1, cells := 0, slots := 0, locals := 21 }
theorem nX0_heaviness : zNoMH yX0_heaviness 0 := ⟨by decide +kernel, by decide +kernel, by decide +kernel⟩
theorem iX0_heaviness_X0 : ∀ w ∈ wsX00, w ∈ wsX0_heaviness := fun _ h => (List.mem_cons_of_mem _ (List.mem_append_right _ h))
def fX0_heaviness_L4 : Nat → CV → Int32 → Int32 → Option Int32
  | 0, _, _, _ => none
  | n + 1, v, x1, x2 => if v.2.2.2.2.1 ≤ x2 then (some x1) else (((fX0_heavinessOf v x2) : Option Int32).bind (fun u2 => fX0_heaviness_L4 n v (x1 + u2) (x2 + 1)))
set_option maxRecDepth 100000 in
set_option maxHeartbeats 4000000 in
theorem tX0_heaviness_l4 {X : zX} {l : Launch} {G : va_G} {ca : Nat → ClassId} {ad : Nat → Nat} (h : zOk X l G ca cX0_heaviness RX0 wsX0_heaviness 3 rX0_heaviness) : ∀ (n : Nat) (v : CV) (x1 : Int32) (x2 : Int32) (out : Int32), fX0_heaviness_L4 n v x1 x2 = some out → (V X G 3 0 0 (wC ca ad v) 26 [(1, .int out)] []) → V X G 3 0 0 (wC ca ad v) 4 [(0, .ref (ad 0)), (1, .int x1), (2, .int x2)] [] := by
  intro n
  induction n with
  | zero => intro v x1 x2 out hf; rw [fX0_heaviness_L4] at hf; cases hf
  | succ n ih =>
    intro v x1 x2 out hf kx
    rw [fX0_heaviness_L4] at hf
    refine v_iload_n h dX0_heaviness_4 2 rfl 5 rfl ?_
    refine v_aload_n h dX0_heaviness_5 0 rfl 6 rfl ?_
    refine v_get h (v := .int v.2.2.2.2.1) dX0_heaviness_6 iX0_heaviness_X0 0 rfl rfl 4 (by decide) (zwi 1 rfl) rfl 9 rfl ?_
    refine v_icmp_ge h dX0_heaviness_9 26 (by decide) 12 rfl (fun c1 => ?_) (fun c1 => ?_)
    · replace hf := zt c1 hf
      cases (Option.some.inj hf)
      exact v_sub [1] rfl (kx)
    · replace hf := zf c1 hf
      refine v_iload_n h dX0_heaviness_12 1 rfl 13 rfl ?_
      refine v_aload_n h dX0_heaviness_13 0 rfl 14 rfl ?_
      refine v_iload_n h dX0_heaviness_14 2 rfl 15 rfl ?_
      obtain ⟨u2, hu2, hf⟩ := zb hf
      refine v_wcallVi h (rest := [.int x1]) dX0_heaviness_15 (tX0_heavinessOf l G ca ad v x2 hu2) gX0_heaviness_X0_heavinessOf rfl rfl ⟨rfl, rfl⟩ nX0_heavinessOf ⟨Nat.le_of_ble_eq_true rfl, Nat.le_of_ble_eq_true rfl⟩ 0 rfl rfl rfl rfl (Nat.le_of_ble_eq_true rfl) ⟨Nat.zero_le _, Nat.zero_le _⟩ (wC_adr _ _ _ _) 18 rfl ?_
      refine v_iadd h dX0_heaviness_18 19 rfl ?_
      refine v_istore_n h dX0_heaviness_19 (Nat.le_of_ble_eq_true rfl) rfl rfl [(0, .ref (ad 0)), (1, .int (x1 + u2)), (2, .int x2)] rfl 20 rfl ?_
      refine v_iinc h dX0_heaviness_20 2 rfl (x2 + 1) rfl (Nat.le_of_ble_eq_true rfl) rfl rfl [(0, .ref (ad 0)), (1, .int (x1 + u2)), (2, .int (x2 + 1))] rfl 23 rfl ?_
      refine v_goto h dX0_heaviness_23 4 (by decide) ?_
      exact v_sub [0, 1, 2] rfl (ih v (x1 + u2) (x2 + 1) _ hf kx)
def fX0_heaviness (v : CV) : Option Int32 := ((fX0_heaviness_L4 zF v 0 0) : Option Int32).bind (fun u1 => some u1)
set_option maxRecDepth 100000 in
set_option maxHeartbeats 4000000 in
theorem tX0_heaviness (l : Launch) (G : va_G) (ca : Nat → ClassId) (ad : Nat → Nat) (v : CV)  {o : Int32} (hf : fX0_heaviness v = some o) : zMi l yX0_heaviness wsX0_heaviness rX0_heaviness G ca [.ref (ad 0)] (wC ca ad v) o (wC ca ad v) := by
  refine zMi.of (cc := cX0_heaviness) (nL := 3) (own := RX0) (ty := .int) (by decide) rfl rfl (Nat.le_of_ble_eq_true rfl) (fun X h hE => ?_)
  show V X G 3 0 0 (wC ca ad v) 0 [(0, .ref (ad 0))] []
  unfold fX0_heaviness at hf
  refine v_iconst h dX0_heaviness_0 0 rfl 1 rfl ?_
  refine v_istore_n h dX0_heaviness_1 (Nat.le_of_ble_eq_true rfl) rfl rfl [(0, .ref (ad 0)), (1, .int 0)] rfl 2 rfl ?_
  refine v_iconst h dX0_heaviness_2 0 rfl 3 rfl ?_
  refine v_istore_n h dX0_heaviness_3 (Nat.le_of_ble_eq_true rfl) rfl rfl [(0, .ref (ad 0)), (1, .int 0), (2, .int 0)] rfl 4 rfl ?_
  obtain ⟨u1, hu1, hf⟩ := zb hf
  refine v_sub [0, 1, 2] rfl ?_
  refine tX0_heaviness_l4 h zF v 0 0 _ hu1 ?_
  refine v_iload_n h dX0_heaviness_26 0 rfl 27 rfl ?_
  cases (Option.some.inj hf)
  exact hE 27 _ rfl dX0_heaviness_27
abbrev rX0_thickness : Room := { frames := 0, cells := 0, slots := 0, locals := 0 }
theorem nX0_thickness : zNoMH yX0_thickness 0 := ⟨by decide +kernel, by decide +kernel, by decide +kernel⟩
theorem iX0_thickness_X0 : ∀ w ∈ wsX00, w ∈ wsX0_thickness := fun _ h => (List.mem_cons_of_mem _ (List.mem_append_right _ h))
def fX0_thickness_L4 : Nat → CV → Int32 → Int32 → Option Int32
  | 0, _, _, _ => none
  | n + 1, v, x1, x2 => if v.2.2.2.2.1 ≤ x2 then (some x1) else (zgrd (zix x2 10) (fX0_thickness_L4 n v (x1 + (zgt v.2.1 x2)) (x2 + 1)))
set_option maxRecDepth 100000 in
set_option maxHeartbeats 4000000 in
theorem tX0_thickness_l4 {X : zX} {l : Launch} {G : va_G} {ca : Nat → ClassId} {ad : Nat → Nat} (h : zOk X l G ca cX0_thickness RX0 wsX0_thickness 3 rX0_thickness) : ∀ (n : Nat) (v : CV) (x1 : Int32) (x2 : Int32) (out : Int32), fX0_thickness_L4 n v x1 x2 = some out → (V X G 3 0 0 (wC ca ad v) 27 [(1, .int out)] []) → V X G 3 0 0 (wC ca ad v) 4 [(0, .ref (ad 0)), (1, .int x1), (2, .int x2)] [] := by
  intro n
  induction n with
  | zero => intro v x1 x2 out hf; rw [fX0_thickness_L4] at hf; cases hf
  | succ n ih =>
    intro v x1 x2 out hf kx
    rw [fX0_thickness_L4] at hf
    refine v_iload_n h dX0_thickness_4 2 rfl 5 rfl ?_
    refine v_aload_n h dX0_thickness_5 0 rfl 6 rfl ?_
    refine v_get h (v := .int v.2.2.2.2.1) dX0_thickness_6 iX0_thickness_X0 0 rfl rfl 4 (by decide) (zwi 1 rfl) rfl 9 rfl ?_
    refine v_icmp_ge h dX0_thickness_9 27 (by decide) 12 rfl (fun c1 => ?_) (fun c1 => ?_)
    · replace hf := zt c1 hf
      cases (Option.some.inj hf)
      exact v_sub [1] rfl (kx)
    · replace hf := zf c1 hf
      refine v_iload_n h dX0_thickness_12 1 rfl 13 rfl ?_
      refine v_aload_n h dX0_thickness_13 0 rfl 14 rfl ?_
      refine v_get h (v := .ref (ad 2)) dX0_thickness_14 iX0_thickness_X0 0 rfl rfl 1 (by decide) (zwi 2 rfl) rfl 17 rfl ?_
      refine v_iload_n h dX0_thickness_17 2 rfl 18 rfl ?_
      obtain ⟨g2, hf⟩ := zg hf
      refine v_iald h (f := v.2.1) dX0_thickness_18 2 0 rfl rfl (zix_in g2) 19 rfl ?_
      refine v_iadd h dX0_thickness_19 20 rfl ?_
      refine v_istore_n h dX0_thickness_20 (Nat.le_of_ble_eq_true rfl) rfl rfl [(0, .ref (ad 0)), (1, .int (x1 + (zgt v.2.1 x2))), (2, .int x2)] rfl 21 rfl ?_
      refine v_iinc h dX0_thickness_21 2 rfl (x2 + 1) rfl (Nat.le_of_ble_eq_true rfl) rfl rfl [(0, .ref (ad 0)), (1, .int (x1 + (zgt v.2.1 x2))), (2, .int (x2 + 1))] rfl 24 rfl ?_
      refine v_goto h dX0_thickness_24 4 (by decide) ?_
      exact v_sub [0, 1, 2] rfl (ih v (x1 + (zgt v.2.1 x2)) (x2 + 1) _ hf kx)
def fX0_thickness (v : CV) : Option Int32 := ((fX0_thickness_L4 zF v 0 0) : Option Int32).bind (fun u1 => some u1)
set_option maxRecDepth 100000 in
set_option maxHeartbeats 4000000 in
theorem tX0_thickness (l : Launch) (G : va_G) (ca : Nat → ClassId) (ad : Nat → Nat) (v : CV)  {o : Int32} (hf : fX0_thickness v = some o) : zMi l yX0_thickness wsX0_thickness rX0_thickness G ca [.ref (ad 0)] (wC ca ad v) o (wC ca ad v) := by
  refine zMi.of (cc := cX0_thickness) (nL := 3) (own := RX0) (ty := .int) (by decide) rfl rfl (Nat.le_of_ble_eq_true rfl) (fun X h hE => ?_)
  show V X G 3 0 0 (wC ca ad v) 0 [(0, .ref (ad 0))] []
  unfold fX0_thickness at hf
  refine v_iconst h dX0_thickness_0 0 rfl 1 rfl ?_
  refine v_istore_n h dX0_thickness_1 (Nat.le_of_ble_eq_true rfl) rfl rfl [(0, .ref (ad 0)), (1, .int 0)] rfl 2 rfl ?_
  refine v_iconst h dX0_thickness_2 0 rfl 3 rfl ?_
  refine v_istore_n h dX0_thickness_3 (Nat.le_of_ble_eq_true rfl) rfl rfl [(0, .ref (ad 0)), (1, .int 0), (2, .int 0)] rfl 4 rfl ?_
  obtain ⟨u1, hu1, hf⟩ := zb hf
  refine v_sub [0, 1, 2] rfl ?_
  refine tX0_thickness_l4 h zF v 0 0 _ hu1 ?_
  refine v_iload_n h dX0_thickness_27 0 rfl 28 rfl ?_
  cases (Option.some.inj hf)
  exact hE 28 _ rfl dX0_thickness_28
abbrev rX0_putOver : Room := { frames := 0, cells := 0, slots := 0, locals := 0 }
theorem nX0_putOver : zNoMH yX0_putOver 3 := ⟨by decide +kernel, by decide +kernel, by decide +kernel⟩
theorem iX0_putOver_X0 : ∀ w ∈ wsX00, w ∈ wsX0_putOver := fun _ h => (List.mem_cons_of_mem _ (List.mem_append_right _ h))
def fX0_putOver (v : CV) (x1 : Int32) (x2 : Int32) (x3 : Int32) : Option CV := if v.2.2.2.2.1 < 10 then (zgrd (zix v.2.2.2.2.1 10) (some ((zpt v.1 v.2.2.2.2.1 x1), (zpt v.2.1 v.2.2.2.2.1 x2), (zpt v.2.2.1 v.2.2.2.2.1 x3), (zpt v.2.2.2.1 v.2.2.2.2.1 v.2.2.2.2.2.1), (v.2.2.2.2.1 + 1), v.2.2.2.2.2))) else (some v)
set_option maxRecDepth 100000 in
set_option maxHeartbeats 4000000 in
theorem tX0_putOver (l : Launch) (G : va_G) (ca : Nat → ClassId) (ad : Nat → Nat) (v : CV) (x1 : Int32) (x2 : Int32) (x3 : Int32) {o : CV} (hf : fX0_putOver v x1 x2 x3 = some o) : zMv l yX0_putOver wsX0_putOver rX0_putOver G ca [.ref (ad 0), .int x1, .int x2, .int x3] (wC ca ad v) (wC ca ad o) := by
  refine zMv.of (cc := cX0_putOver) (nL := 4) (own := RX0) (by decide) rfl rfl (Nat.le_of_ble_eq_true rfl) (fun X h hE => ?_)
  show V X G 4 0 0 (wC ca ad v) 0 [(0, .ref (ad 0)), (1, .int x1), (2, .int x2), (3, .int x3)] []
  unfold fX0_putOver at hf
  refine v_aload_n h dX0_putOver_0 0 rfl 1 rfl ?_
  refine v_get h (v := .int v.2.2.2.2.1) dX0_putOver_1 iX0_putOver_X0 0 rfl rfl 4 (by decide) (zwi 1 rfl) rfl 4 rfl ?_
  refine v_bipush h dX0_putOver_4 10 rfl 6 rfl ?_
  refine v_icmp_lt h dX0_putOver_6 10 (by decide) 9 rfl (fun c1 => ?_) (fun c1 => ?_)
  · replace hf := zt c1 hf
    refine v_aload_n h dX0_putOver_10 0 rfl 11 rfl ?_
    refine v_get h (v := .ref (ad 1)) dX0_putOver_11 iX0_putOver_X0 0 rfl rfl 0 (by decide) (zwi 2 rfl) rfl 14 rfl ?_
    refine v_aload_n h dX0_putOver_14 0 rfl 15 rfl ?_
    refine v_get h (v := .int v.2.2.2.2.1) dX0_putOver_15 iX0_putOver_X0 0 rfl rfl 4 (by decide) (zwi 1 rfl) rfl 18 rfl ?_
    refine v_iload_n h dX0_putOver_18 1 rfl 19 rfl ?_
    obtain ⟨g2, hf⟩ := zg hf
    refine v_iast h (f := v.1) dX0_putOver_19 1 0 rfl rfl (zix_in g2) (wC ca ad ((zpt v.1 v.2.2.2.2.1 x1), v.2)) rfl 20 rfl ?_
    refine v_aload_n h dX0_putOver_20 0 rfl 21 rfl ?_
    refine v_get h (v := .ref (ad 2)) dX0_putOver_21 iX0_putOver_X0 0 rfl rfl 1 (by decide) (zwi 3 rfl) rfl 24 rfl ?_
    refine v_aload_n h dX0_putOver_24 0 rfl 25 rfl ?_
    refine v_get h (v := .int v.2.2.2.2.1) dX0_putOver_25 iX0_putOver_X0 0 rfl rfl 4 (by decide) (zwi 1 rfl) rfl 28 rfl ?_
    refine v_iload_n h dX0_putOver_28 2 rfl 29 rfl ?_
    refine v_iast h (f := v.2.1) dX0_putOver_29 2 0 rfl rfl (zix_in g2) (wC ca ad ((zpt v.1 v.2.2.2.2.1 x1), (zpt v.2.1 v.2.2.2.2.1 x2), v.2.2)) rfl 30 rfl ?_
    refine v_aload_n h dX0_putOver_30 0 rfl 31 rfl ?_
    refine v_get h (v := .ref (ad 3)) dX0_putOver_31 iX0_putOver_X0 0 rfl rfl 2 (by decide) (zwi 4 rfl) rfl 34 rfl ?_
    refine v_aload_n h dX0_putOver_34 0 rfl 35 rfl ?_
    refine v_get h (v := .int v.2.2.2.2.1) dX0_putOver_35 iX0_putOver_X0 0 rfl rfl 4 (by decide) (zwi 1 rfl) rfl 38 rfl ?_
    refine v_iload_n h dX0_putOver_38 3 rfl 39 rfl ?_
    refine v_iast h (f := v.2.2.1) dX0_putOver_39 3 0 rfl rfl (zix_in g2) (wC ca ad ((zpt v.1 v.2.2.2.2.1 x1), (zpt v.2.1 v.2.2.2.2.1 x2), (zpt v.2.2.1 v.2.2.2.2.1 x3), v.2.2.2)) rfl 40 rfl ?_
    refine v_aload_n h dX0_putOver_40 0 rfl 41 rfl ?_
    refine v_get h (v := .ref (ad 4)) dX0_putOver_41 iX0_putOver_X0 0 rfl rfl 3 (by decide) (zwi 5 rfl) rfl 44 rfl ?_
    refine v_aload_n h dX0_putOver_44 0 rfl 45 rfl ?_
    refine v_get h (v := .int v.2.2.2.2.1) dX0_putOver_45 iX0_putOver_X0 0 rfl rfl 4 (by decide) (zwi 1 rfl) rfl 48 rfl ?_
    refine v_aload_n h dX0_putOver_48 0 rfl 49 rfl ?_
    refine v_get h (v := .int v.2.2.2.2.2.1) dX0_putOver_49 iX0_putOver_X0 0 rfl rfl 5 (by decide) (zwi 6 rfl) rfl 52 rfl ?_
    refine v_iast h (f := v.2.2.2.1) dX0_putOver_52 4 0 rfl rfl (zix_in g2) (wC ca ad ((zpt v.1 v.2.2.2.2.1 x1), (zpt v.2.1 v.2.2.2.2.1 x2), (zpt v.2.2.1 v.2.2.2.2.1 x3), (zpt v.2.2.2.1 v.2.2.2.2.1 v.2.2.2.2.2.1), v.2.2.2.2)) rfl 53 rfl ?_
    refine v_aload_n h dX0_putOver_53 0 rfl 54 rfl ?_
    refine v_dup h dX0_putOver_54 rfl 55 rfl ?_
    refine v_get h (v := .int v.2.2.2.2.1) dX0_putOver_55 iX0_putOver_X0 0 rfl rfl 4 (by decide) (zwi 1 rfl) rfl 58 rfl ?_
    refine v_iconst h dX0_putOver_58 1 rfl 59 rfl ?_
    refine v_iadd h dX0_putOver_59 60 rfl ?_
    refine v_put h dX0_putOver_60 iX0_putOver_X0 tyX0 tyX0_ok nmX0 0 rfl rfl 4 (by decide) (zwi 1 rfl) rfl rfl rfl (Nat.le_of_ble_eq_true rfl) (wC ca ad ((zpt v.1 v.2.2.2.2.1 x1), (zpt v.2.1 v.2.2.2.2.1 x2), (zpt v.2.2.1 v.2.2.2.2.1 x3), (zpt v.2.2.2.1 v.2.2.2.2.1 v.2.2.2.2.2.1), (v.2.2.2.2.1 + 1), v.2.2.2.2.2)) rfl 63 rfl ?_
    cases (Option.some.inj hf)
    exact hE 63 _ dX0_putOver_63
  · replace hf := zf c1 hf
    cases (Option.some.inj hf)
    exact hE 9 _ dX0_putOver_9
abbrev rX0_takeOut : Room := { frames := 1, cells := 0, slots := 0, locals := 21 }
theorem nX0_takeOut : zNoMH yX0_takeOut 1 := ⟨by decide +kernel, by decide +kernel, by decide +kernel⟩
theorem iX0_takeOut_X0 : ∀ w ∈ wsX00, w ∈ wsX0_takeOut := fun _ h => (List.mem_cons_of_mem _ (List.mem_append_right _ h))
def fX0_takeOut_L11 : Nat → CV → Int32 → Option CV
  | 0, _, _ => none
  | n + 1, v, x2 => if (v.2.2.2.2.1 - 1) ≤ x2 then (some v) else (zgrd (zix (x2 + 1) 10) (zgrd (zix x2 10) (fX0_takeOut_L11 n ((zpt v.1 x2 (zgt v.1 (x2 + 1))), (zpt v.2.1 x2 (zgt v.2.1 (x2 + 1))), (zpt v.2.2.1 x2 (zgt v.2.2.1 (x2 + 1))), (zpt v.2.2.2.1 x2 (zgt v.2.2.2.1 (x2 + 1))), v.2.2.2.2) (x2 + 1))))
set_option maxRecDepth 100000 in
set_option maxHeartbeats 4000000 in
theorem tX0_takeOut_l11 {X : zX} {l : Launch} {G : va_G} {ca : Nat → ClassId} {ad : Nat → Nat} (h : zOk X l G ca cX0_takeOut RX0 wsX0_takeOut 3 rX0_takeOut) : ∀ (n : Nat) (v : CV) (x2 : Int32) (out : CV), fX0_takeOut_L11 n v x2 = some out → (V X G 3 0 0 (wC ca ad out) 83 [(0, .ref (ad 0))] []) → V X G 3 0 0 (wC ca ad v) 11 [(0, .ref (ad 0)), (2, .int x2)] [] := by
  intro n
  induction n with
  | zero => intro v x2 out hf; rw [fX0_takeOut_L11] at hf; cases hf
  | succ n ih =>
    intro v x2 out hf kx
    rw [fX0_takeOut_L11] at hf
    refine v_iload_n h dX0_takeOut_11 1 rfl 12 rfl ?_
    refine v_aload_n h dX0_takeOut_12 0 rfl 13 rfl ?_
    refine v_get h (v := .int v.2.2.2.2.1) dX0_takeOut_13 iX0_takeOut_X0 0 rfl rfl 4 (by decide) (zwi 1 rfl) rfl 16 rfl ?_
    refine v_iconst h dX0_takeOut_16 1 rfl 17 rfl ?_
    refine v_isub h dX0_takeOut_17 18 rfl ?_
    refine v_icmp_ge h dX0_takeOut_18 83 (by decide) 21 rfl (fun c1 => ?_) (fun c1 => ?_)
    · replace hf := zt c1 hf
      cases (Option.some.inj hf)
      exact v_sub [0] rfl (kx)
    · replace hf := zf c1 hf
      refine v_aload_n h dX0_takeOut_21 0 rfl 22 rfl ?_
      refine v_get h (v := .ref (ad 1)) dX0_takeOut_22 iX0_takeOut_X0 0 rfl rfl 0 (by decide) (zwi 2 rfl) rfl 25 rfl ?_
      refine v_iload_n h dX0_takeOut_25 1 rfl 26 rfl ?_
      refine v_aload_n h dX0_takeOut_26 0 rfl 27 rfl ?_
      refine v_get h (v := .ref (ad 1)) dX0_takeOut_27 iX0_takeOut_X0 0 rfl rfl 0 (by decide) (zwi 2 rfl) rfl 30 rfl ?_
      refine v_iload_n h dX0_takeOut_30 1 rfl 31 rfl ?_
      refine v_iconst h dX0_takeOut_31 1 rfl 32 rfl ?_
      refine v_iadd h dX0_takeOut_32 33 rfl ?_
      obtain ⟨g2, hf⟩ := zg hf
      refine v_iald h (f := v.1) dX0_takeOut_33 1 0 rfl rfl (zix_in g2) 34 rfl ?_
      obtain ⟨g3, hf⟩ := zg hf
      refine v_iast h (f := v.1) dX0_takeOut_34 1 0 rfl rfl (zix_in g3) (wC ca ad ((zpt v.1 x2 (zgt v.1 (x2 + 1))), v.2)) rfl 35 rfl ?_
      refine v_aload_n h dX0_takeOut_35 0 rfl 36 rfl ?_
      refine v_get h (v := .ref (ad 2)) dX0_takeOut_36 iX0_takeOut_X0 0 rfl rfl 1 (by decide) (zwi 3 rfl) rfl 39 rfl ?_
      refine v_iload_n h dX0_takeOut_39 1 rfl 40 rfl ?_
      refine v_aload_n h dX0_takeOut_40 0 rfl 41 rfl ?_
      refine v_get h (v := .ref (ad 2)) dX0_takeOut_41 iX0_takeOut_X0 0 rfl rfl 1 (by decide) (zwi 3 rfl) rfl 44 rfl ?_
      refine v_iload_n h dX0_takeOut_44 1 rfl 45 rfl ?_
      refine v_iconst h dX0_takeOut_45 1 rfl 46 rfl ?_
      refine v_iadd h dX0_takeOut_46 47 rfl ?_
      refine v_iald h (f := v.2.1) dX0_takeOut_47 2 0 rfl rfl (zix_in g2) 48 rfl ?_
      refine v_iast h (f := v.2.1) dX0_takeOut_48 2 0 rfl rfl (zix_in g3) (wC ca ad ((zpt v.1 x2 (zgt v.1 (x2 + 1))), (zpt v.2.1 x2 (zgt v.2.1 (x2 + 1))), v.2.2)) rfl 49 rfl ?_
      refine v_aload_n h dX0_takeOut_49 0 rfl 50 rfl ?_
      refine v_get h (v := .ref (ad 3)) dX0_takeOut_50 iX0_takeOut_X0 0 rfl rfl 2 (by decide) (zwi 4 rfl) rfl 53 rfl ?_
      refine v_iload_n h dX0_takeOut_53 1 rfl 54 rfl ?_
      refine v_aload_n h dX0_takeOut_54 0 rfl 55 rfl ?_
      refine v_get h (v := .ref (ad 3)) dX0_takeOut_55 iX0_takeOut_X0 0 rfl rfl 2 (by decide) (zwi 4 rfl) rfl 58 rfl ?_
      refine v_iload_n h dX0_takeOut_58 1 rfl 59 rfl ?_
      refine v_iconst h dX0_takeOut_59 1 rfl 60 rfl ?_
      refine v_iadd h dX0_takeOut_60 61 rfl ?_
      refine v_iald h (f := v.2.2.1) dX0_takeOut_61 3 0 rfl rfl (zix_in g2) 62 rfl ?_
      refine v_iast h (f := v.2.2.1) dX0_takeOut_62 3 0 rfl rfl (zix_in g3) (wC ca ad ((zpt v.1 x2 (zgt v.1 (x2 + 1))), (zpt v.2.1 x2 (zgt v.2.1 (x2 + 1))), (zpt v.2.2.1 x2 (zgt v.2.2.1 (x2 + 1))), v.2.2.2)) rfl 63 rfl ?_
      refine v_aload_n h dX0_takeOut_63 0 rfl 64 rfl ?_
      refine v_get h (v := .ref (ad 4)) dX0_takeOut_64 iX0_takeOut_X0 0 rfl rfl 3 (by decide) (zwi 5 rfl) rfl 67 rfl ?_
      refine v_iload_n h dX0_takeOut_67 1 rfl 68 rfl ?_
      refine v_aload_n h dX0_takeOut_68 0 rfl 69 rfl ?_
      refine v_get h (v := .ref (ad 4)) dX0_takeOut_69 iX0_takeOut_X0 0 rfl rfl 3 (by decide) (zwi 5 rfl) rfl 72 rfl ?_
      refine v_iload_n h dX0_takeOut_72 1 rfl 73 rfl ?_
      refine v_iconst h dX0_takeOut_73 1 rfl 74 rfl ?_
      refine v_iadd h dX0_takeOut_74 75 rfl ?_
      refine v_iald h (f := v.2.2.2.1) dX0_takeOut_75 4 0 rfl rfl (zix_in g2) 76 rfl ?_
      refine v_iast h (f := v.2.2.2.1) dX0_takeOut_76 4 0 rfl rfl (zix_in g3) (wC ca ad ((zpt v.1 x2 (zgt v.1 (x2 + 1))), (zpt v.2.1 x2 (zgt v.2.1 (x2 + 1))), (zpt v.2.2.1 x2 (zgt v.2.2.1 (x2 + 1))), (zpt v.2.2.2.1 x2 (zgt v.2.2.2.1 (x2 + 1))), v.2.2.2.2)) rfl 77 rfl ?_
      refine v_iinc h dX0_takeOut_77 1 rfl (x2 + 1) rfl (Nat.le_of_ble_eq_true rfl) rfl rfl [(0, .ref (ad 0)), (2, .int (x2 + 1))] rfl 80 rfl ?_
      refine v_goto h dX0_takeOut_80 11 (by decide) ?_
      exact v_sub [0, 1] rfl (ih ((zpt v.1 x2 (zgt v.1 (x2 + 1))), (zpt v.2.1 x2 (zgt v.2.1 (x2 + 1))), (zpt v.2.2.1 x2 (zgt v.2.2.1 (x2 + 1))), (zpt v.2.2.2.1 x2 (zgt v.2.2.2.1 (x2 + 1))), v.2.2.2.2) (x2 + 1) _ hf kx)
def fX0_takeOut (v : CV) (x1 : Int32) : Option CV := ((fX0_has v x1) : Option Int32).bind (fun u1 => if u1 = 0 then (some v) else (((fX0_takeOut_L11 zF v x1) : Option CV).bind (fun u3 => some (u3.1, u3.2.1, u3.2.2.1, u3.2.2.2.1, (u3.2.2.2.2.1 - 1), u3.2.2.2.2.2))))
set_option maxRecDepth 100000 in
set_option maxHeartbeats 4000000 in
theorem tX0_takeOut (l : Launch) (G : va_G) (ca : Nat → ClassId) (ad : Nat → Nat) (v : CV) (x1 : Int32) {o : CV} (hf : fX0_takeOut v x1 = some o) : zMv l yX0_takeOut wsX0_takeOut rX0_takeOut G ca [.ref (ad 0), .int x1] (wC ca ad v) (wC ca ad o) := by
  refine zMv.of (cc := cX0_takeOut) (nL := 3) (own := RX0) (by decide) rfl rfl (Nat.le_of_ble_eq_true rfl) (fun X h hE => ?_)
  show V X G 3 0 0 (wC ca ad v) 0 [(0, .ref (ad 0)), (1, .int x1)] []
  unfold fX0_takeOut at hf
  refine v_aload_n h dX0_takeOut_0 0 rfl 1 rfl ?_
  refine v_iload_n h dX0_takeOut_1 1 rfl 2 rfl ?_
  obtain ⟨u1, hu1, hf⟩ := zb hf
  refine v_wcallVi h (rest := []) dX0_takeOut_2 (tX0_has l G ca ad v x1 hu1) gX0_takeOut_X0_has rfl rfl ⟨rfl, rfl⟩ nX0_has ⟨Nat.le_of_ble_eq_true rfl, Nat.le_of_ble_eq_true rfl⟩ 0 rfl rfl rfl rfl (Nat.le_of_ble_eq_true rfl) ⟨Nat.zero_le _, Nat.zero_le _⟩ (wC_adr _ _ _ _) 5 rfl ?_
  refine v_if_ne h dX0_takeOut_5 9 (by decide) 8 rfl (fun c2 => ?_) (fun c2 => ?_)
  · replace hf := zf c2 hf
    refine v_iload_n h dX0_takeOut_9 1 rfl 10 rfl ?_
    refine v_istore_n h dX0_takeOut_10 (Nat.le_of_ble_eq_true rfl) rfl rfl [(0, .ref (ad 0)), (1, .int x1), (2, .int x1)] rfl 11 rfl ?_
    obtain ⟨u3, hu3, hf⟩ := zb hf
    refine v_sub [0, 2] rfl ?_
    refine tX0_takeOut_l11 h zF v x1 _ hu3 ?_
    refine v_aload_n h dX0_takeOut_83 0 rfl 84 rfl ?_
    refine v_dup h dX0_takeOut_84 rfl 85 rfl ?_
    refine v_get h (v := .int u3.2.2.2.2.1) dX0_takeOut_85 iX0_takeOut_X0 0 rfl rfl 4 (by decide) (zwi 1 rfl) rfl 88 rfl ?_
    refine v_iconst h dX0_takeOut_88 1 rfl 89 rfl ?_
    refine v_isub h dX0_takeOut_89 90 rfl ?_
    refine v_put h dX0_takeOut_90 iX0_takeOut_X0 tyX0 tyX0_ok nmX0 0 rfl rfl 4 (by decide) (zwi 1 rfl) rfl rfl rfl (Nat.le_of_ble_eq_true rfl) (wC ca ad (u3.1, u3.2.1, u3.2.2.1, u3.2.2.2.1, (u3.2.2.2.2.1 - 1), u3.2.2.2.2.2)) rfl 93 rfl ?_
    cases (Option.some.inj hf)
    exact hE 93 _ dX0_takeOut_93
  · replace hf := zt c2 hf
    cases (Option.some.inj hf)
    exact hE 8 _ dX0_takeOut_8
abbrev rX0_dampen : Room := { frames := 1, cells := 0, slots := 0, locals := 15 }
theorem nX0_dampen : zNoMH yX0_dampen 2 := ⟨by decide +kernel, by decide +kernel, by decide +kernel⟩
theorem iX0_dampen_X0 : ∀ w ∈ wsX00, w ∈ wsX0_dampen := fun _ h => (List.mem_cons_of_mem _ (List.mem_append_right _ h))
def fX0_dampen (v : CV) (x1 : Int32) (x2 : Int32) : Option CV := if x2 = 0 then (zgrd (zix x1 10) (some (v.1, v.2.1, (zpt v.2.2.1 x1 (if (0 : Int32) < ((zgt v.2.2.1 x1) - 2) then ((zgt v.2.2.1 x1) - 2) else 0)), v.2.2.2))) else (zgrd (zix x1 10) (some (v.1, v.2.1, (zpt v.2.2.1 x1 (if ((zgt v.2.2.1 x1) + (x2 / 2)) < (9 : Int32) then ((zgt v.2.2.1 x1) + (x2 / 2)) else 9)), v.2.2.2)))
set_option maxRecDepth 100000 in
set_option maxHeartbeats 4000000 in
theorem tX0_dampen (l : Launch) (G : va_G) (ca : Nat → ClassId) (ad : Nat → Nat) (v : CV) (x1 : Int32) (x2 : Int32) {o : CV} (hf : fX0_dampen v x1 x2 = some o) : zMv l yX0_dampen wsX0_dampen rX0_dampen G ca [.ref (ad 0), .int x1, .int x2] (wC ca ad v) (wC ca ad o) := by
  refine zMv.of (cc := cX0_dampen) (nL := 3) (own := RX0) (by decide) rfl rfl (Nat.le_of_ble_eq_true rfl) (fun X h hE => ?_)
  show V X G 3 0 0 (wC ca ad v) 0 [(0, .ref (ad 0)), (1, .int x1), (2, .int x2)] []
  unfold fX0_dampen at hf
  refine v_aload_n h dX0_dampen_0 0 rfl 1 rfl ?_
  refine v_get h (v := .ref (ad 3)) dX0_dampen_1 iX0_dampen_X0 0 rfl rfl 2 (by decide) (zwi 1 rfl) rfl 4 rfl ?_
  refine v_iload_n h dX0_dampen_4 1 rfl 5 rfl ?_
  refine v_iload_n h dX0_dampen_5 2 rfl 6 rfl ?_
  refine v_if_ne h dX0_dampen_6 24 (by decide) 9 rfl (fun c1 => ?_) (fun c1 => ?_)
  · replace hf := zf c1 hf
    refine v_bipush h dX0_dampen_24 9 rfl 26 rfl ?_
    refine v_aload_n h dX0_dampen_26 0 rfl 27 rfl ?_
    refine v_get h (v := .ref (ad 3)) dX0_dampen_27 iX0_dampen_X0 0 rfl rfl 2 (by decide) (zwi 1 rfl) rfl 30 rfl ?_
    refine v_iload_n h dX0_dampen_30 1 rfl 31 rfl ?_
    obtain ⟨g2, hf⟩ := zg hf
    refine v_iald h (f := v.2.2.1) dX0_dampen_31 3 0 rfl rfl (zix_in g2) 32 rfl ?_
    refine v_iload_n h dX0_dampen_32 2 rfl 33 rfl ?_
    refine v_iconst h dX0_dampen_33 2 rfl 34 rfl ?_
    refine v_idiv h dX0_dampen_34 (by decide) 35 rfl ?_
    refine v_iadd h dX0_dampen_35 36 rfl ?_
    refine v_mmin h dX0_dampen_36 (zwi 6 rfl) (zwi 7 rfl) (zwi 4 rfl) (zwi 8 rfl) (Nat.le_of_ble_eq_true rfl) (Nat.le_of_ble_eq_true rfl) (Nat.zero_le _) (Nat.zero_le _) 39 rfl ?_
    refine v_iast h (f := v.2.2.1) dX0_dampen_39 3 0 rfl rfl (zix_in g2) (wC ca ad (v.1, v.2.1, (zpt v.2.2.1 x1 (if ((zgt v.2.2.1 x1) + (x2 / 2)) < (9 : Int32) then ((zgt v.2.2.1 x1) + (x2 / 2)) else 9)), v.2.2.2)) rfl 40 rfl ?_
    cases (Option.some.inj hf)
    exact hE 40 _ dX0_dampen_40
  · replace hf := zt c1 hf
    refine v_iconst h dX0_dampen_9 0 rfl 10 rfl ?_
    refine v_aload_n h dX0_dampen_10 0 rfl 11 rfl ?_
    refine v_get h (v := .ref (ad 3)) dX0_dampen_11 iX0_dampen_X0 0 rfl rfl 2 (by decide) (zwi 1 rfl) rfl 14 rfl ?_
    refine v_iload_n h dX0_dampen_14 1 rfl 15 rfl ?_
    obtain ⟨g3, hf⟩ := zg hf
    refine v_iald h (f := v.2.2.1) dX0_dampen_15 3 0 rfl rfl (zix_in g3) 16 rfl ?_
    refine v_iconst h dX0_dampen_16 2 rfl 17 rfl ?_
    refine v_isub h dX0_dampen_17 18 rfl ?_
    refine v_mmax h dX0_dampen_18 (zwi 2 rfl) (zwi 3 rfl) (zwi 4 rfl) (zwi 5 rfl) (Nat.le_of_ble_eq_true rfl) (Nat.le_of_ble_eq_true rfl) (Nat.zero_le _) (Nat.zero_le _) 21 rfl ?_
    refine v_goto h dX0_dampen_21 39 (by decide) ?_
    refine v_iast h (f := v.2.2.1) dX0_dampen_39 3 0 rfl rfl (zix_in g3) (wC ca ad (v.1, v.2.1, (zpt v.2.2.1 x1 (if (0 : Int32) < ((zgt v.2.2.1 x1) - 2) then ((zgt v.2.2.1 x1) - 2) else 0)), v.2.2.2)) rfl 40 rfl ?_
    cases (Option.some.inj hf)
    exact hE 40 _ dX0_dampen_40
abbrev rX0_wearTop : Room := { frames := 0, cells := 0, slots := 0, locals := 0 }
theorem nX0_wearTop : zNoMH yX0_wearTop 0 := ⟨by decide +kernel, by decide +kernel, by decide +kernel⟩
theorem iX0_wearTop_X0 : ∀ w ∈ wsX00, w ∈ wsX0_wearTop := fun _ h => (List.mem_cons_of_mem _ (List.mem_append_right _ h))
def fX0_wearTop (v : CV) : Option CV := if v.2.2.2.2.1 = 0 then (some v) else (zgrd (zix (v.2.2.2.2.1 - 1) 10) (if 0 < (zgt (zpt v.2.1 (v.2.2.2.2.1 - 1) ((zgt v.2.1 (v.2.2.2.2.1 - 1)) - 1)) (v.2.2.2.2.1 - 1)) then (some (v.1, (zpt v.2.1 (v.2.2.2.2.1 - 1) ((zgt v.2.1 (v.2.2.2.2.1 - 1)) - 1)), v.2.2)) else (some (v.1, (zpt v.2.1 (v.2.2.2.2.1 - 1) ((zgt v.2.1 (v.2.2.2.2.1 - 1)) - 1)), v.2.2.1, v.2.2.2.1, (v.2.2.2.2.1 - 1), v.2.2.2.2.2))))
set_option maxRecDepth 100000 in
set_option maxHeartbeats 4000000 in
theorem tX0_wearTop (l : Launch) (G : va_G) (ca : Nat → ClassId) (ad : Nat → Nat) (v : CV)  {o : CV} (hf : fX0_wearTop v = some o) : zMv l yX0_wearTop wsX0_wearTop rX0_wearTop G ca [.ref (ad 0)] (wC ca ad v) (wC ca ad o) := by
  refine zMv.of (cc := cX0_wearTop) (nL := 1) (own := RX0) (by decide) rfl rfl (Nat.le_of_ble_eq_true rfl) (fun X h hE => ?_)
  show V X G 1 0 0 (wC ca ad v) 0 [(0, .ref (ad 0))] []
  unfold fX0_wearTop at hf
  refine v_aload_n h dX0_wearTop_0 0 rfl 1 rfl ?_
  refine v_get h (v := .int v.2.2.2.2.1) dX0_wearTop_1 iX0_wearTop_X0 0 rfl rfl 4 (by decide) (zwi 1 rfl) rfl 4 rfl ?_
  refine v_if_ne h dX0_wearTop_4 8 (by decide) 7 rfl (fun c1 => ?_) (fun c1 => ?_)
  · replace hf := zf c1 hf
    refine v_aload_n h dX0_wearTop_8 0 rfl 9 rfl ?_
    refine v_get h (v := .ref (ad 2)) dX0_wearTop_9 iX0_wearTop_X0 0 rfl rfl 1 (by decide) (zwi 2 rfl) rfl 12 rfl ?_
    refine v_aload_n h dX0_wearTop_12 0 rfl 13 rfl ?_
    refine v_get h (v := .int v.2.2.2.2.1) dX0_wearTop_13 iX0_wearTop_X0 0 rfl rfl 4 (by decide) (zwi 1 rfl) rfl 16 rfl ?_
    refine v_iconst h dX0_wearTop_16 1 rfl 17 rfl ?_
    refine v_isub h dX0_wearTop_17 18 rfl ?_
    refine v_dup2 h dX0_wearTop_18 rfl rfl 19 rfl ?_
    obtain ⟨g2, hf⟩ := zg hf
    refine v_iald h (f := v.2.1) dX0_wearTop_19 2 0 rfl rfl (zix_in g2) 20 rfl ?_
    refine v_iconst h dX0_wearTop_20 1 rfl 21 rfl ?_
    refine v_isub h dX0_wearTop_21 22 rfl ?_
    refine v_iast h (f := v.2.1) dX0_wearTop_22 2 0 rfl rfl (zix_in g2) (wC ca ad (v.1, (zpt v.2.1 (v.2.2.2.2.1 - 1) ((zgt v.2.1 (v.2.2.2.2.1 - 1)) - 1)), v.2.2)) rfl 23 rfl ?_
    refine v_aload_n h dX0_wearTop_23 0 rfl 24 rfl ?_
    refine v_get h (v := .ref (ad 2)) dX0_wearTop_24 iX0_wearTop_X0 0 rfl rfl 1 (by decide) (zwi 2 rfl) rfl 27 rfl ?_
    refine v_aload_n h dX0_wearTop_27 0 rfl 28 rfl ?_
    refine v_get h (v := .int v.2.2.2.2.1) dX0_wearTop_28 iX0_wearTop_X0 0 rfl rfl 4 (by decide) (zwi 1 rfl) rfl 31 rfl ?_
    refine v_iconst h dX0_wearTop_31 1 rfl 32 rfl ?_
    refine v_isub h dX0_wearTop_32 33 rfl ?_
    refine v_iald h (f := (zpt v.2.1 (v.2.2.2.2.1 - 1) ((zgt v.2.1 (v.2.2.2.2.1 - 1)) - 1))) dX0_wearTop_33 2 0 rfl rfl (zix_in g2) 34 rfl ?_
    refine v_if_gt h dX0_wearTop_34 47 (by decide) 37 rfl (fun c3 => ?_) (fun c3 => ?_)
    · replace hf := zt c3 hf
      cases (Option.some.inj hf)
      exact hE 47 _ dX0_wearTop_47
    · replace hf := zf c3 hf
      refine v_aload_n h dX0_wearTop_37 0 rfl 38 rfl ?_
      refine v_dup h dX0_wearTop_38 rfl 39 rfl ?_
      refine v_get h (v := .int v.2.2.2.2.1) dX0_wearTop_39 iX0_wearTop_X0 0 rfl rfl 4 (by decide) (zwi 1 rfl) rfl 42 rfl ?_
      refine v_iconst h dX0_wearTop_42 1 rfl 43 rfl ?_
      refine v_isub h dX0_wearTop_43 44 rfl ?_
      refine v_put h dX0_wearTop_44 iX0_wearTop_X0 tyX0 tyX0_ok nmX0 0 rfl rfl 4 (by decide) (zwi 1 rfl) rfl rfl rfl (Nat.le_of_ble_eq_true rfl) (wC ca ad (v.1, (zpt v.2.1 (v.2.2.2.2.1 - 1) ((zgt v.2.1 (v.2.2.2.2.1 - 1)) - 1)), v.2.2.1, v.2.2.2.1, (v.2.2.2.2.1 - 1), v.2.2.2.2.2)) rfl 47 rfl ?_
      cases (Option.some.inj hf)
      exact hE 47 _ dX0_wearTop_47
  · replace hf := zt c1 hf
    cases (Option.some.inj hf)
    exact hE 7 _ dX0_wearTop_7
abbrev rX0_passYear : Room := { frames := 2, cells := 0, slots := 0, locals := 42 }
theorem nX0_passYear : zNoMH yX0_passYear 1 := ⟨by decide +kernel, by decide +kernel, by decide +kernel⟩
theorem iX0_passYear_X0 : ∀ w ∈ wsX00, w ∈ wsX0_passYear := fun _ h => (List.mem_cons_of_mem _ (List.mem_append_right _ h))
def fX0_passYear_L9 : Nat → CV → Int32 → Int32 → Option (Int32 × CV)
  | 0, _, _, _ => none
  | n + 1, v, x2, x3 => if x3 < 0 then (some (x2, v)) else (((fX0_mostTaken v x3) : Option Int32).bind (fun u2 => ((fX0_dampen v x3 (if u2 < x2 then u2 else x2)) : Option CV).bind (fun u3 => fX0_passYear_L9 n u3 (x2 - (if u2 < x2 then u2 else x2)) (x3 + (-1)))))
set_option maxRecDepth 100000 in
set_option maxHeartbeats 4000000 in
theorem tX0_passYear_l9 {X : zX} {l : Launch} {G : va_G} {ca : Nat → ClassId} {ad : Nat → Nat} (h : zOk X l G ca cX0_passYear RX0 wsX0_passYear 5 rX0_passYear) : ∀ (n : Nat) (v : CV) (x2 : Int32) (x3 : Int32) (out : (Int32 × CV)), fX0_passYear_L9 n v x2 x3 = some out → (V X G 5 0 0 (wC ca ad out.2) 42 [(0, .ref (ad 0)), (2, .int out.1)] []) → V X G 5 0 0 (wC ca ad v) 9 [(0, .ref (ad 0)), (2, .int x2), (3, .int x3)] [] := by
  intro n
  induction n with
  | zero => intro v x2 x3 out hf; rw [fX0_passYear_L9] at hf; cases hf
  | succ n ih =>
    intro v x2 x3 out hf kx
    rw [fX0_passYear_L9] at hf
    refine v_iload_n h dX0_passYear_9 2 rfl 10 rfl ?_
    refine v_if_lt h dX0_passYear_10 42 (by decide) 13 rfl (fun c1 => ?_) (fun c1 => ?_)
    · replace hf := zt c1 hf
      cases (Option.some.inj hf)
      exact v_sub [0, 1] rfl (kx)
    · replace hf := zf c1 hf
      refine v_iload_n h dX0_passYear_13 1 rfl 14 rfl ?_
      refine v_aload_n h dX0_passYear_14 0 rfl 15 rfl ?_
      refine v_iload_n h dX0_passYear_15 2 rfl 16 rfl ?_
      obtain ⟨u2, hu2, hf⟩ := zb hf
      refine v_wcallVi h (rest := [.int x2]) dX0_passYear_16 (tX0_mostTaken l G ca ad v x3 hu2) gX0_passYear_X0_mostTaken rfl rfl ⟨rfl, rfl⟩ nX0_mostTaken ⟨Nat.le_of_ble_eq_true rfl, Nat.le_of_ble_eq_true rfl⟩ 0 rfl rfl rfl rfl (Nat.le_of_ble_eq_true rfl) ⟨Nat.zero_le _, Nat.zero_le _⟩ (wC_adr _ _ _ _) 19 rfl ?_
      refine v_mmin h dX0_passYear_19 (zwi 2 rfl) (zwi 3 rfl) (zwi 4 rfl) (zwi 5 rfl) (Nat.le_of_ble_eq_true rfl) (Nat.le_of_ble_eq_true rfl) (Nat.zero_le _) (Nat.zero_le _) 22 rfl ?_
      refine v_istore h dX0_passYear_22 (Nat.le_of_ble_eq_true rfl) rfl rfl [(0, .ref (ad 0)), (2, .int x2), (3, .int x3), (4, .int (if u2 < x2 then u2 else x2))] rfl 24 rfl ?_
      refine v_iload_n h dX0_passYear_24 1 rfl 25 rfl ?_
      refine v_iload h dX0_passYear_25 3 rfl 27 rfl ?_
      refine v_isub h dX0_passYear_27 28 rfl ?_
      refine v_istore_n h dX0_passYear_28 (Nat.le_of_ble_eq_true rfl) rfl rfl [(0, .ref (ad 0)), (2, .int (x2 - (if u2 < x2 then u2 else x2))), (3, .int x3), (4, .int (if u2 < x2 then u2 else x2))] rfl 29 rfl ?_
      refine v_aload_n h dX0_passYear_29 0 rfl 30 rfl ?_
      refine v_iload_n h dX0_passYear_30 2 rfl 31 rfl ?_
      refine v_iload h dX0_passYear_31 3 rfl 33 rfl ?_
      obtain ⟨u3, hu3, hf⟩ := zb hf
      refine v_wcallVv h (rest := []) dX0_passYear_33 (tX0_dampen l G ca ad v x3 (if u2 < x2 then u2 else x2) hu3) gX0_passYear_X0_dampen rfl rfl ⟨rfl, rfl⟩ nX0_dampen ⟨Nat.le_of_ble_eq_true rfl, Nat.le_of_ble_eq_true rfl⟩ 0 rfl rfl rfl rfl (Nat.le_of_ble_eq_true rfl) ⟨Nat.zero_le _, Nat.zero_le _⟩ (wC_adr _ _ _ _) 36 rfl ?_
      refine v_iinc h dX0_passYear_36 2 rfl (x3 + (-1)) rfl (Nat.le_of_ble_eq_true rfl) rfl rfl [(0, .ref (ad 0)), (2, .int (x2 - (if u2 < x2 then u2 else x2))), (3, .int (x3 + (-1))), (4, .int (if u2 < x2 then u2 else x2))] rfl 39 rfl ?_
      refine v_goto h dX0_passYear_39 9 (by decide) ?_
      exact v_sub [0, 1, 2] rfl (ih u3 (x2 - (if u2 < x2 then u2 else x2)) (x3 + (-1)) _ hf kx)
def fX0_passYear (v : CV) (x1 : Int32) : Option (Int32 × CV) := ((fX0_passYear_L9 zF v x1 (v.2.2.2.2.1 - 1)) : Option (Int32 × CV)).bind (fun u1 => ((fX0_wearTop (u1.2.1, u1.2.2.1, u1.2.2.2.1, u1.2.2.2.2.1, u1.2.2.2.2.2.1, u1.2.2.2.2.2.2.1, (u1.2.2.2.2.2.2.2.1 + u1.1), u1.2.2.2.2.2.2.2.2)) : Option CV).bind (fun u2 => some (u1.1, (u2.1, u2.2.1, u2.2.2.1, u2.2.2.2.1, u2.2.2.2.2.1, (u2.2.2.2.2.2.1 + 1), u2.2.2.2.2.2.2))))
set_option maxRecDepth 100000 in
set_option maxHeartbeats 4000000 in
theorem tX0_passYear (l : Launch) (G : va_G) (ca : Nat → ClassId) (ad : Nat → Nat) (v : CV) (x1 : Int32) {o : (Int32 × CV)} (hf : fX0_passYear v x1 = some o) : zMi l yX0_passYear wsX0_passYear rX0_passYear G ca [.ref (ad 0), .int x1] (wC ca ad v) o.1 (wC ca ad o.2) := by
  refine zMi.of (cc := cX0_passYear) (nL := 5) (own := RX0) (ty := .int) (by decide) rfl rfl (Nat.le_of_ble_eq_true rfl) (fun X h hE => ?_)
  show V X G 5 0 0 (wC ca ad v) 0 [(0, .ref (ad 0)), (1, .int x1)] []
  unfold fX0_passYear at hf
  refine v_iload_n h dX0_passYear_0 1 rfl 1 rfl ?_
  refine v_istore_n h dX0_passYear_1 (Nat.le_of_ble_eq_true rfl) rfl rfl [(0, .ref (ad 0)), (1, .int x1), (2, .int x1)] rfl 2 rfl ?_
  refine v_aload_n h dX0_passYear_2 0 rfl 3 rfl ?_
  refine v_get h (v := .int v.2.2.2.2.1) dX0_passYear_3 iX0_passYear_X0 0 rfl rfl 4 (by decide) (zwi 1 rfl) rfl 6 rfl ?_
  refine v_iconst h dX0_passYear_6 1 rfl 7 rfl ?_
  refine v_isub h dX0_passYear_7 8 rfl ?_
  refine v_istore_n h dX0_passYear_8 (Nat.le_of_ble_eq_true rfl) rfl rfl [(0, .ref (ad 0)), (1, .int x1), (2, .int x1), (3, .int (v.2.2.2.2.1 - 1))] rfl 9 rfl ?_
  obtain ⟨u1, hu1, hf⟩ := zb hf
  refine v_sub [0, 2, 3] rfl ?_
  refine tX0_passYear_l9 h zF v x1 (v.2.2.2.2.1 - 1) _ hu1 ?_
  refine v_aload_n h dX0_passYear_42 0 rfl 43 rfl ?_
  refine v_dup h dX0_passYear_43 rfl 44 rfl ?_
  refine v_get h (v := .int u1.2.2.2.2.2.2.2.1) dX0_passYear_44 iX0_passYear_X0 0 rfl rfl 6 (by decide) (zwi 6 rfl) rfl 47 rfl ?_
  refine v_iload_n h dX0_passYear_47 1 rfl 48 rfl ?_
  refine v_iadd h dX0_passYear_48 49 rfl ?_
  refine v_put h dX0_passYear_49 iX0_passYear_X0 tyX0 tyX0_ok nmX0 0 rfl rfl 6 (by decide) (zwi 6 rfl) rfl rfl rfl (Nat.le_of_ble_eq_true rfl) (wC ca ad (u1.2.1, u1.2.2.1, u1.2.2.2.1, u1.2.2.2.2.1, u1.2.2.2.2.2.1, u1.2.2.2.2.2.2.1, (u1.2.2.2.2.2.2.2.1 + u1.1), u1.2.2.2.2.2.2.2.2)) rfl 52 rfl ?_
  refine v_aload_n h dX0_passYear_52 0 rfl 53 rfl ?_
  obtain ⟨u2, hu2, hf⟩ := zb hf
  refine v_wcallVv h (rest := []) dX0_passYear_53 (tX0_wearTop l G ca ad (u1.2.1, u1.2.2.1, u1.2.2.2.1, u1.2.2.2.2.1, u1.2.2.2.2.2.1, u1.2.2.2.2.2.2.1, (u1.2.2.2.2.2.2.2.1 + u1.1), u1.2.2.2.2.2.2.2.2)  hu2) gX0_passYear_X0_wearTop rfl rfl ⟨rfl, rfl⟩ nX0_wearTop ⟨Nat.le_of_ble_eq_true rfl, Nat.le_of_ble_eq_true rfl⟩ 0 rfl rfl rfl rfl (Nat.le_of_ble_eq_true rfl) ⟨Nat.zero_le _, Nat.zero_le _⟩ (wC_adr _ _ _ _) 56 rfl ?_
  refine v_aload_n h dX0_passYear_56 0 rfl 57 rfl ?_
  refine v_dup h dX0_passYear_57 rfl 58 rfl ?_
  refine v_get h (v := .int u2.2.2.2.2.2.1) dX0_passYear_58 iX0_passYear_X0 0 rfl rfl 5 (by decide) (zwi 7 rfl) rfl 61 rfl ?_
  refine v_iconst h dX0_passYear_61 1 rfl 62 rfl ?_
  refine v_iadd h dX0_passYear_62 63 rfl ?_
  refine v_put h dX0_passYear_63 iX0_passYear_X0 tyX0 tyX0_ok nmX0 0 rfl rfl 5 (by decide) (zwi 7 rfl) rfl rfl rfl (Nat.le_of_ble_eq_true rfl) (wC ca ad (u2.1, u2.2.1, u2.2.2.1, u2.2.2.2.1, u2.2.2.2.2.1, (u2.2.2.2.2.2.1 + 1), u2.2.2.2.2.2.2)) rfl 66 rfl ?_
  refine v_iload_n h dX0_passYear_66 1 rfl 67 rfl ?_
  cases (Option.some.inj hf)
  exact hE 67 _ rfl dX0_passYear_67
abbrev rX0_stopsFire : Room := { frames := 0, cells := 0, slots := 0, locals := 0 }
theorem nX0_stopsFire : zNoMH yX0_stopsFire 1 := ⟨by decide +kernel, by decide +kernel, by decide +kernel⟩
theorem iX0_stopsFire_X0 : ∀ w ∈ wsX00, w ∈ wsX0_stopsFire := fun _ h => (List.mem_cons_of_mem _ (List.mem_append_right _ h))
def fX0_stopsFire (v : CV) (x1 : Int32) : Option Int32 := zgrd (zix x1 10) (if (zgt v.2.2.1 x1) ≤ 6 then (some 0) else (some 1))
set_option maxRecDepth 100000 in
set_option maxHeartbeats 4000000 in
theorem tX0_stopsFire (l : Launch) (G : va_G) (ca : Nat → ClassId) (ad : Nat → Nat) (v : CV) (x1 : Int32) {o : Int32} (hf : fX0_stopsFire v x1 = some o) : zMi l yX0_stopsFire wsX0_stopsFire rX0_stopsFire G ca [.ref (ad 0), .int x1] (wC ca ad v) o (wC ca ad v) := by
  refine zMi.of (cc := cX0_stopsFire) (nL := 2) (own := RX0) (ty := .boolean) (by decide) rfl rfl (Nat.le_of_ble_eq_true rfl) (fun X h hE => ?_)
  show V X G 2 0 0 (wC ca ad v) 0 [(0, .ref (ad 0)), (1, .int x1)] []
  unfold fX0_stopsFire at hf
  refine v_aload_n h dX0_stopsFire_0 0 rfl 1 rfl ?_
  refine v_get h (v := .ref (ad 3)) dX0_stopsFire_1 iX0_stopsFire_X0 0 rfl rfl 2 (by decide) (zwi 1 rfl) rfl 4 rfl ?_
  refine v_iload_n h dX0_stopsFire_4 1 rfl 5 rfl ?_
  obtain ⟨g1, hf⟩ := zg hf
  refine v_iald h (f := v.2.2.1) dX0_stopsFire_5 3 0 rfl rfl (zix_in g1) 6 rfl ?_
  refine v_bipush h dX0_stopsFire_6 6 rfl 8 rfl ?_
  refine v_icmp_le h dX0_stopsFire_8 15 (by decide) 11 rfl (fun c2 => ?_) (fun c2 => ?_)
  · replace hf := zt c2 hf
    refine v_iconst h dX0_stopsFire_15 0 rfl 16 rfl ?_
    cases (Option.some.inj hf)
    exact hE 16 _ znar0 dX0_stopsFire_16
  · replace hf := zf c2 hf
    refine v_iconst h dX0_stopsFire_11 1 rfl 12 rfl ?_
    refine v_goto h dX0_stopsFire_12 16 (by decide) ?_
    cases (Option.some.inj hf)
    exact hE 16 _ znar1 dX0_stopsFire_16
abbrev rX0_burn : Room := { frames := 1, cells := 0, slots := 0, locals := 21 }
theorem nX0_burn : zNoMH yX0_burn 1 := ⟨by decide +kernel, by decide +kernel, by decide +kernel⟩
theorem iX0_burn_X0 : ∀ w ∈ wsX00, w ∈ wsX0_burn := fun _ h => (List.mem_cons_of_mem _ (List.mem_append_right _ h))
def fX0_burn_L12 : Nat → CV → Int32 → Int32 → Int32 → Option CV
  | 0, _, _, _, _ => none
  | n + 1, v, x2, x3, x4 => if x4 < 0 then (some v) else (((fX0_stopsFire v x4) : Option Int32).bind (fun u2 => if u2 = 0 then (((fX0_heavinessOf v x4) : Option Int32).bind (fun u4 => if u4 ≤ x3 then (((fX0_heavinessOf v x4) : Option Int32).bind (fun u6 => fX0_burn_L12 n (v.1, v.2.1, v.2.2.1, v.2.2.2.1, (v.2.2.2.2.1 - 1), v.2.2.2.2.2) x2 (x3 - u6) (x4 + (-1)))) else (some v))) else (some v)))
set_option maxRecDepth 100000 in
set_option maxHeartbeats 4000000 in
theorem tX0_burn_l12 {X : zX} {l : Launch} {G : va_G} {ca : Nat → ClassId} {ad : Nat → Nat} (h : zOk X l G ca cX0_burn RX0 wsX0_burn 5 rX0_burn) : ∀ (n : Nat) (v : CV) (x2 : Int32) (x3 : Int32) (x4 : Int32) (out : CV), fX0_burn_L12 n v x2 x3 x4 = some out → (V X G 5 0 0 (wC ca ad out) 64 [(0, .ref (ad 0)), (2, .int x2)] []) → V X G 5 0 0 (wC ca ad v) 12 [(0, .ref (ad 0)), (2, .int x2), (3, .int x3), (4, .int x4)] [] := by
  intro n
  induction n with
  | zero => intro v x2 x3 x4 out hf; rw [fX0_burn_L12] at hf; cases hf
  | succ n ih =>
    intro v x2 x3 x4 out hf kx
    rw [fX0_burn_L12] at hf
    refine v_iload h dX0_burn_12 3 rfl 14 rfl ?_
    refine v_if_lt h dX0_burn_14 64 (by decide) 17 rfl (fun c1 => ?_) (fun c1 => ?_)
    · replace hf := zt c1 hf
      cases (Option.some.inj hf)
      exact v_sub [0, 1] rfl (kx)
    · replace hf := zf c1 hf
      refine v_aload_n h dX0_burn_17 0 rfl 18 rfl ?_
      refine v_iload h dX0_burn_18 3 rfl 20 rfl ?_
      obtain ⟨u2, hu2, hf⟩ := zb hf
      refine v_wcallVi h (rest := []) dX0_burn_20 (tX0_stopsFire l G ca ad v x4 hu2) gX0_burn_X0_stopsFire rfl rfl ⟨rfl, rfl⟩ nX0_stopsFire ⟨Nat.le_of_ble_eq_true rfl, Nat.le_of_ble_eq_true rfl⟩ 0 rfl rfl rfl rfl (Nat.le_of_ble_eq_true rfl) ⟨Nat.zero_le _, Nat.zero_le _⟩ (wC_adr _ _ _ _) 23 rfl ?_
      refine v_if_ne h dX0_burn_23 64 (by decide) 26 rfl (fun c3 => ?_) (fun c3 => ?_)
      · replace hf := zf c3 hf
        cases (Option.some.inj hf)
        exact v_sub [0, 1] rfl (kx)
      · replace hf := zt c3 hf
        refine v_iload_n h dX0_burn_26 2 rfl 27 rfl ?_
        refine v_aload_n h dX0_burn_27 0 rfl 28 rfl ?_
        refine v_iload h dX0_burn_28 3 rfl 30 rfl ?_
        obtain ⟨u4, hu4, hf⟩ := zb hf
        refine v_wcallVi h (rest := [.int x3]) dX0_burn_30 (tX0_heavinessOf l G ca ad v x4 hu4) gX0_burn_X0_heavinessOf rfl rfl ⟨rfl, rfl⟩ nX0_heavinessOf ⟨Nat.le_of_ble_eq_true rfl, Nat.le_of_ble_eq_true rfl⟩ 0 rfl rfl rfl rfl (Nat.le_of_ble_eq_true rfl) ⟨Nat.zero_le _, Nat.zero_le _⟩ (wC_adr _ _ _ _) 33 rfl ?_
        refine v_icmp_ge h dX0_burn_33 39 (by decide) 36 rfl (fun c5 => ?_) (fun c5 => ?_)
        · replace hf := zt c5 hf
          refine v_iload_n h dX0_burn_39 2 rfl 40 rfl ?_
          refine v_aload_n h dX0_burn_40 0 rfl 41 rfl ?_
          refine v_iload h dX0_burn_41 3 rfl 43 rfl ?_
          obtain ⟨u6, hu6, hf⟩ := zb hf
          refine v_wcallVi h (rest := [.int x3]) dX0_burn_43 (tX0_heavinessOf l G ca ad v x4 hu6) gX0_burn_X0_heavinessOf rfl rfl ⟨rfl, rfl⟩ nX0_heavinessOf ⟨Nat.le_of_ble_eq_true rfl, Nat.le_of_ble_eq_true rfl⟩ 0 rfl rfl rfl rfl (Nat.le_of_ble_eq_true rfl) ⟨Nat.zero_le _, Nat.zero_le _⟩ (wC_adr _ _ _ _) 46 rfl ?_
          refine v_isub h dX0_burn_46 47 rfl ?_
          refine v_istore_n h dX0_burn_47 (Nat.le_of_ble_eq_true rfl) rfl rfl [(0, .ref (ad 0)), (2, .int x2), (3, .int (x3 - u6)), (4, .int x4)] rfl 48 rfl ?_
          refine v_aload_n h dX0_burn_48 0 rfl 49 rfl ?_
          refine v_dup h dX0_burn_49 rfl 50 rfl ?_
          refine v_get h (v := .int v.2.2.2.2.1) dX0_burn_50 iX0_burn_X0 0 rfl rfl 4 (by decide) (zwi 1 rfl) rfl 53 rfl ?_
          refine v_iconst h dX0_burn_53 1 rfl 54 rfl ?_
          refine v_isub h dX0_burn_54 55 rfl ?_
          refine v_put h dX0_burn_55 iX0_burn_X0 tyX0 tyX0_ok nmX0 0 rfl rfl 4 (by decide) (zwi 1 rfl) rfl rfl rfl (Nat.le_of_ble_eq_true rfl) (wC ca ad (v.1, v.2.1, v.2.2.1, v.2.2.2.1, (v.2.2.2.2.1 - 1), v.2.2.2.2.2)) rfl 58 rfl ?_
          refine v_iinc h dX0_burn_58 3 rfl (x4 + (-1)) rfl (Nat.le_of_ble_eq_true rfl) rfl rfl [(0, .ref (ad 0)), (2, .int x2), (3, .int (x3 - u6)), (4, .int (x4 + (-1)))] rfl 61 rfl ?_
          refine v_goto h dX0_burn_61 12 (by decide) ?_
          exact v_sub [0, 1, 2, 3] rfl (ih (v.1, v.2.1, v.2.2.1, v.2.2.2.1, (v.2.2.2.2.1 - 1), v.2.2.2.2.2) x2 (x3 - u6) (x4 + (-1)) _ hf kx)
        · replace hf := zf c5 hf
          refine v_goto h dX0_burn_36 64 (by decide) ?_
          cases (Option.some.inj hf)
          exact v_sub [0, 1] rfl (kx)
def fX0_burn (v : CV) (x1 : Int32) : Option (Int32 × CV) := ((fX0_burn_L12 zF v v.2.2.2.2.1 x1 (v.2.2.2.2.1 - 1)) : Option CV).bind (fun u1 => some ((v.2.2.2.2.1 - u1.2.2.2.2.1), u1))
set_option maxRecDepth 100000 in
set_option maxHeartbeats 4000000 in
theorem tX0_burn (l : Launch) (G : va_G) (ca : Nat → ClassId) (ad : Nat → Nat) (v : CV) (x1 : Int32) {o : (Int32 × CV)} (hf : fX0_burn v x1 = some o) : zMi l yX0_burn wsX0_burn rX0_burn G ca [.ref (ad 0), .int x1] (wC ca ad v) o.1 (wC ca ad o.2) := by
  refine zMi.of (cc := cX0_burn) (nL := 5) (own := RX0) (ty := .int) (by decide) rfl rfl (Nat.le_of_ble_eq_true rfl) (fun X h hE => ?_)
  show V X G 5 0 0 (wC ca ad v) 0 [(0, .ref (ad 0)), (1, .int x1)] []
  unfold fX0_burn at hf
  refine v_aload_n h dX0_burn_0 0 rfl 1 rfl ?_
  refine v_get h (v := .int v.2.2.2.2.1) dX0_burn_1 iX0_burn_X0 0 rfl rfl 4 (by decide) (zwi 1 rfl) rfl 4 rfl ?_
  refine v_istore_n h dX0_burn_4 (Nat.le_of_ble_eq_true rfl) rfl rfl [(0, .ref (ad 0)), (1, .int x1), (2, .int v.2.2.2.2.1)] rfl 5 rfl ?_
  refine v_iload_n h dX0_burn_5 1 rfl 6 rfl ?_
  refine v_istore_n h dX0_burn_6 (Nat.le_of_ble_eq_true rfl) rfl rfl [(0, .ref (ad 0)), (1, .int x1), (2, .int v.2.2.2.2.1), (3, .int x1)] rfl 7 rfl ?_
  refine v_iload_n h dX0_burn_7 2 rfl 8 rfl ?_
  refine v_iconst h dX0_burn_8 1 rfl 9 rfl ?_
  refine v_isub h dX0_burn_9 10 rfl ?_
  refine v_istore h dX0_burn_10 (Nat.le_of_ble_eq_true rfl) rfl rfl [(0, .ref (ad 0)), (1, .int x1), (2, .int v.2.2.2.2.1), (3, .int x1), (4, .int (v.2.2.2.2.1 - 1))] rfl 12 rfl ?_
  obtain ⟨u1, hu1, hf⟩ := zb hf
  refine v_sub [0, 2, 3, 4] rfl ?_
  refine tX0_burn_l12 h zF v v.2.2.2.2.1 x1 (v.2.2.2.2.1 - 1) _ hu1 ?_
  refine v_iload_n h dX0_burn_64 1 rfl 65 rfl ?_
  refine v_aload_n h dX0_burn_65 0 rfl 66 rfl ?_
  refine v_get h (v := .int u1.2.2.2.2.1) dX0_burn_66 iX0_burn_X0 0 rfl rfl 4 (by decide) (zwi 1 rfl) rfl 69 rfl ?_
  refine v_isub h dX0_burn_69 70 rfl ?_
  cases (Option.some.inj hf)
  exact hE 70 _ rfl dX0_burn_70
abbrev rX0_drawOut : Room := { frames := 0, cells := 0, slots := 0, locals := 0 }
theorem nX0_drawOut : zNoMH yX0_drawOut 0 := ⟨by decide +kernel, by decide +kernel, by decide +kernel⟩
theorem iX0_drawOut_X0 : ∀ w ∈ wsX00, w ∈ wsX0_drawOut := fun _ h => (List.mem_cons_of_mem _ (List.mem_append_right _ h))
def fX0_drawOut (v : CV) : Option CV := zlet ((((v.2.2.2.2.2.2.2.toInt64 * 1103515245) + 12345) &&& 2147483647).toInt32 : Int32) (fun d1 => if v.2.2.2.2.1 = 0 then (some (v.1, v.2.1, v.2.2.1, v.2.2.2.1, v.2.2.2.2.1, v.2.2.2.2.2.1, v.2.2.2.2.2.2.1, d1)) else (if ((d1 / 65536) - (d1 / 65536) / 3 * 3) = 0 then (zgrd (znz v.2.2.2.2.1) (zgrd (zix ((d1 / 128) - (d1 / 128) / v.2.2.2.2.1 * v.2.2.2.2.1) 10) (if (zgt v.2.1 ((d1 / 128) - (d1 / 128) / v.2.2.2.2.1 * v.2.2.2.2.1)) ≤ 1 then (some (v.1, v.2.1, v.2.2.1, v.2.2.2.1, v.2.2.2.2.1, v.2.2.2.2.2.1, v.2.2.2.2.2.2.1, d1)) else (some (v.1, (zpt v.2.1 ((d1 / 128) - (d1 / 128) / v.2.2.2.2.1 * v.2.2.2.2.1) ((zgt v.2.1 ((d1 / 128) - (d1 / 128) / v.2.2.2.2.1 * v.2.2.2.2.1)) - 1)), v.2.2.1, v.2.2.2.1, v.2.2.2.2.1, v.2.2.2.2.2.1, v.2.2.2.2.2.2.1, d1))))) else (some (v.1, v.2.1, v.2.2.1, v.2.2.2.1, v.2.2.2.2.1, v.2.2.2.2.2.1, v.2.2.2.2.2.2.1, d1))))
set_option maxRecDepth 100000 in
set_option maxHeartbeats 4000000 in
theorem tX0_drawOut (l : Launch) (G : va_G) (ca : Nat → ClassId) (ad : Nat → Nat) (v : CV)  {o : CV} (hf : fX0_drawOut v = some o) : zMv l yX0_drawOut wsX0_drawOut rX0_drawOut G ca [.ref (ad 0)] (wC ca ad v) (wC ca ad o) := by
  refine zMv.of (cc := cX0_drawOut) (nL := 2) (own := RX0) (by decide) rfl rfl (Nat.le_of_ble_eq_true rfl) (fun X h hE => ?_)
  show V X G 2 0 0 (wC ca ad v) 0 [(0, .ref (ad 0))] []
  unfold fX0_drawOut at hf
  refine v_aload_n h dX0_drawOut_0 0 rfl 1 rfl ?_
  refine v_aload_n h dX0_drawOut_1 0 rfl 2 rfl ?_
  refine v_get h (v := .int v.2.2.2.2.2.2.2) dX0_drawOut_2 iX0_drawOut_X0 0 rfl rfl 7 (by decide) (zwi 1 rfl) rfl 5 rfl ?_
  refine v_i2l h dX0_drawOut_5 6 rfl ?_
  refine v_ldc2 h dX0_drawOut_6 1103515245 (zwi 2 rfl) 9 rfl ?_
  refine v_lmul h dX0_drawOut_9 10 rfl ?_
  refine v_ldc2 h dX0_drawOut_10 12345 (zwi 3 rfl) 13 rfl ?_
  refine v_ladd h dX0_drawOut_13 14 rfl ?_
  refine v_ldc2 h dX0_drawOut_14 2147483647 (zwi 4 rfl) 17 rfl ?_
  refine v_land h dX0_drawOut_17 18 rfl ?_
  refine v_l2i h dX0_drawOut_18 19 rfl ?_
  obtain ⟨d1, ed1, hf⟩ := zl hf
  refine v_topi ed1 ?_
  refine v_put h dX0_drawOut_19 iX0_drawOut_X0 tyX0 tyX0_ok nmX0 0 rfl rfl 7 (by decide) (zwi 1 rfl) rfl rfl rfl (Nat.le_of_ble_eq_true rfl) (wC ca ad (v.1, v.2.1, v.2.2.1, v.2.2.2.1, v.2.2.2.2.1, v.2.2.2.2.2.1, v.2.2.2.2.2.2.1, d1)) rfl 22 rfl ?_
  refine v_aload_n h dX0_drawOut_22 0 rfl 23 rfl ?_
  refine v_get h (v := .int v.2.2.2.2.1) dX0_drawOut_23 iX0_drawOut_X0 0 rfl rfl 4 (by decide) (zwi 5 rfl) rfl 26 rfl ?_
  refine v_if_eq h dX0_drawOut_26 41 (by decide) 29 rfl (fun c2 => ?_) (fun c2 => ?_)
  · replace hf := zt c2 hf
    cases (Option.some.inj hf)
    exact hE 41 _ dX0_drawOut_41
  · replace hf := zf c2 hf
    refine v_aload_n h dX0_drawOut_29 0 rfl 30 rfl ?_
    refine v_get h (v := .int d1) dX0_drawOut_30 iX0_drawOut_X0 0 rfl rfl 7 (by decide) (zwi 1 rfl) rfl 33 rfl ?_
    refine v_ldc h dX0_drawOut_33 65536 (zwi 6 rfl) 35 rfl ?_
    refine v_idiv h dX0_drawOut_35 (by decide) 36 rfl ?_
    refine v_iconst h dX0_drawOut_36 3 rfl 37 rfl ?_
    refine v_irem h dX0_drawOut_37 (by decide) 38 rfl ?_
    refine v_if_eq h dX0_drawOut_38 42 (by decide) 41 rfl (fun c3 => ?_) (fun c3 => ?_)
    · replace hf := zt c3 hf
      refine v_aload_n h dX0_drawOut_42 0 rfl 43 rfl ?_
      refine v_get h (v := .int d1) dX0_drawOut_43 iX0_drawOut_X0 0 rfl rfl 7 (by decide) (zwi 1 rfl) rfl 46 rfl ?_
      refine v_sipush h dX0_drawOut_46 128 rfl 49 rfl ?_
      refine v_idiv h dX0_drawOut_49 (by decide) 50 rfl ?_
      refine v_aload_n h dX0_drawOut_50 0 rfl 51 rfl ?_
      refine v_get h (v := .int v.2.2.2.2.1) dX0_drawOut_51 iX0_drawOut_X0 0 rfl rfl 4 (by decide) (zwi 5 rfl) rfl 54 rfl ?_
      obtain ⟨g4, hf⟩ := zg hf
      refine v_irem h dX0_drawOut_54 (znz_ne g4) 55 rfl ?_
      refine v_istore_n h dX0_drawOut_55 (Nat.le_of_ble_eq_true rfl) rfl rfl [(0, .ref (ad 0)), (1, .int ((d1 / 128) - (d1 / 128) / v.2.2.2.2.1 * v.2.2.2.2.1))] rfl 56 rfl ?_
      refine v_aload_n h dX0_drawOut_56 0 rfl 57 rfl ?_
      refine v_get h (v := .ref (ad 2)) dX0_drawOut_57 iX0_drawOut_X0 0 rfl rfl 1 (by decide) (zwi 7 rfl) rfl 60 rfl ?_
      refine v_iload_n h dX0_drawOut_60 1 rfl 61 rfl ?_
      obtain ⟨g5, hf⟩ := zg hf
      refine v_iald h (f := v.2.1) dX0_drawOut_61 2 0 rfl rfl (zix_in g5) 62 rfl ?_
      refine v_iconst h dX0_drawOut_62 1 rfl 63 rfl ?_
      refine v_icmp_le h dX0_drawOut_63 76 (by decide) 66 rfl (fun c6 => ?_) (fun c6 => ?_)
      · replace hf := zt c6 hf
        cases (Option.some.inj hf)
        exact hE 76 _ dX0_drawOut_76
      · replace hf := zf c6 hf
        refine v_aload_n h dX0_drawOut_66 0 rfl 67 rfl ?_
        refine v_get h (v := .ref (ad 2)) dX0_drawOut_67 iX0_drawOut_X0 0 rfl rfl 1 (by decide) (zwi 7 rfl) rfl 70 rfl ?_
        refine v_iload_n h dX0_drawOut_70 1 rfl 71 rfl ?_
        refine v_dup2 h dX0_drawOut_71 rfl rfl 72 rfl ?_
        refine v_iald h (f := v.2.1) dX0_drawOut_72 2 0 rfl rfl (zix_in g5) 73 rfl ?_
        refine v_iconst h dX0_drawOut_73 1 rfl 74 rfl ?_
        refine v_isub h dX0_drawOut_74 75 rfl ?_
        refine v_iast h (f := v.2.1) dX0_drawOut_75 2 0 rfl rfl (zix_in g5) (wC ca ad (v.1, (zpt v.2.1 ((d1 / 128) - (d1 / 128) / v.2.2.2.2.1 * v.2.2.2.2.1) ((zgt v.2.1 ((d1 / 128) - (d1 / 128) / v.2.2.2.2.1 * v.2.2.2.2.1)) - 1)), v.2.2.1, v.2.2.2.1, v.2.2.2.2.1, v.2.2.2.2.2.1, v.2.2.2.2.2.2.1, d1)) rfl 76 rfl ?_
        cases (Option.some.inj hf)
        exact hE 76 _ dX0_drawOut_76
    · replace hf := zf c3 hf
      cases (Option.some.inj hf)
      exact hE 41 _ dX0_drawOut_41
abbrev rX0_thicken : Room := { frames := 1, cells := 0, slots := 0, locals := 15 }
theorem nX0_thicken : zNoMH yX0_thicken 1 := ⟨by decide +kernel, by decide +kernel, by decide +kernel⟩
theorem iX0_thicken_X0 : ∀ w ∈ wsX00, w ∈ wsX0_thicken := fun _ h => (List.mem_cons_of_mem _ (List.mem_append_right _ h))
def fX0_thicken_L2 : Nat → CV → zAI → Int32 → Option CV
  | 0, _, _, _ => none
  | n + 1, v, st, x2 => if v.2.2.2.2.1 ≤ x2 then (some v) else (zgrd (zix x2 10) (fX0_thicken_L2 n (v.1, (zpt v.2.1 x2 (if ((zgt v.2.1 x2) + (zgt st x2)) < (20 : Int32) then ((zgt v.2.1 x2) + (zgt st x2)) else 20)), v.2.2) st (x2 + 1)))
set_option maxRecDepth 100000 in
set_option maxHeartbeats 4000000 in
theorem tX0_thicken_l2 {X : zX} {l : Launch} {G : va_G} {ca : Nat → ClassId} {ad : Nat → Nat} {a : Nat} (h : zOk X l G ca cX0_thicken RX0 wsX0_thicken 3 rX0_thicken) : ∀ (n : Nat) (v : CV) (st : zAI) (x2 : Int32) (out : CV), fX0_thicken_L2 n v st x2 = some out → (V X G 3 0 0 (wC ca ad out ++ wA ca a 10 st) 37 [] []) → V X G 3 0 0 (wC ca ad v ++ wA ca a 10 st) 2 [(0, .ref (ad 0)), (1, .ref a), (2, .int x2)] [] := by
  intro n
  induction n with
  | zero => intro v st x2 out hf; rw [fX0_thicken_L2] at hf; cases hf
  | succ n ih =>
    intro v st x2 out hf kx
    rw [fX0_thicken_L2] at hf
    refine v_iload_n h dX0_thicken_2 2 rfl 3 rfl ?_
    refine v_aload_n h dX0_thicken_3 0 rfl 4 rfl ?_
    refine v_get h (v := .int v.2.2.2.2.1) dX0_thicken_4 iX0_thicken_X0 0 rfl rfl 4 (by decide) (zwi 1 rfl) rfl 7 rfl ?_
    refine v_icmp_ge h dX0_thicken_7 37 (by decide) 10 rfl (fun c1 => ?_) (fun c1 => ?_)
    · replace hf := zt c1 hf
      cases (Option.some.inj hf)
      exact v_sub [] rfl (kx)
    · replace hf := zf c1 hf
      refine v_aload_n h dX0_thicken_10 0 rfl 11 rfl ?_
      refine v_get h (v := .ref (ad 2)) dX0_thicken_11 iX0_thicken_X0 0 rfl rfl 1 (by decide) (zwi 2 rfl) rfl 14 rfl ?_
      refine v_iload_n h dX0_thicken_14 2 rfl 15 rfl ?_
      refine v_bipush h dX0_thicken_15 20 rfl 17 rfl ?_
      refine v_aload_n h dX0_thicken_17 0 rfl 18 rfl ?_
      refine v_get h (v := .ref (ad 2)) dX0_thicken_18 iX0_thicken_X0 0 rfl rfl 1 (by decide) (zwi 2 rfl) rfl 21 rfl ?_
      refine v_iload_n h dX0_thicken_21 2 rfl 22 rfl ?_
      obtain ⟨g2, hf⟩ := zg hf
      refine v_iald h (f := v.2.1) dX0_thicken_22 2 0 rfl rfl (zix_in g2) 23 rfl ?_
      refine v_aload_n h dX0_thicken_23 1 rfl 24 rfl ?_
      refine v_iload_n h dX0_thicken_24 2 rfl 25 rfl ?_
      refine v_iald h (f := st) dX0_thicken_25 5 0 rfl rfl (zix_in g2) 26 rfl ?_
      refine v_iadd h dX0_thicken_26 27 rfl ?_
      refine v_mmin h dX0_thicken_27 (zwi 3 rfl) (zwi 4 rfl) (zwi 5 rfl) (zwi 6 rfl) (Nat.le_of_ble_eq_true rfl) (Nat.le_of_ble_eq_true rfl) (Nat.zero_le _) (Nat.zero_le _) 30 rfl ?_
      refine v_iast h (f := v.2.1) dX0_thicken_30 2 0 rfl rfl (zix_in g2) (wC ca ad (v.1, (zpt v.2.1 x2 (if ((zgt v.2.1 x2) + (zgt st x2)) < (20 : Int32) then ((zgt v.2.1 x2) + (zgt st x2)) else 20)), v.2.2) ++ wA ca a 10 st) rfl 31 rfl ?_
      refine v_iinc h dX0_thicken_31 2 rfl (x2 + 1) rfl (Nat.le_of_ble_eq_true rfl) rfl rfl [(0, .ref (ad 0)), (1, .ref a), (2, .int (x2 + 1))] rfl 34 rfl ?_
      refine v_goto h dX0_thicken_34 2 (by decide) ?_
      exact v_sub [0, 1, 2] rfl (ih (v.1, (zpt v.2.1 x2 (if ((zgt v.2.1 x2) + (zgt st x2)) < (20 : Int32) then ((zgt v.2.1 x2) + (zgt st x2)) else 20)), v.2.2) st (x2 + 1) _ hf kx)
def fX0_thicken (v : CV) (st : zAI) : Option CV := ((fX0_thicken_L2 zF v st 0) : Option CV).bind (fun u1 => some u1)
set_option maxRecDepth 100000 in
set_option maxHeartbeats 4000000 in
theorem tX0_thicken (l : Launch) (G : va_G) (ca : Nat → ClassId) (ad : Nat → Nat) (a : Nat) (v : CV) (st : zAI)  {o : CV} (hf : fX0_thicken v st = some o) : zMv l yX0_thicken wsX0_thicken rX0_thicken G ca [.ref (ad 0), .ref a] (wC ca ad v ++ wA ca a 10 st) (wC ca ad o ++ wA ca a 10 st) := by
  refine zMv.of (cc := cX0_thicken) (nL := 3) (own := RX0) (by decide) rfl rfl (Nat.le_of_ble_eq_true rfl) (fun X h hE => ?_)
  show V X G 3 0 0 (wC ca ad v ++ wA ca a 10 st) 0 [(0, .ref (ad 0)), (1, .ref a)] []
  unfold fX0_thicken at hf
  refine v_iconst h dX0_thicken_0 0 rfl 1 rfl ?_
  refine v_istore_n h dX0_thicken_1 (Nat.le_of_ble_eq_true rfl) rfl rfl [(0, .ref (ad 0)), (1, .ref a), (2, .int 0)] rfl 2 rfl ?_
  obtain ⟨u1, hu1, hf⟩ := zb hf
  refine v_sub [0, 1, 2] rfl ?_
  refine tX0_thicken_l2 h zF v st 0 _ hu1 ?_
  cases (Option.some.inj hf)
  exact hE 37 _ dX0_thicken_37
abbrev rX0_becomeCoatsOf : Room := { frames := 1, cells := 0, slots := 0, locals := 18 }
theorem nX0_becomeCoatsOf : zNoMH yX0_becomeCoatsOf 1 := ⟨by decide +kernel, by decide +kernel, by decide +kernel⟩
theorem iX0_becomeCoatsOf_X0 : ∀ w ∈ wsX00, w ∈ wsX0_becomeCoatsOf := fun _ h => (List.mem_cons_of_mem _ (List.mem_append_right _ h))
def fX0_becomeCoatsOf (v : CV) (w : CV) : Option CV := some ((zcpy w.1 v.1 0 0 10), (zcpy w.2.1 v.2.1 0 0 10), (zcpy w.2.2.1 v.2.2.1 0 0 10), (zcpy w.2.2.2.1 v.2.2.2.1 0 0 10), w.2.2.2.2.1, v.2.2.2.2.2)
set_option maxRecDepth 100000 in
set_option maxHeartbeats 4000000 in
theorem tX0_becomeCoatsOf (l : Launch) (G : va_G) (ca : Nat → ClassId) (ad : Nat → Nat) (ad2 : Nat → Nat) (v : CV) (w : CV)  {o : CV} (hf : fX0_becomeCoatsOf v w = some o) : zMv l yX0_becomeCoatsOf wsX0_becomeCoatsOf rX0_becomeCoatsOf G ca [.ref (ad 0), .ref (ad2 0)] (wC ca ad v ++ wC ca ad2 w) (wC ca ad o ++ wC ca ad2 w) := by
  refine zMv.of (cc := cX0_becomeCoatsOf) (nL := 2) (own := RX0) (by decide) rfl rfl (Nat.le_of_ble_eq_true rfl) (fun X h hE => ?_)
  show V X G 2 0 0 (wC ca ad v ++ wC ca ad2 w) 0 [(0, .ref (ad 0)), (1, .ref (ad2 0))] []
  unfold fX0_becomeCoatsOf at hf
  refine v_aload_n h dX0_becomeCoatsOf_0 0 rfl 1 rfl ?_
  refine v_aload_n h dX0_becomeCoatsOf_1 1 rfl 2 rfl ?_
  refine v_get h (v := .int w.2.2.2.2.1) dX0_becomeCoatsOf_2 iX0_becomeCoatsOf_X0 5 rfl rfl 4 (by decide) (zwi 1 rfl) rfl 5 rfl ?_
  refine v_put h dX0_becomeCoatsOf_5 iX0_becomeCoatsOf_X0 tyX0 tyX0_ok nmX0 0 rfl rfl 4 (by decide) (zwi 1 rfl) rfl rfl rfl (Nat.le_of_ble_eq_true rfl) (wC ca ad (v.1, v.2.1, v.2.2.1, v.2.2.2.1, w.2.2.2.2.1, v.2.2.2.2.2) ++ wC ca ad2 w) rfl 8 rfl ?_
  refine v_aload_n h dX0_becomeCoatsOf_8 1 rfl 9 rfl ?_
  refine v_get h (v := .ref (ad2 1)) dX0_becomeCoatsOf_9 iX0_becomeCoatsOf_X0 5 rfl rfl 0 (by decide) (zwi 2 rfl) rfl 12 rfl ?_
  refine v_iconst h dX0_becomeCoatsOf_12 0 rfl 13 rfl ?_
  refine v_aload_n h dX0_becomeCoatsOf_13 0 rfl 14 rfl ?_
  refine v_get h (v := .ref (ad 1)) dX0_becomeCoatsOf_14 iX0_becomeCoatsOf_X0 0 rfl rfl 0 (by decide) (zwi 2 rfl) rfl 17 rfl ?_
  refine v_iconst h dX0_becomeCoatsOf_17 0 rfl 18 rfl ?_
  refine v_bipush h dX0_becomeCoatsOf_18 10 rfl 20 rfl ?_
  refine v_copyi h (f := w.1) (g := v.1) dX0_becomeCoatsOf_20 (zwi 3 rfl) (zwi 4 rfl) (zwi 5 rfl) (zwi 6 rfl) 6 1 0 rfl rfl rfl (by decide) (Nat.le_of_ble_eq_true rfl) (Nat.le_of_ble_eq_true rfl) (wC ca ad ((zcpy w.1 v.1 0 0 10), v.2.1, v.2.2.1, v.2.2.2.1, w.2.2.2.2.1, v.2.2.2.2.2) ++ wC ca ad2 w) rfl 23 rfl ?_
  refine v_aload_n h dX0_becomeCoatsOf_23 1 rfl 24 rfl ?_
  refine v_get h (v := .ref (ad2 2)) dX0_becomeCoatsOf_24 iX0_becomeCoatsOf_X0 5 rfl rfl 1 (by decide) (zwi 7 rfl) rfl 27 rfl ?_
  refine v_iconst h dX0_becomeCoatsOf_27 0 rfl 28 rfl ?_
  refine v_aload_n h dX0_becomeCoatsOf_28 0 rfl 29 rfl ?_
  refine v_get h (v := .ref (ad 2)) dX0_becomeCoatsOf_29 iX0_becomeCoatsOf_X0 0 rfl rfl 1 (by decide) (zwi 7 rfl) rfl 32 rfl ?_
  refine v_iconst h dX0_becomeCoatsOf_32 0 rfl 33 rfl ?_
  refine v_bipush h dX0_becomeCoatsOf_33 10 rfl 35 rfl ?_
  refine v_copyi h (f := w.2.1) (g := v.2.1) dX0_becomeCoatsOf_35 (zwi 3 rfl) (zwi 4 rfl) (zwi 5 rfl) (zwi 6 rfl) 7 2 0 rfl rfl rfl (by decide) (Nat.le_of_ble_eq_true rfl) (Nat.le_of_ble_eq_true rfl) (wC ca ad ((zcpy w.1 v.1 0 0 10), (zcpy w.2.1 v.2.1 0 0 10), v.2.2.1, v.2.2.2.1, w.2.2.2.2.1, v.2.2.2.2.2) ++ wC ca ad2 w) rfl 38 rfl ?_
  refine v_aload_n h dX0_becomeCoatsOf_38 1 rfl 39 rfl ?_
  refine v_get h (v := .ref (ad2 3)) dX0_becomeCoatsOf_39 iX0_becomeCoatsOf_X0 5 rfl rfl 2 (by decide) (zwi 8 rfl) rfl 42 rfl ?_
  refine v_iconst h dX0_becomeCoatsOf_42 0 rfl 43 rfl ?_
  refine v_aload_n h dX0_becomeCoatsOf_43 0 rfl 44 rfl ?_
  refine v_get h (v := .ref (ad 3)) dX0_becomeCoatsOf_44 iX0_becomeCoatsOf_X0 0 rfl rfl 2 (by decide) (zwi 8 rfl) rfl 47 rfl ?_
  refine v_iconst h dX0_becomeCoatsOf_47 0 rfl 48 rfl ?_
  refine v_bipush h dX0_becomeCoatsOf_48 10 rfl 50 rfl ?_
  refine v_copyi h (f := w.2.2.1) (g := v.2.2.1) dX0_becomeCoatsOf_50 (zwi 3 rfl) (zwi 4 rfl) (zwi 5 rfl) (zwi 6 rfl) 8 3 0 rfl rfl rfl (by decide) (Nat.le_of_ble_eq_true rfl) (Nat.le_of_ble_eq_true rfl) (wC ca ad ((zcpy w.1 v.1 0 0 10), (zcpy w.2.1 v.2.1 0 0 10), (zcpy w.2.2.1 v.2.2.1 0 0 10), v.2.2.2.1, w.2.2.2.2.1, v.2.2.2.2.2) ++ wC ca ad2 w) rfl 53 rfl ?_
  refine v_aload_n h dX0_becomeCoatsOf_53 1 rfl 54 rfl ?_
  refine v_get h (v := .ref (ad2 4)) dX0_becomeCoatsOf_54 iX0_becomeCoatsOf_X0 5 rfl rfl 3 (by decide) (zwi 9 rfl) rfl 57 rfl ?_
  refine v_iconst h dX0_becomeCoatsOf_57 0 rfl 58 rfl ?_
  refine v_aload_n h dX0_becomeCoatsOf_58 0 rfl 59 rfl ?_
  refine v_get h (v := .ref (ad 4)) dX0_becomeCoatsOf_59 iX0_becomeCoatsOf_X0 0 rfl rfl 3 (by decide) (zwi 9 rfl) rfl 62 rfl ?_
  refine v_iconst h dX0_becomeCoatsOf_62 0 rfl 63 rfl ?_
  refine v_bipush h dX0_becomeCoatsOf_63 10 rfl 65 rfl ?_
  refine v_copyi h (f := w.2.2.2.1) (g := v.2.2.2.1) dX0_becomeCoatsOf_65 (zwi 3 rfl) (zwi 4 rfl) (zwi 5 rfl) (zwi 6 rfl) 9 4 0 rfl rfl rfl (by decide) (Nat.le_of_ble_eq_true rfl) (Nat.le_of_ble_eq_true rfl) (wC ca ad ((zcpy w.1 v.1 0 0 10), (zcpy w.2.1 v.2.1 0 0 10), (zcpy w.2.2.1 v.2.2.1 0 0 10), (zcpy w.2.2.2.1 v.2.2.2.1 0 0 10), w.2.2.2.2.1, v.2.2.2.2.2) ++ wC ca ad2 w) rfl 68 rfl ?_
  cases (Option.some.inj hf)
  exact hE 68 _ dX0_becomeCoatsOf_68
abbrev rX0_become : Room := { frames := 2, cells := 0, slots := 0, locals := 39 }
theorem nX0_become : zNoMH yX0_become 1 := ⟨by decide +kernel, by decide +kernel, by decide +kernel⟩
theorem iX0_become_X0 : ∀ w ∈ wsX00, w ∈ wsX0_become := fun _ h => (List.mem_cons_of_mem _ (List.mem_append_right _ h))
def fX0_become (v : CV) (w : CV) : Option CV := ((fX0_becomeCoatsOf v w) : Option CV).bind (fun u1 => some (u1.1, u1.2.1, u1.2.2.1, u1.2.2.2.1, u1.2.2.2.2.1, w.2.2.2.2.2.1, w.2.2.2.2.2.2.1, w.2.2.2.2.2.2.2))
set_option maxRecDepth 100000 in
set_option maxHeartbeats 4000000 in
theorem tX0_become (l : Launch) (G : va_G) (ca : Nat → ClassId) (ad : Nat → Nat) (ad2 : Nat → Nat) (v : CV) (w : CV)  {o : CV} (hf : fX0_become v w = some o) : zMv l yX0_become wsX0_become rX0_become G ca [.ref (ad 0), .ref (ad2 0)] (wC ca ad v ++ wC ca ad2 w) (wC ca ad o ++ wC ca ad2 w) := by
  refine zMv.of (cc := cX0_become) (nL := 2) (own := RX0) (by decide) rfl rfl (Nat.le_of_ble_eq_true rfl) (fun X h hE => ?_)
  show V X G 2 0 0 (wC ca ad v ++ wC ca ad2 w) 0 [(0, .ref (ad 0)), (1, .ref (ad2 0))] []
  unfold fX0_become at hf
  refine v_aload_n h dX0_become_0 0 rfl 1 rfl ?_
  refine v_aload_n h dX0_become_1 1 rfl 2 rfl ?_
  obtain ⟨u1, hu1, hf⟩ := zb hf
  refine v_wcallVv h (rest := []) dX0_become_2 (tX0_becomeCoatsOf l G ca ad ad2 v w  hu1) gX0_become_X0_becomeCoatsOf rfl rfl ⟨rfl, rfl⟩ nX0_becomeCoatsOf ⟨Nat.le_of_ble_eq_true rfl, Nat.le_of_ble_eq_true rfl⟩ 0 rfl rfl rfl rfl (Nat.le_of_ble_eq_true rfl) ⟨Nat.zero_le _, Nat.zero_le _⟩ rfl 5 rfl ?_
  refine v_aload_n h dX0_become_5 0 rfl 6 rfl ?_
  refine v_aload_n h dX0_become_6 1 rfl 7 rfl ?_
  refine v_get h (v := .int w.2.2.2.2.2.1) dX0_become_7 iX0_become_X0 5 rfl rfl 5 (by decide) (zwi 1 rfl) rfl 10 rfl ?_
  refine v_put h dX0_become_10 iX0_become_X0 tyX0 tyX0_ok nmX0 0 rfl rfl 5 (by decide) (zwi 1 rfl) rfl rfl rfl (Nat.le_of_ble_eq_true rfl) (wC ca ad (u1.1, u1.2.1, u1.2.2.1, u1.2.2.2.1, u1.2.2.2.2.1, w.2.2.2.2.2.1, u1.2.2.2.2.2.2) ++ wC ca ad2 w) rfl 13 rfl ?_
  refine v_aload_n h dX0_become_13 0 rfl 14 rfl ?_
  refine v_aload_n h dX0_become_14 1 rfl 15 rfl ?_
  refine v_get h (v := .int w.2.2.2.2.2.2.1) dX0_become_15 iX0_become_X0 5 rfl rfl 6 (by decide) (zwi 2 rfl) rfl 18 rfl ?_
  refine v_put h dX0_become_18 iX0_become_X0 tyX0 tyX0_ok nmX0 0 rfl rfl 6 (by decide) (zwi 2 rfl) rfl rfl rfl (Nat.le_of_ble_eq_true rfl) (wC ca ad (u1.1, u1.2.1, u1.2.2.1, u1.2.2.2.1, u1.2.2.2.2.1, w.2.2.2.2.2.1, w.2.2.2.2.2.2.1, u1.2.2.2.2.2.2.2) ++ wC ca ad2 w) rfl 21 rfl ?_
  refine v_aload_n h dX0_become_21 0 rfl 22 rfl ?_
  refine v_aload_n h dX0_become_22 1 rfl 23 rfl ?_
  refine v_get h (v := .int w.2.2.2.2.2.2.2) dX0_become_23 iX0_become_X0 5 rfl rfl 7 (by decide) (zwi 3 rfl) rfl 26 rfl ?_
  refine v_put h dX0_become_26 iX0_become_X0 tyX0 tyX0_ok nmX0 0 rfl rfl 7 (by decide) (zwi 3 rfl) rfl rfl rfl (Nat.le_of_ble_eq_true rfl) (wC ca ad (u1.1, u1.2.1, u1.2.2.1, u1.2.2.2.1, u1.2.2.2.2.1, w.2.2.2.2.2.1, w.2.2.2.2.2.2.1, w.2.2.2.2.2.2.2) ++ wC ca ad2 w) rfl 29 rfl ?_
  cases (Option.some.inj hf)
  exact hE 29 _ dX0_become_29
