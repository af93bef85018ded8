/-! constructors -/
def z0 : zAI := fun _ => 0
def z0L : zAL := fun _ => 0
def cv0 : CV := (z0, z0, z0, z0, 0, 0, 0, 1)
def wv0 : WV := (z0, 0)
def hv0 : HV := (80, wv0, cv0, (fun _ => cv0), 0, 0)
def pv0 : PV := (z0, z0, 0, 0, 0)
def sv0 : SV := (z0L, 0, 0, 0)
def tv0 : TV := (z0, wv0, cv0, 0, 0, 0, -1)
def xv0 : XV := (hv0, hv0, cv0, pv0, tv0, (fun _ => sv0), 0)
def mv0 : MV := (zpt (zpt (zpt (zpt z0 0 (-1)) 1 (-1)) 2 (-1)) 3 (-1), z0, z0L, 0, z0, 0, 0, zpt (zpt z0 1 1) 44 80, z0, z0, z0, 0, z0, z0, z0)
theorem zAOc : ∀ U, zN U → va_AO "ThatchCoats$Coats" U := fun _ h => h.2.1
theorem zAOs : ∀ U, zN U → va_AO "ThatchCoats$Sheet" U := fun _ h => h.2.2
theorem zj_0_8 : vp_in 0 8 := by unfold vp_in; decide
theorem zj_1_8 : vp_in 1 8 := by unfold vp_in; decide
theorem zj_2_8 : vp_in 2 8 := by unfold vp_in; decide
theorem zj_3_8 : vp_in 3 8 := by unfold vp_in; decide
theorem zj_4_8 : vp_in 4 8 := by unfold vp_in; decide
theorem zj_5_8 : vp_in 5 8 := by unfold vp_in; decide
theorem zj_6_8 : vp_in 6 8 := by unfold vp_in; decide
theorem zj_7_8 : vp_in 7 8 := by unfold vp_in; decide
theorem zj_0_4 : vp_in 0 4 := by unfold vp_in; decide
theorem zj_1_4 : vp_in 1 4 := by unfold vp_in; decide
theorem zj_2_4 : vp_in 2 4 := by unfold vp_in; decide
theorem zj_3_4 : vp_in 3 4 := by unfold vp_in; decide
theorem zj_1_407 : vp_in 1 407 := by unfold vp_in; decide
theorem zj_44_407 : vp_in 44 407 := by unfold vp_in; decide
abbrev dfX0 : List Value := [.null, .null, .null, .null, .int 0, .int 0, .int 0, .int 0]
theorem dfX0_ok : ∀ j, j < 8 → defaultValue (tyX0 j) = vp_V dfX0 j := by
  intro j hj
  rcases (show j = 0 ∨ j = 1 ∨ j = 2 ∨ j = 3 ∨ j = 4 ∨ j = 5 ∨ j = 6 ∨ j = 7 by omega) with rfl | rfl | rfl | rfl | rfl | rfl | rfl | rfl <;> rfl
abbrev dfX1 : List Value := [.int 0, .null, .null, .null, .int 0, .int 0]
theorem dfX1_ok : ∀ j, j < 6 → defaultValue (tyX1 j) = vp_V dfX1 j := by
  intro j hj
  rcases (show j = 0 ∨ j = 1 ∨ j = 2 ∨ j = 3 ∨ j = 4 ∨ j = 5 by omega) with rfl | rfl | rfl | rfl | rfl | rfl <;> rfl
abbrev dfX2 : List Value := [.null, .null, .int 0, .int 0, .int 0]
theorem dfX2_ok : ∀ j, j < 5 → defaultValue (tyX2 j) = vp_V dfX2 j := by
  intro j hj
  rcases (show j = 0 ∨ j = 1 ∨ j = 2 ∨ j = 3 ∨ j = 4 by omega) with rfl | rfl | rfl | rfl | rfl <;> rfl
abbrev dfX3 : List Value := [.null, .int 0, .int 0, .int 0]
theorem dfX3_ok : ∀ j, j < 4 → defaultValue (tyX3 j) = vp_V dfX3 j := by
  intro j hj
  rcases (show j = 0 ∨ j = 1 ∨ j = 2 ∨ j = 3 by omega) with rfl | rfl | rfl | rfl <;> rfl
abbrev dfX4 : List Value := [.null, .null, .null, .int 0, .int 0, .int 0, .int 0]
theorem dfX4_ok : ∀ j, j < 7 → defaultValue (tyX4 j) = vp_V dfX4 j := by
  intro j hj
  rcases (show j = 0 ∨ j = 1 ∨ j = 2 ∨ j = 3 ∨ j = 4 ∨ j = 5 ∨ j = 6 by omega) with rfl | rfl | rfl | rfl | rfl | rfl | rfl <;> rfl
abbrev dfX5 : List Value := [.null, .int 0]
theorem dfX5_ok : ∀ j, j < 2 → defaultValue (tyX5 j) = vp_V dfX5 j := by
  intro j hj
  rcases (show j = 0 ∨ j = 1 by omega) with rfl | rfl <;> rfl
abbrev dfX6 : List Value := [.null, .null, .null, .null, .null, .null, .int 0]
theorem dfX6_ok : ∀ j, j < 7 → defaultValue (tyX6 j) = vp_V dfX6 j := by
  intro j hj
  rcases (show j = 0 ∨ j = 1 ∨ j = 2 ∨ j = 3 ∨ j = 4 ∨ j = 5 ∨ j = 6 by omega) with rfl | rfl | rfl | rfl | rfl | rfl | rfl <;> rfl
abbrev dfX7 : List Value := [.null, .null, .null, .int 0, .null, .int 0, .int 0, .null, .null, .null, .null, .int 0, .null, .null, .null]
theorem dfX7_ok : ∀ j, j < 15 → defaultValue (tyX7 j) = vp_V dfX7 j := by
  intro j hj
  rcases (show j = 0 ∨ j = 1 ∨ j = 2 ∨ j = 3 ∨ j = 4 ∨ j = 5 ∨ j = 6 ∨ j = 7 ∨ j = 8 ∨ j = 9 ∨ j = 10 ∨ j = 11 ∨ j = 12 ∨ j = 13 ∨ j = 14 by omega) with rfl | rfl | rfl | rfl | rfl | rfl | rfl | rfl | rfl | rfl | rfl | rfl | rfl | rfl | rfl <;> rfl
abbrev rX0_init : Room := { frames := 1, cells := 4, slots := 40, locals := 12 }
theorem nX0_init : zNoMH yX0_init 0 := ⟨by decide +kernel, by decide +kernel, by decide +kernel⟩
theorem iX0_init_X0 : ∀ w ∈ wsX00, w ∈ wsX0_init := fun _ h => (List.mem_cons_of_mem _ (List.mem_append_right _ h))
set_option maxRecDepth 100000 in
set_option maxHeartbeats 4000000 in
theorem kX0_init (l : Launch) (G : va_G) (ca : Nat → ClassId) : zMc l yX0_init wsX0_init rX0_init G ca 0 dfX0 4 40 (fun ad => wC ca ad cv0) := by
  refine zMc.of (cc := cX0_init) (nL := 1) (own := RX0) (by decide) rfl rfl rfl (Nat.le_of_ble_eq_true rfl) (fun X a h hI hE => ?_)
  refine v_aload_n h dX0_init_0 0 rfl 1 rfl ?_
  refine v_objInit h dX0_init_1 (zwi 1 rfl) (zwi 2 rfl) (zwi 3 rfl) (Nat.le_of_ble_eq_true rfl) (Nat.le_of_ble_eq_true rfl) 4 rfl ?_
  refine v_aload_n h dX0_init_4 0 rfl 5 rfl ?_
  refine v_bipush h dX0_init_5 10 rfl 7 rfl ?_
  refine v_newa h (10, .inl z0) dX0_init_7 (zwi 4 rfl) rfl 0 _ rfl (fun _ => rfl) (by decide) rfl (Nat.le_of_ble_eq_true rfl) (Nat.le_of_ble_eq_true rfl) (Nat.le_of_ble_eq_true rfl) 1 10 rfl rfl 9 rfl (fun q1 => ?_)
  refine v_putF h hI dX0_init_9 iX0_init_X0 tyX0 tyX0_ok nmX0 0 rfl rfl 0 (by decide) (zwi 5 rfl) rfl rfl rfl rfl (Nat.le_of_ble_eq_true rfl) ([(a, .inr (0, [.ref q1, .null, .null, .null, .int 0, .int 0, .int 0, .int 0]))] ++ [(q1, .inl (ca 0, 10, .inl z0))]) rfl 12 rfl ?_
  refine v_aload_n h dX0_init_12 0 rfl 13 rfl ?_
  refine v_bipush h dX0_init_13 10 rfl 15 rfl ?_
  refine v_newa h (10, .inl z0) dX0_init_15 (zwi 4 rfl) rfl 0 _ rfl (fun _ => rfl) (by decide) rfl (Nat.le_of_ble_eq_true rfl) (Nat.le_of_ble_eq_true rfl) (Nat.le_of_ble_eq_true rfl) 2 20 rfl rfl 17 rfl (fun q2 => ?_)
  refine v_putF h hI dX0_init_17 iX0_init_X0 tyX0 tyX0_ok nmX0 0 rfl rfl 1 (by decide) (zwi 6 rfl) rfl rfl rfl rfl (Nat.le_of_ble_eq_true rfl) ([(a, .inr (0, [.ref q1, .ref q2, .null, .null, .int 0, .int 0, .int 0, .int 0]))] ++ [(q1, .inl (ca 0, 10, .inl z0))] ++ [(q2, .inl (ca 0, 10, .inl z0))]) rfl 20 rfl ?_
  refine v_aload_n h dX0_init_20 0 rfl 21 rfl ?_
  refine v_bipush h dX0_init_21 10 rfl 23 rfl ?_
  refine v_newa h (10, .inl z0) dX0_init_23 (zwi 4 rfl) rfl 0 _ rfl (fun _ => rfl) (by decide) rfl (Nat.le_of_ble_eq_true rfl) (Nat.le_of_ble_eq_true rfl) (Nat.le_of_ble_eq_true rfl) 3 30 rfl rfl 25 rfl (fun q3 => ?_)
  refine v_putF h hI dX0_init_25 iX0_init_X0 tyX0 tyX0_ok nmX0 0 rfl rfl 2 (by decide) (zwi 7 rfl) rfl rfl rfl rfl (Nat.le_of_ble_eq_true rfl) ([(a, .inr (0, [.ref q1, .ref q2, .ref q3, .null, .int 0, .int 0, .int 0, .int 0]))] ++ [(q1, .inl (ca 0, 10, .inl z0))] ++ [(q2, .inl (ca 0, 10, .inl z0))] ++ [(q3, .inl (ca 0, 10, .inl z0))]) rfl 28 rfl ?_
  refine v_aload_n h dX0_init_28 0 rfl 29 rfl ?_
  refine v_bipush h dX0_init_29 10 rfl 31 rfl ?_
  refine v_newa h (10, .inl z0) dX0_init_31 (zwi 4 rfl) rfl 0 _ rfl (fun _ => rfl) (by decide) rfl (Nat.le_of_ble_eq_true rfl) (Nat.le_of_ble_eq_true rfl) (Nat.le_of_ble_eq_true rfl) 4 40 rfl rfl 33 rfl (fun q4 => ?_)
  refine v_putF h hI dX0_init_33 iX0_init_X0 tyX0 tyX0_ok nmX0 0 rfl rfl 3 (by decide) (zwi 8 rfl) rfl rfl rfl rfl (Nat.le_of_ble_eq_true rfl) ([(a, .inr (0, [.ref q1, .ref q2, .ref q3, .ref q4, .int 0, .int 0, .int 0, .int 0]))] ++ [(q1, .inl (ca 0, 10, .inl z0))] ++ [(q2, .inl (ca 0, 10, .inl z0))] ++ [(q3, .inl (ca 0, 10, .inl z0))] ++ [(q4, .inl (ca 0, 10, .inl z0))]) rfl 36 rfl ?_
  refine v_aload_n h dX0_init_36 0 rfl 37 rfl ?_
  refine v_iconst h dX0_init_37 0 rfl 38 rfl ?_
  refine v_put h dX0_init_38 iX0_init_X0 tyX0 tyX0_ok nmX0 0 rfl rfl 4 (by decide) (zwi 9 rfl) rfl rfl rfl (Nat.le_of_ble_eq_true rfl) ([(a, .inr (0, [.ref q1, .ref q2, .ref q3, .ref q4, .int 0, .int 0, .int 0, .int 0]))] ++ [(q1, .inl (ca 0, 10, .inl z0))] ++ [(q2, .inl (ca 0, 10, .inl z0))] ++ [(q3, .inl (ca 0, 10, .inl z0))] ++ [(q4, .inl (ca 0, 10, .inl z0))]) rfl 41 rfl ?_
  refine v_aload_n h dX0_init_41 0 rfl 42 rfl ?_
  refine v_iconst h dX0_init_42 0 rfl 43 rfl ?_
  refine v_put h dX0_init_43 iX0_init_X0 tyX0 tyX0_ok nmX0 0 rfl rfl 5 (by decide) (zwi 10 rfl) rfl rfl rfl (Nat.le_of_ble_eq_true rfl) ([(a, .inr (0, [.ref q1, .ref q2, .ref q3, .ref q4, .int 0, .int 0, .int 0, .int 0]))] ++ [(q1, .inl (ca 0, 10, .inl z0))] ++ [(q2, .inl (ca 0, 10, .inl z0))] ++ [(q3, .inl (ca 0, 10, .inl z0))] ++ [(q4, .inl (ca 0, 10, .inl z0))]) rfl 46 rfl ?_
  refine v_aload_n h dX0_init_46 0 rfl 47 rfl ?_
  refine v_iconst h dX0_init_47 0 rfl 48 rfl ?_
  refine v_put h dX0_init_48 iX0_init_X0 tyX0 tyX0_ok nmX0 0 rfl rfl 6 (by decide) (zwi 11 rfl) rfl rfl rfl (Nat.le_of_ble_eq_true rfl) ([(a, .inr (0, [.ref q1, .ref q2, .ref q3, .ref q4, .int 0, .int 0, .int 0, .int 0]))] ++ [(q1, .inl (ca 0, 10, .inl z0))] ++ [(q2, .inl (ca 0, 10, .inl z0))] ++ [(q3, .inl (ca 0, 10, .inl z0))] ++ [(q4, .inl (ca 0, 10, .inl z0))]) rfl 51 rfl ?_
  refine v_aload_n h dX0_init_51 0 rfl 52 rfl ?_
  refine v_iconst h dX0_init_52 1 rfl 53 rfl ?_
  refine v_put h dX0_init_53 iX0_init_X0 tyX0 tyX0_ok nmX0 0 rfl rfl 7 (by decide) (zwi 12 rfl) rfl rfl rfl (Nat.le_of_ble_eq_true rfl) ([(a, .inr (0, [.ref q1, .ref q2, .ref q3, .ref q4, .int 0, .int 0, .int 0, .int 1]))] ++ [(q1, .inl (ca 0, 10, .inl z0))] ++ [(q2, .inl (ca 0, 10, .inl z0))] ++ [(q3, .inl (ca 0, 10, .inl z0))] ++ [(q4, .inl (ca 0, 10, .inl z0))]) rfl 56 rfl ?_
  exact v_w (w' := wC ca (fun k => ([a, q1, q2, q3, q4] : List Nat).getD k 0) cv0) rfl (hE 56 _ (fun k => ([a, q1, q2, q3, q4] : List Nat).getD k 0) rfl dX0_init_56)
abbrev rX5_init : Room := { frames := 1, cells := 1, slots := 8, locals := 12 }
theorem nX5_init : zNoMH yX5_init 0 := ⟨by decide +kernel, by decide +kernel, by decide +kernel⟩
theorem iX5_init_X5 : ∀ w ∈ wsX50, w ∈ wsX5_init := fun _ h => (List.mem_cons_of_mem _ (List.mem_append_right _ h))
set_option maxRecDepth 100000 in
set_option maxHeartbeats 4000000 in
theorem kX5_init (l : Launch) (G : va_G) (ca : Nat → ClassId) : zMc l yX5_init wsX5_init rX5_init G ca 5 dfX5 1 8 (fun ad => wW ca ad wv0) := by
  refine zMc.of (cc := cX5_init) (nL := 1) (own := RX5) (by decide) rfl rfl rfl (Nat.le_of_ble_eq_true rfl) (fun X a h hI hE => ?_)
  refine v_aload_n h dX5_init_0 0 rfl 1 rfl ?_
  refine v_objInit h dX5_init_1 (zwi 1 rfl) (zwi 2 rfl) (zwi 3 rfl) (Nat.le_of_ble_eq_true rfl) (Nat.le_of_ble_eq_true rfl) 4 rfl ?_
  refine v_aload_n h dX5_init_4 0 rfl 5 rfl ?_
  refine v_bipush h dX5_init_5 8 rfl 7 rfl ?_
  refine v_newa h (8, .inl z0) dX5_init_7 (zwi 4 rfl) rfl 0 _ rfl (fun _ => rfl) (by decide) rfl (Nat.le_of_ble_eq_true rfl) (Nat.le_of_ble_eq_true rfl) (Nat.le_of_ble_eq_true rfl) 1 8 rfl rfl 9 rfl (fun q1 => ?_)
  refine v_putF h hI dX5_init_9 iX5_init_X5 tyX5 tyX5_ok nmX5 0 rfl rfl 0 (by decide) (zwi 5 rfl) rfl rfl rfl rfl (Nat.le_of_ble_eq_true rfl) ([(a, .inr (5, [.ref q1, .int 0]))] ++ [(q1, .inl (ca 0, 8, .inl z0))]) rfl 12 rfl ?_
  refine v_aload_n h dX5_init_12 0 rfl 13 rfl ?_
  refine v_iconst h dX5_init_13 0 rfl 14 rfl ?_
  refine v_put h dX5_init_14 iX5_init_X5 tyX5 tyX5_ok nmX5 0 rfl rfl 1 (by decide) (zwi 6 rfl) rfl rfl rfl (Nat.le_of_ble_eq_true rfl) ([(a, .inr (5, [.ref q1, .int 0]))] ++ [(q1, .inl (ca 0, 8, .inl z0))]) rfl 17 rfl ?_
  exact v_w (w' := wW ca (fun k => ([a, q1] : List Nat).getD k 0) wv0) rfl (hE 17 _ (fun k => ([a, q1] : List Nat).getD k 0) rfl dX5_init_17)
abbrev rX2_init : Room := { frames := 1, cells := 2, slots := 20, locals := 12 }
theorem nX2_init : zNoMH yX2_init 0 := ⟨by decide +kernel, by decide +kernel, by decide +kernel⟩
theorem iX2_init_X2 : ∀ w ∈ wsX20, w ∈ wsX2_init := fun _ h => (List.mem_cons_of_mem _ (List.mem_append_right _ h))
set_option maxRecDepth 100000 in
set_option maxHeartbeats 4000000 in
theorem kX2_init (l : Launch) (G : va_G) (ca : Nat → ClassId) : zMc l yX2_init wsX2_init rX2_init G ca 2 dfX2 2 20 (fun ad => wP ca ad pv0) := by
  refine zMc.of (cc := cX2_init) (nL := 1) (own := RX2) (by decide) rfl rfl rfl (Nat.le_of_ble_eq_true rfl) (fun X a h hI hE => ?_)
  refine v_aload_n h dX2_init_0 0 rfl 1 rfl ?_
  refine v_objInit h dX2_init_1 (zwi 1 rfl) (zwi 2 rfl) (zwi 3 rfl) (Nat.le_of_ble_eq_true rfl) (Nat.le_of_ble_eq_true rfl) 4 rfl ?_
  refine v_aload_n h dX2_init_4 0 rfl 5 rfl ?_
  refine v_bipush h dX2_init_5 10 rfl 7 rfl ?_
  refine v_newa h (10, .inl z0) dX2_init_7 (zwi 4 rfl) rfl 0 _ rfl (fun _ => rfl) (by decide) rfl (Nat.le_of_ble_eq_true rfl) (Nat.le_of_ble_eq_true rfl) (Nat.le_of_ble_eq_true rfl) 1 10 rfl rfl 9 rfl (fun q1 => ?_)
  refine v_putF h hI dX2_init_9 iX2_init_X2 tyX2 tyX2_ok nmX2 0 rfl rfl 0 (by decide) (zwi 5 rfl) rfl rfl rfl rfl (Nat.le_of_ble_eq_true rfl) ([(a, .inr (2, [.ref q1, .null, .int 0, .int 0, .int 0]))] ++ [(q1, .inl (ca 0, 10, .inl z0))]) rfl 12 rfl ?_
  refine v_aload_n h dX2_init_12 0 rfl 13 rfl ?_
  refine v_bipush h dX2_init_13 10 rfl 15 rfl ?_
  refine v_newa h (10, .inl z0) dX2_init_15 (zwi 4 rfl) rfl 0 _ rfl (fun _ => rfl) (by decide) rfl (Nat.le_of_ble_eq_true rfl) (Nat.le_of_ble_eq_true rfl) (Nat.le_of_ble_eq_true rfl) 2 20 rfl rfl 17 rfl (fun q2 => ?_)
  refine v_putF h hI dX2_init_17 iX2_init_X2 tyX2 tyX2_ok nmX2 0 rfl rfl 1 (by decide) (zwi 6 rfl) rfl rfl rfl rfl (Nat.le_of_ble_eq_true rfl) ([(a, .inr (2, [.ref q1, .ref q2, .int 0, .int 0, .int 0]))] ++ [(q1, .inl (ca 0, 10, .inl z0))] ++ [(q2, .inl (ca 0, 10, .inl z0))]) rfl 20 rfl ?_
  refine v_aload_n h dX2_init_20 0 rfl 21 rfl ?_
  refine v_iconst h dX2_init_21 0 rfl 22 rfl ?_
  refine v_put h dX2_init_22 iX2_init_X2 tyX2 tyX2_ok nmX2 0 rfl rfl 2 (by decide) (zwi 7 rfl) rfl rfl rfl (Nat.le_of_ble_eq_true rfl) ([(a, .inr (2, [.ref q1, .ref q2, .int 0, .int 0, .int 0]))] ++ [(q1, .inl (ca 0, 10, .inl z0))] ++ [(q2, .inl (ca 0, 10, .inl z0))]) rfl 25 rfl ?_
  refine v_aload_n h dX2_init_25 0 rfl 26 rfl ?_
  refine v_iconst h dX2_init_26 0 rfl 27 rfl ?_
  refine v_put h dX2_init_27 iX2_init_X2 tyX2 tyX2_ok nmX2 0 rfl rfl 3 (by decide) (zwi 8 rfl) rfl rfl rfl (Nat.le_of_ble_eq_true rfl) ([(a, .inr (2, [.ref q1, .ref q2, .int 0, .int 0, .int 0]))] ++ [(q1, .inl (ca 0, 10, .inl z0))] ++ [(q2, .inl (ca 0, 10, .inl z0))]) rfl 30 rfl ?_
  refine v_aload_n h dX2_init_30 0 rfl 31 rfl ?_
  refine v_iconst h dX2_init_31 0 rfl 32 rfl ?_
  refine v_put h dX2_init_32 iX2_init_X2 tyX2 tyX2_ok nmX2 0 rfl rfl 4 (by decide) (zwi 9 rfl) rfl rfl rfl (Nat.le_of_ble_eq_true rfl) ([(a, .inr (2, [.ref q1, .ref q2, .int 0, .int 0, .int 0]))] ++ [(q1, .inl (ca 0, 10, .inl z0))] ++ [(q2, .inl (ca 0, 10, .inl z0))]) rfl 35 rfl ?_
  exact v_w (w' := wP ca (fun k => ([a, q1, q2] : List Nat).getD k 0) pv0) rfl (hE 35 _ (fun k => ([a, q1, q2] : List Nat).getD k 0) rfl dX2_init_35)
abbrev rX3_init : Room := { frames := 1, cells := 1, slots := 24, locals := 12 }
theorem nX3_init : zNoMH yX3_init 0 := ⟨by decide +kernel, by decide +kernel, by decide +kernel⟩
theorem iX3_init_X3 : ∀ w ∈ wsX30, w ∈ wsX3_init := fun _ h => (List.mem_cons_of_mem _ (List.mem_append_right _ h))
set_option maxRecDepth 100000 in
set_option maxHeartbeats 4000000 in
theorem kX3_init (l : Launch) (G : va_G) (ca : Nat → ClassId) : zMc l yX3_init wsX3_init rX3_init G ca 3 dfX3 1 24 (fun ad => wS ca ad sv0) := by
  refine zMc.of (cc := cX3_init) (nL := 1) (own := RX3) (by decide) rfl rfl rfl (Nat.le_of_ble_eq_true rfl) (fun X a h hI hE => ?_)
  refine v_aload_n h dX3_init_0 0 rfl 1 rfl ?_
  refine v_objInit h dX3_init_1 (zwi 1 rfl) (zwi 2 rfl) (zwi 3 rfl) (Nat.le_of_ble_eq_true rfl) (Nat.le_of_ble_eq_true rfl) 4 rfl ?_
  refine v_aload_n h dX3_init_4 0 rfl 5 rfl ?_
  refine v_bipush h dX3_init_5 24 rfl 7 rfl ?_
  refine v_newa h (24, .inr (.inl z0L)) dX3_init_7 (zwi 4 rfl) rfl 1 _ rfl (fun _ => rfl) (by decide) rfl (Nat.le_of_ble_eq_true rfl) (Nat.le_of_ble_eq_true rfl) (Nat.le_of_ble_eq_true rfl) 1 24 rfl rfl 9 rfl (fun q1 => ?_)
  refine v_putF h hI dX3_init_9 iX3_init_X3 tyX3 tyX3_ok nmX3 0 rfl rfl 0 (by decide) (zwi 5 rfl) rfl rfl rfl rfl (Nat.le_of_ble_eq_true rfl) ([(a, .inr (3, [.ref q1, .int 0, .int 0, .int 0]))] ++ [(q1, .inl (ca 1, 24, .inr (.inl z0L)))]) rfl 12 rfl ?_
  refine v_aload_n h dX3_init_12 0 rfl 13 rfl ?_
  refine v_iconst h dX3_init_13 0 rfl 14 rfl ?_
  refine v_put h dX3_init_14 iX3_init_X3 tyX3 tyX3_ok nmX3 0 rfl rfl 1 (by decide) (zwi 6 rfl) rfl rfl rfl (Nat.le_of_ble_eq_true rfl) ([(a, .inr (3, [.ref q1, .int 0, .int 0, .int 0]))] ++ [(q1, .inl (ca 1, 24, .inr (.inl z0L)))]) rfl 17 rfl ?_
  refine v_aload_n h dX3_init_17 0 rfl 18 rfl ?_
  refine v_iconst h dX3_init_18 0 rfl 19 rfl ?_
  refine v_put h dX3_init_19 iX3_init_X3 tyX3 tyX3_ok nmX3 0 rfl rfl 2 (by decide) (zwi 7 rfl) rfl rfl rfl (Nat.le_of_ble_eq_true rfl) ([(a, .inr (3, [.ref q1, .int 0, .int 0, .int 0]))] ++ [(q1, .inl (ca 1, 24, .inr (.inl z0L)))]) rfl 22 rfl ?_
  refine v_aload_n h dX3_init_22 0 rfl 23 rfl ?_
  refine v_iconst h dX3_init_23 0 rfl 24 rfl ?_
  refine v_put h dX3_init_24 iX3_init_X3 tyX3 tyX3_ok nmX3 0 rfl rfl 3 (by decide) (zwi 8 rfl) rfl rfl rfl (Nat.le_of_ble_eq_true rfl) ([(a, .inr (3, [.ref q1, .int 0, .int 0, .int 0]))] ++ [(q1, .inl (ca 1, 24, .inr (.inl z0L)))]) rfl 27 rfl ?_
  exact v_w (w' := wS ca (fun k => ([a, q1] : List Nat).getD k 0) sv0) rfl (hE 27 _ (fun k => ([a, q1] : List Nat).getD k 0) rfl dX3_init_27)
abbrev rX4_init : Room := { frames := 2, cells := 8, slots := 148, locals := 32 }
theorem nX4_init : zNoMH yX4_init 0 := ⟨by decide +kernel, by decide +kernel, by decide +kernel⟩
theorem iX4_init_X4 : ∀ w ∈ wsX40, w ∈ wsX4_init := fun _ h => (List.mem_cons_of_mem _ (List.mem_append_left _ (List.mem_append_left _ (List.mem_append_right _ h))))
theorem iX4_init_X5 : ∀ w ∈ wsX50, w ∈ wsX4_init := fun _ h => (List.mem_cons_of_mem _ (List.mem_append_left _ (List.mem_append_right _ h)))
theorem iX4_init_X0 : ∀ w ∈ wsX00, w ∈ wsX4_init := fun _ h => (List.mem_cons_of_mem _ (List.mem_append_right _ h))
set_option maxRecDepth 100000 in
set_option maxHeartbeats 4000000 in
theorem kX4_init (l : Launch) (G : va_G) (ca : Nat → ClassId) : zMc l yX4_init wsX4_init rX4_init G ca 4 dfX4 8 148 (fun ad => wT ca ad tv0) := by
  refine zMc.of (cc := cX4_init) (nL := 1) (own := RX4) (by decide) rfl rfl rfl (Nat.le_of_ble_eq_true rfl) (fun X a h hI hE => ?_)
  refine v_aload_n h dX4_init_0 0 rfl 1 rfl ?_
  refine v_objInit h dX4_init_1 (zwi 1 rfl) (zwi 2 rfl) (zwi 3 rfl) (Nat.le_of_ble_eq_true rfl) (Nat.le_of_ble_eq_true rfl) 4 rfl ?_
  refine v_aload_n h dX4_init_4 0 rfl 5 rfl ?_
  refine v_bipush h dX4_init_5 90 rfl 7 rfl ?_
  refine v_newa h (90, .inl z0) dX4_init_7 (zwi 4 rfl) rfl 2 _ rfl (fun _ => rfl) (by decide) rfl (Nat.le_of_ble_eq_true rfl) (Nat.le_of_ble_eq_true rfl) (Nat.le_of_ble_eq_true rfl) 1 90 rfl rfl 9 rfl (fun q1 => ?_)
  refine v_putF h hI dX4_init_9 iX4_init_X4 tyX4 tyX4_ok nmX4 0 rfl rfl 0 (by decide) (zwi 5 rfl) rfl rfl rfl rfl (Nat.le_of_ble_eq_true rfl) ([(a, .inr (4, [.ref q1, .null, .null, .int 0, .int 0, .int 0, .int 0]))] ++ [(q1, .inl (ca 2, 90, .inl z0))]) rfl 12 rfl ?_
  refine v_aload_n h dX4_init_12 0 rfl 13 rfl ?_
  refine v_new (ci := 5) h dfX5 dX4_init_13 iX4_init_X5 tyX5 tyX5_ok (zwi 6 rfl) (zwi 7 rfl) (zwi 8 rfl) rfl dfX5_ok (Nat.le_of_ble_eq_true rfl) (Nat.le_of_ble_eq_true rfl) 2 92 rfl rfl 16 rfl (fun q2 => ?_)
  refine v_dup h dX4_init_16 rfl 17 rfl ?_
  refine v_ctorN h dX4_init_17 (kX5_init l G ca) gX4_init_X5_init_n17 (List.mem_of_getElem? (i := 6) rfl) (zwi 18 rfl) (zwi 8 rfl) rfl rfl ⟨rfl, rfl⟩ nX5_init ⟨(Nat.le_of_ble_eq_true rfl), (Nat.le_of_ble_eq_true rfl)⟩ (Nat.le_of_ble_eq_true rfl) ⟨(Nat.le_of_ble_eq_true rfl), (Nat.le_of_ble_eq_true rfl)⟩ 3 100 rfl rfl 20 rfl (fun ad3 hb3 => ?_)
  subst hb3
  refine v_putF h hI dX4_init_20 iX4_init_X4 tyX4 tyX4_ok nmX4 0 rfl rfl 1 (by decide) (zwi 9 rfl) rfl rfl rfl rfl (Nat.le_of_ble_eq_true rfl) ([(a, .inr (4, [.ref q1, .ref (ad3 0), .null, .int 0, .int 0, .int 0, .int 0]))] ++ [(q1, .inl (ca 2, 90, .inl z0))] ++ wW ca ad3 wv0) rfl 23 rfl ?_
  refine v_aload_n h dX4_init_23 0 rfl 24 rfl ?_
  refine v_new (ci := 0) h dfX0 dX4_init_24 iX4_init_X0 tyX0 tyX0_ok (zwi 10 rfl) (zwi 11 rfl) (zwi 12 rfl) rfl dfX0_ok (Nat.le_of_ble_eq_true rfl) (Nat.le_of_ble_eq_true rfl) 4 108 rfl rfl 27 rfl (fun q4 => ?_)
  refine v_dup h dX4_init_27 rfl 28 rfl ?_
  refine v_ctorN h dX4_init_28 (kX0_init l G ca) gX4_init_X0_init_n24 (List.mem_of_getElem? (i := 7) rfl) (zwi 24 rfl) (zwi 12 rfl) rfl rfl ⟨rfl, rfl⟩ nX0_init ⟨(Nat.le_of_ble_eq_true rfl), (Nat.le_of_ble_eq_true rfl)⟩ (Nat.le_of_ble_eq_true rfl) ⟨(Nat.le_of_ble_eq_true rfl), (Nat.le_of_ble_eq_true rfl)⟩ 8 148 rfl rfl 31 rfl (fun ad5 hb5 => ?_)
  subst hb5
  refine v_putF h hI dX4_init_31 iX4_init_X4 tyX4 tyX4_ok nmX4 0 rfl rfl 2 (by decide) (zwi 13 rfl) rfl rfl rfl rfl (Nat.le_of_ble_eq_true rfl) ([(a, .inr (4, [.ref q1, .ref (ad3 0), .ref (ad5 0), .int 0, .int 0, .int 0, .int 0]))] ++ [(q1, .inl (ca 2, 90, .inl z0))] ++ wW ca ad3 wv0 ++ wC ca ad5 cv0) rfl 34 rfl ?_
  refine v_aload_n h dX4_init_34 0 rfl 35 rfl ?_
  refine v_iconst h dX4_init_35 0 rfl 36 rfl ?_
  refine v_put h dX4_init_36 iX4_init_X4 tyX4 tyX4_ok nmX4 0 rfl rfl 3 (by decide) (zwi 14 rfl) rfl rfl rfl (Nat.le_of_ble_eq_true rfl) ([(a, .inr (4, [.ref q1, .ref (ad3 0), .ref (ad5 0), .int 0, .int 0, .int 0, .int 0]))] ++ [(q1, .inl (ca 2, 90, .inl z0))] ++ wW ca ad3 wv0 ++ wC ca ad5 cv0) rfl 39 rfl ?_
  refine v_aload_n h dX4_init_39 0 rfl 40 rfl ?_
  refine v_iconst h dX4_init_40 0 rfl 41 rfl ?_
  refine v_put h dX4_init_41 iX4_init_X4 tyX4 tyX4_ok nmX4 0 rfl rfl 4 (by decide) (zwi 15 rfl) rfl rfl rfl (Nat.le_of_ble_eq_true rfl) ([(a, .inr (4, [.ref q1, .ref (ad3 0), .ref (ad5 0), .int 0, .int 0, .int 0, .int 0]))] ++ [(q1, .inl (ca 2, 90, .inl z0))] ++ wW ca ad3 wv0 ++ wC ca ad5 cv0) rfl 44 rfl ?_
  refine v_aload_n h dX4_init_44 0 rfl 45 rfl ?_
  refine v_iconst h dX4_init_45 0 rfl 46 rfl ?_
  refine v_put h dX4_init_46 iX4_init_X4 tyX4 tyX4_ok nmX4 0 rfl rfl 5 (by decide) (zwi 16 rfl) rfl rfl rfl (Nat.le_of_ble_eq_true rfl) ([(a, .inr (4, [.ref q1, .ref (ad3 0), .ref (ad5 0), .int 0, .int 0, .int 0, .int 0]))] ++ [(q1, .inl (ca 2, 90, .inl z0))] ++ wW ca ad3 wv0 ++ wC ca ad5 cv0) rfl 49 rfl ?_
  refine v_aload_n h dX4_init_49 0 rfl 50 rfl ?_
  refine v_iconst h dX4_init_50 (-1) rfl 51 rfl ?_
  refine v_put h dX4_init_51 iX4_init_X4 tyX4 tyX4_ok nmX4 0 rfl rfl 6 (by decide) (zwi 17 rfl) rfl rfl rfl (Nat.le_of_ble_eq_true rfl) ([(a, .inr (4, [.ref q1, .ref (ad3 0), .ref (ad5 0), .int 0, .int 0, .int 0, .int (-1)]))] ++ [(q1, .inl (ca 2, 90, .inl z0))] ++ wW ca ad3 wv0 ++ wC ca ad5 cv0) rfl 54 rfl ?_
  exact v_w (w' := wT ca (fun k => ([a, q1, ad3 0, ad3 1, ad5 0, ad5 1, ad5 2, ad5 3, ad5 4] : List Nat).getD k 0) tv0) rfl (hE 54 _ (fun k => ([a, q1, ad3 0, ad3 1, ad5 0, ad5 1, ad5 2, ad5 3, ad5 4] : List Nat).getD k 0) rfl dX4_init_54)
abbrev rX7_init : Room := { frames := 1, cells := 11, slots := 1852, locals := 12 }
theorem nX7_init : zNoMH yX7_init 0 := ⟨by decide +kernel, by decide +kernel, by decide +kernel⟩
theorem iX7_init_X7 : ∀ w ∈ wsX70, w ∈ wsX7_init := fun _ h => (List.mem_cons_of_mem _ (List.mem_append_right _ h))
set_option maxRecDepth 100000 in
set_option maxHeartbeats 4000000 in
theorem kX7_init (l : Launch) (G : va_G) (ca : Nat → ClassId) : zMc l yX7_init wsX7_init rX7_init G ca 7 dfX7 11 1852 (fun ad => wM ca ad mv0) := by
  refine zMc.of (cc := cX7_init) (nL := 2) (own := RX7) (by decide) rfl rfl rfl (Nat.le_of_ble_eq_true rfl) (fun X a h hI hE => ?_)
  refine v_aload_n h dX7_init_0 0 rfl 1 rfl ?_
  refine v_objInit h dX7_init_1 (zwi 1 rfl) (zwi 2 rfl) (zwi 3 rfl) (Nat.le_of_ble_eq_true rfl) (Nat.le_of_ble_eq_true rfl) 4 rfl ?_
  refine v_aload_n h dX7_init_4 0 rfl 5 rfl ?_
  refine v_iconst h dX7_init_5 4 rfl 6 rfl ?_
  refine v_newa h (4, .inl z0) dX7_init_6 (zwi 4 rfl) rfl 0 _ rfl (fun _ => rfl) (by decide) rfl (Nat.le_of_ble_eq_true rfl) (Nat.le_of_ble_eq_true rfl) (Nat.le_of_ble_eq_true rfl) 1 4 rfl rfl 8 rfl (fun q1 => ?_)
  refine v_putF h hI dX7_init_8 iX7_init_X7 tyX7 tyX7_ok nmX7 0 rfl rfl 0 (by decide) (zwi 5 rfl) rfl rfl rfl rfl (Nat.le_of_ble_eq_true rfl) ([(a, .inr (7, [.ref q1, .null, .null, .int 0, .null, .int 0, .int 0, .null, .null, .null, .null, .int 0, .null, .null, .null]))] ++ [(q1, .inl (ca 0, 4, .inl z0))]) rfl 11 rfl ?_
  refine v_aload_n h dX7_init_11 0 rfl 12 rfl ?_
  refine v_iconst h dX7_init_12 4 rfl 13 rfl ?_
  refine v_newa h (4, .inl z0) dX7_init_13 (zwi 4 rfl) rfl 0 _ rfl (fun _ => rfl) (by decide) rfl (Nat.le_of_ble_eq_true rfl) (Nat.le_of_ble_eq_true rfl) (Nat.le_of_ble_eq_true rfl) 2 8 rfl rfl 15 rfl (fun q2 => ?_)
  refine v_putF h hI dX7_init_15 iX7_init_X7 tyX7 tyX7_ok nmX7 0 rfl rfl 1 (by decide) (zwi 6 rfl) rfl rfl rfl rfl (Nat.le_of_ble_eq_true rfl) ([(a, .inr (7, [.ref q1, .ref q2, .null, .int 0, .null, .int 0, .int 0, .null, .null, .null, .null, .int 0, .null, .null, .null]))] ++ [(q1, .inl (ca 0, 4, .inl z0))] ++ [(q2, .inl (ca 0, 4, .inl z0))]) rfl 18 rfl ?_
  refine v_aload_n h dX7_init_18 0 rfl 19 rfl ?_
  refine v_bipush h dX7_init_19 96 rfl 21 rfl ?_
  refine v_newa h (96, .inr (.inl z0L)) dX7_init_21 (zwi 7 rfl) rfl 1 _ rfl (fun _ => rfl) (by decide) rfl (Nat.le_of_ble_eq_true rfl) (Nat.le_of_ble_eq_true rfl) (Nat.le_of_ble_eq_true rfl) 3 104 rfl rfl 23 rfl (fun q3 => ?_)
  refine v_putF h hI dX7_init_23 iX7_init_X7 tyX7 tyX7_ok nmX7 0 rfl rfl 2 (by decide) (zwi 8 rfl) rfl rfl rfl rfl (Nat.le_of_ble_eq_true rfl) ([(a, .inr (7, [.ref q1, .ref q2, .ref q3, .int 0, .null, .int 0, .int 0, .null, .null, .null, .null, .int 0, .null, .null, .null]))] ++ [(q1, .inl (ca 0, 4, .inl z0))] ++ [(q2, .inl (ca 0, 4, .inl z0))] ++ [(q3, .inl (ca 1, 96, .inr (.inl z0L)))]) rfl 26 rfl ?_
  refine v_aload_n h dX7_init_26 0 rfl 27 rfl ?_
  refine v_bipush h dX7_init_27 90 rfl 29 rfl ?_
  refine v_newa h (90, .inl z0) dX7_init_29 (zwi 4 rfl) rfl 0 _ rfl (fun _ => rfl) (by decide) rfl (Nat.le_of_ble_eq_true rfl) (Nat.le_of_ble_eq_true rfl) (Nat.le_of_ble_eq_true rfl) 4 194 rfl rfl 31 rfl (fun q4 => ?_)
  refine v_putF h hI dX7_init_31 iX7_init_X7 tyX7 tyX7_ok nmX7 0 rfl rfl 4 (by decide) (zwi 9 rfl) rfl rfl rfl rfl (Nat.le_of_ble_eq_true rfl) ([(a, .inr (7, [.ref q1, .ref q2, .ref q3, .int 0, .ref q4, .int 0, .int 0, .null, .null, .null, .null, .int 0, .null, .null, .null]))] ++ [(q1, .inl (ca 0, 4, .inl z0))] ++ [(q2, .inl (ca 0, 4, .inl z0))] ++ [(q3, .inl (ca 1, 96, .inr (.inl z0L)))] ++ [(q4, .inl (ca 0, 90, .inl z0))]) rfl 34 rfl ?_
  refine v_aload_n h dX7_init_34 0 rfl 35 rfl ?_
  refine v_sipush h dX7_init_35 407 rfl 38 rfl ?_
  refine v_newa h (407, .inl z0) dX7_init_38 (zwi 4 rfl) rfl 0 _ rfl (fun _ => rfl) (by decide) rfl (Nat.le_of_ble_eq_true rfl) (Nat.le_of_ble_eq_true rfl) (Nat.le_of_ble_eq_true rfl) 5 601 rfl rfl 40 rfl (fun q5 => ?_)
  refine v_putF h hI dX7_init_40 iX7_init_X7 tyX7 tyX7_ok nmX7 0 rfl rfl 7 (by decide) (zwi 10 rfl) rfl rfl rfl rfl (Nat.le_of_ble_eq_true rfl) ([(a, .inr (7, [.ref q1, .ref q2, .ref q3, .int 0, .ref q4, .int 0, .int 0, .ref q5, .null, .null, .null, .int 0, .null, .null, .null]))] ++ [(q1, .inl (ca 0, 4, .inl z0))] ++ [(q2, .inl (ca 0, 4, .inl z0))] ++ [(q3, .inl (ca 1, 96, .inr (.inl z0L)))] ++ [(q4, .inl (ca 0, 90, .inl z0))] ++ [(q5, .inl (ca 0, 407, .inl z0))]) rfl 43 rfl ?_
  refine v_aload_n h dX7_init_43 0 rfl 44 rfl ?_
  refine v_sipush h dX7_init_44 407 rfl 47 rfl ?_
  refine v_newa h (407, .inl z0) dX7_init_47 (zwi 4 rfl) rfl 0 _ rfl (fun _ => rfl) (by decide) rfl (Nat.le_of_ble_eq_true rfl) (Nat.le_of_ble_eq_true rfl) (Nat.le_of_ble_eq_true rfl) 6 1008 rfl rfl 49 rfl (fun q6 => ?_)
  refine v_putF h hI dX7_init_49 iX7_init_X7 tyX7 tyX7_ok nmX7 0 rfl rfl 8 (by decide) (zwi 11 rfl) rfl rfl rfl rfl (Nat.le_of_ble_eq_true rfl) ([(a, .inr (7, [.ref q1, .ref q2, .ref q3, .int 0, .ref q4, .int 0, .int 0, .ref q5, .ref q6, .null, .null, .int 0, .null, .null, .null]))] ++ [(q1, .inl (ca 0, 4, .inl z0))] ++ [(q2, .inl (ca 0, 4, .inl z0))] ++ [(q3, .inl (ca 1, 96, .inr (.inl z0L)))] ++ [(q4, .inl (ca 0, 90, .inl z0))] ++ [(q5, .inl (ca 0, 407, .inl z0))] ++ [(q6, .inl (ca 0, 407, .inl z0))]) rfl 52 rfl ?_
  refine v_aload_n h dX7_init_52 0 rfl 53 rfl ?_
  refine v_sipush h dX7_init_53 407 rfl 56 rfl ?_
  refine v_newa h (407, .inl z0) dX7_init_56 (zwi 4 rfl) rfl 0 _ rfl (fun _ => rfl) (by decide) rfl (Nat.le_of_ble_eq_true rfl) (Nat.le_of_ble_eq_true rfl) (Nat.le_of_ble_eq_true rfl) 7 1415 rfl rfl 58 rfl (fun q7 => ?_)
  refine v_putF h hI dX7_init_58 iX7_init_X7 tyX7 tyX7_ok nmX7 0 rfl rfl 9 (by decide) (zwi 12 rfl) rfl rfl rfl rfl (Nat.le_of_ble_eq_true rfl) ([(a, .inr (7, [.ref q1, .ref q2, .ref q3, .int 0, .ref q4, .int 0, .int 0, .ref q5, .ref q6, .ref q7, .null, .int 0, .null, .null, .null]))] ++ [(q1, .inl (ca 0, 4, .inl z0))] ++ [(q2, .inl (ca 0, 4, .inl z0))] ++ [(q3, .inl (ca 1, 96, .inr (.inl z0L)))] ++ [(q4, .inl (ca 0, 90, .inl z0))] ++ [(q5, .inl (ca 0, 407, .inl z0))] ++ [(q6, .inl (ca 0, 407, .inl z0))] ++ [(q7, .inl (ca 0, 407, .inl z0))]) rfl 61 rfl ?_
  refine v_aload_n h dX7_init_61 0 rfl 62 rfl ?_
  refine v_sipush h dX7_init_62 407 rfl 65 rfl ?_
  refine v_newa h (407, .inl z0) dX7_init_65 (zwi 4 rfl) rfl 0 _ rfl (fun _ => rfl) (by decide) rfl (Nat.le_of_ble_eq_true rfl) (Nat.le_of_ble_eq_true rfl) (Nat.le_of_ble_eq_true rfl) 8 1822 rfl rfl 67 rfl (fun q8 => ?_)
  refine v_putF h hI dX7_init_67 iX7_init_X7 tyX7 tyX7_ok nmX7 0 rfl rfl 10 (by decide) (zwi 13 rfl) rfl rfl rfl rfl (Nat.le_of_ble_eq_true rfl) ([(a, .inr (7, [.ref q1, .ref q2, .ref q3, .int 0, .ref q4, .int 0, .int 0, .ref q5, .ref q6, .ref q7, .ref q8, .int 0, .null, .null, .null]))] ++ [(q1, .inl (ca 0, 4, .inl z0))] ++ [(q2, .inl (ca 0, 4, .inl z0))] ++ [(q3, .inl (ca 1, 96, .inr (.inl z0L)))] ++ [(q4, .inl (ca 0, 90, .inl z0))] ++ [(q5, .inl (ca 0, 407, .inl z0))] ++ [(q6, .inl (ca 0, 407, .inl z0))] ++ [(q7, .inl (ca 0, 407, .inl z0))] ++ [(q8, .inl (ca 0, 407, .inl z0))]) rfl 70 rfl ?_
  refine v_aload_n h dX7_init_70 0 rfl 71 rfl ?_
  refine v_bipush h dX7_init_71 10 rfl 73 rfl ?_
  refine v_newa h (10, .inl z0) dX7_init_73 (zwi 4 rfl) rfl 0 _ rfl (fun _ => rfl) (by decide) rfl (Nat.le_of_ble_eq_true rfl) (Nat.le_of_ble_eq_true rfl) (Nat.le_of_ble_eq_true rfl) 9 1832 rfl rfl 75 rfl (fun q9 => ?_)
  refine v_putF h hI dX7_init_75 iX7_init_X7 tyX7 tyX7_ok nmX7 0 rfl rfl 12 (by decide) (zwi 14 rfl) rfl rfl rfl rfl (Nat.le_of_ble_eq_true rfl) ([(a, .inr (7, [.ref q1, .ref q2, .ref q3, .int 0, .ref q4, .int 0, .int 0, .ref q5, .ref q6, .ref q7, .ref q8, .int 0, .ref q9, .null, .null]))] ++ [(q1, .inl (ca 0, 4, .inl z0))] ++ [(q2, .inl (ca 0, 4, .inl z0))] ++ [(q3, .inl (ca 1, 96, .inr (.inl z0L)))] ++ [(q4, .inl (ca 0, 90, .inl z0))] ++ [(q5, .inl (ca 0, 407, .inl z0))] ++ [(q6, .inl (ca 0, 407, .inl z0))] ++ [(q7, .inl (ca 0, 407, .inl z0))] ++ [(q8, .inl (ca 0, 407, .inl z0))] ++ [(q9, .inl (ca 0, 10, .inl z0))]) rfl 78 rfl ?_
  refine v_aload_n h dX7_init_78 0 rfl 79 rfl ?_
  refine v_bipush h dX7_init_79 10 rfl 81 rfl ?_
  refine v_newa h (10, .inl z0) dX7_init_81 (zwi 4 rfl) rfl 0 _ rfl (fun _ => rfl) (by decide) rfl (Nat.le_of_ble_eq_true rfl) (Nat.le_of_ble_eq_true rfl) (Nat.le_of_ble_eq_true rfl) 10 1842 rfl rfl 83 rfl (fun q10 => ?_)
  refine v_putF h hI dX7_init_83 iX7_init_X7 tyX7 tyX7_ok nmX7 0 rfl rfl 13 (by decide) (zwi 15 rfl) rfl rfl rfl rfl (Nat.le_of_ble_eq_true rfl) ([(a, .inr (7, [.ref q1, .ref q2, .ref q3, .int 0, .ref q4, .int 0, .int 0, .ref q5, .ref q6, .ref q7, .ref q8, .int 0, .ref q9, .ref q10, .null]))] ++ [(q1, .inl (ca 0, 4, .inl z0))] ++ [(q2, .inl (ca 0, 4, .inl z0))] ++ [(q3, .inl (ca 1, 96, .inr (.inl z0L)))] ++ [(q4, .inl (ca 0, 90, .inl z0))] ++ [(q5, .inl (ca 0, 407, .inl z0))] ++ [(q6, .inl (ca 0, 407, .inl z0))] ++ [(q7, .inl (ca 0, 407, .inl z0))] ++ [(q8, .inl (ca 0, 407, .inl z0))] ++ [(q9, .inl (ca 0, 10, .inl z0))] ++ [(q10, .inl (ca 0, 10, .inl z0))]) rfl 86 rfl ?_
  refine v_aload_n h dX7_init_86 0 rfl 87 rfl ?_
  refine v_bipush h dX7_init_87 10 rfl 89 rfl ?_
  refine v_newa h (10, .inl z0) dX7_init_89 (zwi 4 rfl) rfl 0 _ rfl (fun _ => rfl) (by decide) rfl (Nat.le_of_ble_eq_true rfl) (Nat.le_of_ble_eq_true rfl) (Nat.le_of_ble_eq_true rfl) 11 1852 rfl rfl 91 rfl (fun q11 => ?_)
  refine v_putF h hI dX7_init_91 iX7_init_X7 tyX7 tyX7_ok nmX7 0 rfl rfl 14 (by decide) (zwi 16 rfl) rfl rfl rfl rfl (Nat.le_of_ble_eq_true rfl) ([(a, .inr (7, [.ref q1, .ref q2, .ref q3, .int 0, .ref q4, .int 0, .int 0, .ref q5, .ref q6, .ref q7, .ref q8, .int 0, .ref q9, .ref q10, .ref q11]))] ++ [(q1, .inl (ca 0, 4, .inl z0))] ++ [(q2, .inl (ca 0, 4, .inl z0))] ++ [(q3, .inl (ca 1, 96, .inr (.inl z0L)))] ++ [(q4, .inl (ca 0, 90, .inl z0))] ++ [(q5, .inl (ca 0, 407, .inl z0))] ++ [(q6, .inl (ca 0, 407, .inl z0))] ++ [(q7, .inl (ca 0, 407, .inl z0))] ++ [(q8, .inl (ca 0, 407, .inl z0))] ++ [(q9, .inl (ca 0, 10, .inl z0))] ++ [(q10, .inl (ca 0, 10, .inl z0))] ++ [(q11, .inl (ca 0, 10, .inl z0))]) rfl 94 rfl ?_
  refine v_iconst h dX7_init_94 0 rfl 95 rfl ?_
  refine v_istore_n h dX7_init_95 (Nat.le_of_ble_eq_true rfl) rfl rfl [(0, .ref a), (1, .int 0)] rfl 96 rfl ?_
  refine v_iload_n h dX7_init_96 1 rfl 97 rfl ?_
  refine v_iconst h dX7_init_97 4 rfl 98 rfl ?_
  refine v_icmp_ge h dX7_init_98 114 (by decide) 101 rfl (fun c => absurd c (by decide)) (fun _ => ?_)
  refine v_aload_n h dX7_init_101 0 rfl 102 rfl ?_
  refine v_get h (v := .ref q1) dX7_init_102 iX7_init_X7 0 rfl rfl 0 (by decide) (zwi 5 rfl) rfl 105 rfl ?_
  refine v_iload_n h dX7_init_105 1 rfl 106 rfl ?_
  refine v_iconst h dX7_init_106 (-1) rfl 107 rfl ?_
  refine v_iast h (f := z0) dX7_init_107 1 0 rfl rfl zj_0_4 ([(a, .inr (7, [.ref q1, .ref q2, .ref q3, .int 0, .ref q4, .int 0, .int 0, .ref q5, .ref q6, .ref q7, .ref q8, .int 0, .ref q9, .ref q10, .ref q11]))] ++ [(q1, .inl (ca 0, 4, .inl (zpt z0 0 (-1))))] ++ [(q2, .inl (ca 0, 4, .inl z0))] ++ [(q3, .inl (ca 1, 96, .inr (.inl z0L)))] ++ [(q4, .inl (ca 0, 90, .inl z0))] ++ [(q5, .inl (ca 0, 407, .inl z0))] ++ [(q6, .inl (ca 0, 407, .inl z0))] ++ [(q7, .inl (ca 0, 407, .inl z0))] ++ [(q8, .inl (ca 0, 407, .inl z0))] ++ [(q9, .inl (ca 0, 10, .inl z0))] ++ [(q10, .inl (ca 0, 10, .inl z0))] ++ [(q11, .inl (ca 0, 10, .inl z0))]) rfl 108 rfl ?_
  refine v_iinc h dX7_init_108 1 rfl 1 rfl (Nat.le_of_ble_eq_true rfl) rfl rfl [(0, .ref a), (1, .int 1)] rfl 111 rfl ?_
  refine v_goto h dX7_init_111 96 (by decide) ?_
  refine v_iload_n h dX7_init_96 1 rfl 97 rfl ?_
  refine v_iconst h dX7_init_97 4 rfl 98 rfl ?_
  refine v_icmp_ge h dX7_init_98 114 (by decide) 101 rfl (fun c => absurd c (by decide)) (fun _ => ?_)
  refine v_aload_n h dX7_init_101 0 rfl 102 rfl ?_
  refine v_get h (v := .ref q1) dX7_init_102 iX7_init_X7 0 rfl rfl 0 (by decide) (zwi 5 rfl) rfl 105 rfl ?_
  refine v_iload_n h dX7_init_105 1 rfl 106 rfl ?_
  refine v_iconst h dX7_init_106 (-1) rfl 107 rfl ?_
  refine v_iast h (f := (zpt z0 0 (-1))) dX7_init_107 1 0 rfl rfl zj_1_4 ([(a, .inr (7, [.ref q1, .ref q2, .ref q3, .int 0, .ref q4, .int 0, .int 0, .ref q5, .ref q6, .ref q7, .ref q8, .int 0, .ref q9, .ref q10, .ref q11]))] ++ [(q1, .inl (ca 0, 4, .inl (zpt (zpt z0 0 (-1)) 1 (-1))))] ++ [(q2, .inl (ca 0, 4, .inl z0))] ++ [(q3, .inl (ca 1, 96, .inr (.inl z0L)))] ++ [(q4, .inl (ca 0, 90, .inl z0))] ++ [(q5, .inl (ca 0, 407, .inl z0))] ++ [(q6, .inl (ca 0, 407, .inl z0))] ++ [(q7, .inl (ca 0, 407, .inl z0))] ++ [(q8, .inl (ca 0, 407, .inl z0))] ++ [(q9, .inl (ca 0, 10, .inl z0))] ++ [(q10, .inl (ca 0, 10, .inl z0))] ++ [(q11, .inl (ca 0, 10, .inl z0))]) rfl 108 rfl ?_
  refine v_iinc h dX7_init_108 1 rfl 2 rfl (Nat.le_of_ble_eq_true rfl) rfl rfl [(0, .ref a), (1, .int 2)] rfl 111 rfl ?_
  refine v_goto h dX7_init_111 96 (by decide) ?_
  refine v_iload_n h dX7_init_96 1 rfl 97 rfl ?_
  refine v_iconst h dX7_init_97 4 rfl 98 rfl ?_
  refine v_icmp_ge h dX7_init_98 114 (by decide) 101 rfl (fun c => absurd c (by decide)) (fun _ => ?_)
  refine v_aload_n h dX7_init_101 0 rfl 102 rfl ?_
  refine v_get h (v := .ref q1) dX7_init_102 iX7_init_X7 0 rfl rfl 0 (by decide) (zwi 5 rfl) rfl 105 rfl ?_
  refine v_iload_n h dX7_init_105 1 rfl 106 rfl ?_
  refine v_iconst h dX7_init_106 (-1) rfl 107 rfl ?_
  refine v_iast h (f := (zpt (zpt z0 0 (-1)) 1 (-1))) dX7_init_107 1 0 rfl rfl zj_2_4 ([(a, .inr (7, [.ref q1, .ref q2, .ref q3, .int 0, .ref q4, .int 0, .int 0, .ref q5, .ref q6, .ref q7, .ref q8, .int 0, .ref q9, .ref q10, .ref q11]))] ++ [(q1, .inl (ca 0, 4, .inl (zpt (zpt (zpt z0 0 (-1)) 1 (-1)) 2 (-1))))] ++ [(q2, .inl (ca 0, 4, .inl z0))] ++ [(q3, .inl (ca 1, 96, .inr (.inl z0L)))] ++ [(q4, .inl (ca 0, 90, .inl z0))] ++ [(q5, .inl (ca 0, 407, .inl z0))] ++ [(q6, .inl (ca 0, 407, .inl z0))] ++ [(q7, .inl (ca 0, 407, .inl z0))] ++ [(q8, .inl (ca 0, 407, .inl z0))] ++ [(q9, .inl (ca 0, 10, .inl z0))] ++ [(q10, .inl (ca 0, 10, .inl z0))] ++ [(q11, .inl (ca 0, 10, .inl z0))]) rfl 108 rfl ?_
  refine v_iinc h dX7_init_108 1 rfl 3 rfl (Nat.le_of_ble_eq_true rfl) rfl rfl [(0, .ref a), (1, .int 3)] rfl 111 rfl ?_
  refine v_goto h dX7_init_111 96 (by decide) ?_
  refine v_iload_n h dX7_init_96 1 rfl 97 rfl ?_
  refine v_iconst h dX7_init_97 4 rfl 98 rfl ?_
  refine v_icmp_ge h dX7_init_98 114 (by decide) 101 rfl (fun c => absurd c (by decide)) (fun _ => ?_)
  refine v_aload_n h dX7_init_101 0 rfl 102 rfl ?_
  refine v_get h (v := .ref q1) dX7_init_102 iX7_init_X7 0 rfl rfl 0 (by decide) (zwi 5 rfl) rfl 105 rfl ?_
  refine v_iload_n h dX7_init_105 1 rfl 106 rfl ?_
  refine v_iconst h dX7_init_106 (-1) rfl 107 rfl ?_
  refine v_iast h (f := (zpt (zpt (zpt z0 0 (-1)) 1 (-1)) 2 (-1))) dX7_init_107 1 0 rfl rfl zj_3_4 ([(a, .inr (7, [.ref q1, .ref q2, .ref q3, .int 0, .ref q4, .int 0, .int 0, .ref q5, .ref q6, .ref q7, .ref q8, .int 0, .ref q9, .ref q10, .ref q11]))] ++ [(q1, .inl (ca 0, 4, .inl (zpt (zpt (zpt (zpt z0 0 (-1)) 1 (-1)) 2 (-1)) 3 (-1))))] ++ [(q2, .inl (ca 0, 4, .inl z0))] ++ [(q3, .inl (ca 1, 96, .inr (.inl z0L)))] ++ [(q4, .inl (ca 0, 90, .inl z0))] ++ [(q5, .inl (ca 0, 407, .inl z0))] ++ [(q6, .inl (ca 0, 407, .inl z0))] ++ [(q7, .inl (ca 0, 407, .inl z0))] ++ [(q8, .inl (ca 0, 407, .inl z0))] ++ [(q9, .inl (ca 0, 10, .inl z0))] ++ [(q10, .inl (ca 0, 10, .inl z0))] ++ [(q11, .inl (ca 0, 10, .inl z0))]) rfl 108 rfl ?_
  refine v_iinc h dX7_init_108 1 rfl 4 rfl (Nat.le_of_ble_eq_true rfl) rfl rfl [(0, .ref a), (1, .int 4)] rfl 111 rfl ?_
  refine v_goto h dX7_init_111 96 (by decide) ?_
  refine v_iload_n h dX7_init_96 1 rfl 97 rfl ?_
  refine v_iconst h dX7_init_97 4 rfl 98 rfl ?_
  refine v_icmp_ge h dX7_init_98 114 (by decide) 101 rfl (fun _ => ?_) (fun c => absurd (show (4 : Int32) ≤ 4 by decide) c)
  refine v_aload_n h dX7_init_114 0 rfl 115 rfl ?_
  refine v_get h (v := .ref q5) dX7_init_115 iX7_init_X7 0 rfl rfl 7 (by decide) (zwi 10 rfl) rfl 118 rfl ?_
  refine v_iconst h dX7_init_118 1 rfl 119 rfl ?_
  refine v_iconst h dX7_init_119 1 rfl 120 rfl ?_
  refine v_iast h (f := z0) dX7_init_120 5 0 rfl rfl zj_1_407 ([(a, .inr (7, [.ref q1, .ref q2, .ref q3, .int 0, .ref q4, .int 0, .int 0, .ref q5, .ref q6, .ref q7, .ref q8, .int 0, .ref q9, .ref q10, .ref q11]))] ++ [(q1, .inl (ca 0, 4, .inl (zpt (zpt (zpt (zpt z0 0 (-1)) 1 (-1)) 2 (-1)) 3 (-1))))] ++ [(q2, .inl (ca 0, 4, .inl z0))] ++ [(q3, .inl (ca 1, 96, .inr (.inl z0L)))] ++ [(q4, .inl (ca 0, 90, .inl z0))] ++ [(q5, .inl (ca 0, 407, .inl (zpt z0 1 1)))] ++ [(q6, .inl (ca 0, 407, .inl z0))] ++ [(q7, .inl (ca 0, 407, .inl z0))] ++ [(q8, .inl (ca 0, 407, .inl z0))] ++ [(q9, .inl (ca 0, 10, .inl z0))] ++ [(q10, .inl (ca 0, 10, .inl z0))] ++ [(q11, .inl (ca 0, 10, .inl z0))]) rfl 121 rfl ?_
  refine v_aload_n h dX7_init_121 0 rfl 122 rfl ?_
  refine v_get h (v := .ref q5) dX7_init_122 iX7_init_X7 0 rfl rfl 7 (by decide) (zwi 10 rfl) rfl 125 rfl ?_
  refine v_bipush h dX7_init_125 44 rfl 127 rfl ?_
  refine v_bipush h dX7_init_127 80 rfl 129 rfl ?_
  refine v_iast h (f := (zpt z0 1 1)) dX7_init_129 5 0 rfl rfl zj_44_407 ([(a, .inr (7, [.ref q1, .ref q2, .ref q3, .int 0, .ref q4, .int 0, .int 0, .ref q5, .ref q6, .ref q7, .ref q8, .int 0, .ref q9, .ref q10, .ref q11]))] ++ [(q1, .inl (ca 0, 4, .inl (zpt (zpt (zpt (zpt z0 0 (-1)) 1 (-1)) 2 (-1)) 3 (-1))))] ++ [(q2, .inl (ca 0, 4, .inl z0))] ++ [(q3, .inl (ca 1, 96, .inr (.inl z0L)))] ++ [(q4, .inl (ca 0, 90, .inl z0))] ++ [(q5, .inl (ca 0, 407, .inl (zpt (zpt z0 1 1) 44 80)))] ++ [(q6, .inl (ca 0, 407, .inl z0))] ++ [(q7, .inl (ca 0, 407, .inl z0))] ++ [(q8, .inl (ca 0, 407, .inl z0))] ++ [(q9, .inl (ca 0, 10, .inl z0))] ++ [(q10, .inl (ca 0, 10, .inl z0))] ++ [(q11, .inl (ca 0, 10, .inl z0))]) rfl 130 rfl ?_
  exact v_w (w' := wM ca (fun k => ([a, q1, q2, q3, q4, q5, q6, q7, q8, q9, q10, q11] : List Nat).getD k 0) mv0) rfl (hE 130 _ (fun k => ([a, q1, q2, q3, q4, q5, q6, q7, q8, q9, q10, q11] : List Nat).getD k 0) rfl dX7_init_130)
