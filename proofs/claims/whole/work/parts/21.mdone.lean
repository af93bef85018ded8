theorem zi_44_407 : vp_in 44 407 := by unfold vp_in; decide
theorem zi_1_407 : vp_in 1 407 := by unfold vp_in; decide
theorem zi_54_407 : vp_in 54 407 := by unfold vp_in; decide
abbrev rX7_isCoat : Room := { frames := 1, cells := 0, slots := 0, locals := 22 }
theorem nX7_isCoat : zNoMH yX7_isCoat 1 := ⟨by decide +kernel, by decide +kernel, by decide +kernel⟩
theorem iX7_isCoat_X7 : ∀ w ∈ wsX70, w ∈ wsX7_isCoat := fun _ h => (List.mem_cons_of_mem _ (List.mem_append_right _ h))
def fX7_isCoat (v : MV) (x1 : Int32) : Option Int32 := ((fX7_in x1 0 ((zgt v.2.2.2.2.2.2.2.1 3) - 1)) : Option Int32).bind (fun u1 => zgrd (zbl u1) (some u1))
set_option maxRecDepth 100000 in
set_option maxHeartbeats 4000000 in
theorem tX7_isCoat (l : Launch) (G : va_G) (ca : Nat → ClassId) (ad : Nat → Nat) (v : MV) (x1 : Int32) {o : Int32} (hf : fX7_isCoat v x1 = some o) : zMi l yX7_isCoat wsX7_isCoat rX7_isCoat G ca [.ref (ad 0), .int x1] (wM ca ad v) o (wM ca ad v) := by
  refine zMi.of (cc := cX7_isCoat) (nL := 2) (own := RX7) (ty := .boolean) (by decide) rfl rfl (Nat.le_of_ble_eq_true rfl) (fun X h hE => ?_)
  show V X G 2 0 0 (wM ca ad v) 0 [(0, .ref (ad 0)), (1, .int x1)] []
  unfold fX7_isCoat at hf
  refine v_iload_n h dX7_isCoat_0 1 rfl 1 rfl ?_
  refine v_iconst h dX7_isCoat_1 0 rfl 2 rfl ?_
  refine v_aload_n h dX7_isCoat_2 0 rfl 3 rfl ?_
  refine v_get h (v := .ref (ad 5)) dX7_isCoat_3 iX7_isCoat_X7 0 rfl rfl 7 (by decide) (zwi 1 rfl) rfl 6 rfl ?_
  refine v_iconst h dX7_isCoat_6 3 rfl 7 rfl ?_
  refine v_iald h (f := v.2.2.2.2.2.2.2.1) dX7_isCoat_7 5 0 rfl rfl zi_3_407 8 rfl ?_
  refine v_iconst h dX7_isCoat_8 1 rfl 9 rfl ?_
  refine v_isub h dX7_isCoat_9 10 rfl ?_
  obtain ⟨u1, hu1, hf⟩ := zb hf
  refine v_callSi h (rest := []) dX7_isCoat_10 (tX7_in l G ca   x1 0 ((zgt v.2.2.2.2.2.2.2.1 3) - 1) hu1) gX7_isCoat_X7_in rfl ⟨rfl, rfl⟩ nX7_in ⟨Nat.le_of_ble_eq_true rfl, Nat.le_of_ble_eq_true rfl⟩ [] rfl rfl rfl rfl (Nat.le_of_ble_eq_true rfl) ⟨Nat.zero_le _, Nat.zero_le _⟩ rfl (wM ca ad v) rfl (wM_adr _ _ _ _) 13 rfl ?_
  obtain ⟨g2, hf⟩ := zg hf
  cases (Option.some.inj hf)
  exact hE 13 _ (zbl_nar g2) dX7_isCoat_13
abbrev rX7_walls : Room := { frames := 1, cells := 0, slots := 0, locals := 22 }
theorem nX7_walls : zNoMH yX7_walls 1 := ⟨by decide +kernel, by decide +kernel, by decide +kernel⟩
theorem iX7_walls_X7 : ∀ w ∈ wsX70, w ∈ wsX7_walls := fun _ h => (List.mem_cons_of_mem _ (List.mem_append_right _ h))
def fX7_walls (v : MV) (x1 : Int32) : Option (Int32 × zAI) := ((fX7_in x1 1 200) : Option Int32).bind (fun u1 => if u1 = 0 then (some ((-1), v.2.2.2.2.2.2.2.1)) else (some ((zgt v.2.2.2.2.2.2.2.1 44), (zpt v.2.2.2.2.2.2.2.1 44 x1))))
set_option maxRecDepth 100000 in
set_option maxHeartbeats 4000000 in
theorem tX7_walls (l : Launch) (G : va_G) (ca : Nat → ClassId) (ad : Nat → Nat) (v : MV) (x1 : Int32) {o : (Int32 × zAI)} (hf : fX7_walls v x1 = some o) : zMi l yX7_walls wsX7_walls rX7_walls G ca [.ref (ad 0), .int x1] (wM ca ad v) o.1 (wM ca ad (v.1, v.2.1, v.2.2.1, v.2.2.2.1, v.2.2.2.2.1, v.2.2.2.2.2.1, v.2.2.2.2.2.2.1, o.2, v.2.2.2.2.2.2.2.2)) := by
  refine zMi.of (cc := cX7_walls) (nL := 3) (own := RX7) (ty := .int) (by decide) rfl rfl (Nat.le_of_ble_eq_true rfl) (fun X h hE => ?_)
  show V X G 3 0 0 (wM ca ad v) 0 [(0, .ref (ad 0)), (1, .int x1)] []
  unfold fX7_walls at hf
  refine v_iload_n h dX7_walls_0 1 rfl 1 rfl ?_
  refine v_iconst h dX7_walls_1 1 rfl 2 rfl ?_
  refine v_sipush h dX7_walls_2 200 rfl 5 rfl ?_
  obtain ⟨u1, hu1, hf⟩ := zb hf
  refine v_callSi h (rest := []) dX7_walls_5 (tX7_in l G ca   x1 1 200 hu1) gX7_walls_X7_in rfl ⟨rfl, rfl⟩ nX7_in ⟨Nat.le_of_ble_eq_true rfl, Nat.le_of_ble_eq_true rfl⟩ [] rfl rfl rfl rfl (Nat.le_of_ble_eq_true rfl) ⟨Nat.zero_le _, Nat.zero_le _⟩ rfl (wM ca ad v) rfl (wM_adr _ _ _ _) 8 rfl ?_
  refine v_if_ne h dX7_walls_8 13 (by decide) 11 rfl (fun c2 => ?_) (fun c2 => ?_)
  · replace hf := zf c2 hf
    refine v_aload_n h dX7_walls_13 0 rfl 14 rfl ?_
    refine v_get h (v := .ref (ad 5)) dX7_walls_14 iX7_walls_X7 0 rfl rfl 7 (by decide) (zwi 1 rfl) rfl 17 rfl ?_
    refine v_bipush h dX7_walls_17 44 rfl 19 rfl ?_
    refine v_iald h (f := v.2.2.2.2.2.2.2.1) dX7_walls_19 5 0 rfl rfl zi_44_407 20 rfl ?_
    refine v_istore_n h dX7_walls_20 (Nat.le_of_ble_eq_true rfl) rfl rfl [(0, .ref (ad 0)), (1, .int x1), (2, .int (zgt v.2.2.2.2.2.2.2.1 44))] rfl 21 rfl ?_
    refine v_aload_n h dX7_walls_21 0 rfl 22 rfl ?_
    refine v_get h (v := .ref (ad 5)) dX7_walls_22 iX7_walls_X7 0 rfl rfl 7 (by decide) (zwi 1 rfl) rfl 25 rfl ?_
    refine v_bipush h dX7_walls_25 44 rfl 27 rfl ?_
    refine v_iload_n h dX7_walls_27 1 rfl 28 rfl ?_
    refine v_iast h (f := v.2.2.2.2.2.2.2.1) dX7_walls_28 5 0 rfl rfl zi_44_407 (wM ca ad (v.1, v.2.1, v.2.2.1, v.2.2.2.1, v.2.2.2.2.1, v.2.2.2.2.2.1, v.2.2.2.2.2.2.1, (zpt v.2.2.2.2.2.2.2.1 44 x1), v.2.2.2.2.2.2.2.2)) rfl 29 rfl ?_
    refine v_iload_n h dX7_walls_29 2 rfl 30 rfl ?_
    cases (Option.some.inj hf)
    exact hE 30 _ rfl dX7_walls_30
  · replace hf := zt c2 hf
    refine v_iconst h dX7_walls_11 (-1) rfl 12 rfl ?_
    cases (Option.some.inj hf)
    exact hE 12 _ rfl dX7_walls_12
abbrev rX7_rain : Room := { frames := 1, cells := 0, slots := 0, locals := 22 }
theorem nX7_rain : zNoMH yX7_rain 1 := ⟨by decide +kernel, by decide +kernel, by decide +kernel⟩
theorem iX7_rain_X7 : ∀ w ∈ wsX70, w ∈ wsX7_rain := fun _ h => (List.mem_cons_of_mem _ (List.mem_append_right _ h))
def fX7_rain (v : MV) (x1 : Int32) : Option (Int32 × zAI) := ((fX7_in x1 0 40) : Option Int32).bind (fun u1 => if u1 = 0 then (some ((-1), v.2.2.2.2.2.2.2.1)) else (if (zgt v.2.2.2.2.2.2.2.1 45) = 8 then (some ((-3), v.2.2.2.2.2.2.2.1)) else (((fX7_addRain v.2.2.2.2.2.2.2.1 x1) : Option zAI).bind (fun u4 => some ((zgt u4 45), u4)))))
set_option maxRecDepth 100000 in
set_option maxHeartbeats 4000000 in
theorem tX7_rain (l : Launch) (G : va_G) (ca : Nat → ClassId) (ad : Nat → Nat) (v : MV) (x1 : Int32) {o : (Int32 × zAI)} (hf : fX7_rain v x1 = some o) : zMi l yX7_rain wsX7_rain rX7_rain G ca [.ref (ad 0), .int x1] (wM ca ad v) o.1 (wM ca ad (v.1, v.2.1, v.2.2.1, v.2.2.2.1, v.2.2.2.2.1, v.2.2.2.2.2.1, v.2.2.2.2.2.2.1, o.2, v.2.2.2.2.2.2.2.2)) := by
  refine zMi.of (cc := cX7_rain) (nL := 2) (own := RX7) (ty := .int) (by decide) rfl rfl (Nat.le_of_ble_eq_true rfl) (fun X h hE => ?_)
  show V X G 2 0 0 (wM ca ad v) 0 [(0, .ref (ad 0)), (1, .int x1)] []
  unfold fX7_rain at hf
  refine v_iload_n h dX7_rain_0 1 rfl 1 rfl ?_
  refine v_iconst h dX7_rain_1 0 rfl 2 rfl ?_
  refine v_bipush h dX7_rain_2 40 rfl 4 rfl ?_
  obtain ⟨u1, hu1, hf⟩ := zb hf
  refine v_callSi h (rest := []) dX7_rain_4 (tX7_in l G ca   x1 0 40 hu1) gX7_rain_X7_in rfl ⟨rfl, rfl⟩ nX7_in ⟨Nat.le_of_ble_eq_true rfl, Nat.le_of_ble_eq_true rfl⟩ [] rfl rfl rfl rfl (Nat.le_of_ble_eq_true rfl) ⟨Nat.zero_le _, Nat.zero_le _⟩ rfl (wM ca ad v) rfl (wM_adr _ _ _ _) 7 rfl ?_
  refine v_if_ne h dX7_rain_7 12 (by decide) 10 rfl (fun c2 => ?_) (fun c2 => ?_)
  · replace hf := zf c2 hf
    refine v_aload_n h dX7_rain_12 0 rfl 13 rfl ?_
    refine v_get h (v := .ref (ad 5)) dX7_rain_13 iX7_rain_X7 0 rfl rfl 7 (by decide) (zwi 1 rfl) rfl 16 rfl ?_
    refine v_bipush h dX7_rain_16 45 rfl 18 rfl ?_
    refine v_iald h (f := v.2.2.2.2.2.2.2.1) dX7_rain_18 5 0 rfl rfl zi_45_407 19 rfl ?_
    refine v_bipush h dX7_rain_19 8 rfl 21 rfl ?_
    refine v_icmp_ne h dX7_rain_21 27 (by decide) 24 rfl (fun c3 => ?_) (fun c3 => ?_)
    · replace hf := zf c3 hf
      refine v_aload_n h dX7_rain_27 0 rfl 28 rfl ?_
      refine v_get h (v := .ref (ad 5)) dX7_rain_28 iX7_rain_X7 0 rfl rfl 7 (by decide) (zwi 1 rfl) rfl 31 rfl ?_
      refine v_iload_n h dX7_rain_31 1 rfl 32 rfl ?_
      obtain ⟨u4, hu4, hf⟩ := zb hf
      refine v_callSv h (rest := []) dX7_rain_32 (tX7_addRain l G ca (ad 5) v.2.2.2.2.2.2.2.1 x1 hu4) gX7_rain_X7_addRain rfl ⟨rfl, rfl⟩ nX7_addRain ⟨Nat.le_of_ble_eq_true rfl, Nat.le_of_ble_eq_true rfl⟩ [5] rfl rfl rfl rfl (Nat.le_of_ble_eq_true rfl) ⟨Nat.zero_le _, Nat.zero_le _⟩ rfl (wM ca ad (v.1, v.2.1, v.2.2.1, v.2.2.2.1, v.2.2.2.2.1, v.2.2.2.2.2.1, v.2.2.2.2.2.2.1, u4, v.2.2.2.2.2.2.2.2)) rfl (wM_adr _ _ _ _) 35 rfl ?_
      refine v_aload_n h dX7_rain_35 0 rfl 36 rfl ?_
      refine v_get h (v := .ref (ad 5)) dX7_rain_36 iX7_rain_X7 0 rfl rfl 7 (by decide) (zwi 1 rfl) rfl 39 rfl ?_
      refine v_bipush h dX7_rain_39 45 rfl 41 rfl ?_
      refine v_iald h (f := u4) dX7_rain_41 5 0 rfl rfl zi_45_407 42 rfl ?_
      cases (Option.some.inj hf)
      exact hE 42 _ rfl dX7_rain_42
    · replace hf := zt c3 hf
      refine v_bipush h dX7_rain_24 (-3) rfl 26 rfl ?_
      cases (Option.some.inj hf)
      exact hE 26 _ rfl dX7_rain_26
  · replace hf := zt c2 hf
    refine v_iconst h dX7_rain_10 (-1) rfl 11 rfl ?_
    cases (Option.some.inj hf)
    exact hE 11 _ rfl dX7_rain_11
abbrev rX7_dry : Room := { frames := 0, cells := 0, slots := 0, locals := 0 }
theorem nX7_dry : zNoMH yX7_dry 0 := ⟨by decide +kernel, by decide +kernel, by decide +kernel⟩
theorem iX7_dry_X7 : ∀ w ∈ wsX70, w ∈ wsX7_dry := fun _ h => (List.mem_cons_of_mem _ (List.mem_append_right _ h))
def fX7_dry (v : MV) : Option (Int32 × zAI) := some ((zgt v.2.2.2.2.2.2.2.1 45), (zpt v.2.2.2.2.2.2.2.1 45 0))
set_option maxRecDepth 100000 in
set_option maxHeartbeats 4000000 in
theorem tX7_dry (l : Launch) (G : va_G) (ca : Nat → ClassId) (ad : Nat → Nat) (v : MV)  {o : (Int32 × zAI)} (hf : fX7_dry v = some o) : zMi l yX7_dry wsX7_dry rX7_dry G ca [.ref (ad 0)] (wM ca ad v) o.1 (wM ca ad (v.1, v.2.1, v.2.2.1, v.2.2.2.1, v.2.2.2.2.1, v.2.2.2.2.2.1, v.2.2.2.2.2.2.1, o.2, v.2.2.2.2.2.2.2.2)) := by
  refine zMi.of (cc := cX7_dry) (nL := 2) (own := RX7) (ty := .int) (by decide) rfl rfl (Nat.le_of_ble_eq_true rfl) (fun X h hE => ?_)
  show V X G 2 0 0 (wM ca ad v) 0 [(0, .ref (ad 0))] []
  unfold fX7_dry at hf
  refine v_aload_n h dX7_dry_0 0 rfl 1 rfl ?_
  refine v_get h (v := .ref (ad 5)) dX7_dry_1 iX7_dry_X7 0 rfl rfl 7 (by decide) (zwi 1 rfl) rfl 4 rfl ?_
  refine v_bipush h dX7_dry_4 45 rfl 6 rfl ?_
  refine v_iald h (f := v.2.2.2.2.2.2.2.1) dX7_dry_6 5 0 rfl rfl zi_45_407 7 rfl ?_
  refine v_istore_n h dX7_dry_7 (Nat.le_of_ble_eq_true rfl) rfl rfl [(0, .ref (ad 0)), (1, .int (zgt v.2.2.2.2.2.2.2.1 45))] rfl 8 rfl ?_
  refine v_aload_n h dX7_dry_8 0 rfl 9 rfl ?_
  refine v_get h (v := .ref (ad 5)) dX7_dry_9 iX7_dry_X7 0 rfl rfl 7 (by decide) (zwi 1 rfl) rfl 12 rfl ?_
  refine v_bipush h dX7_dry_12 45 rfl 14 rfl ?_
  refine v_iconst h dX7_dry_14 0 rfl 15 rfl ?_
  refine v_iast h (f := v.2.2.2.2.2.2.2.1) dX7_dry_15 5 0 rfl rfl zi_45_407 (wM ca ad (v.1, v.2.1, v.2.2.1, v.2.2.2.1, v.2.2.2.2.1, v.2.2.2.2.2.1, v.2.2.2.2.2.2.1, (zpt v.2.2.2.2.2.2.2.1 45 0), v.2.2.2.2.2.2.2.2)) rfl 16 rfl ?_
  refine v_iload_n h dX7_dry_16 1 rfl 17 rfl ?_
  cases (Option.some.inj hf)
  exact hE 17 _ rfl dX7_dry_17
abbrev rX7_above : Room := { frames := 1, cells := 0, slots := 0, locals := 23 }
theorem nX7_above : zNoMH yX7_above 1 := ⟨by decide +kernel, by decide +kernel, by decide +kernel⟩
theorem iX7_above_X7 : ∀ w ∈ wsX70, w ∈ wsX7_above := fun _ h => (List.mem_cons_of_mem _ (List.mem_append_right _ h))
def fX7_above_L6 : Nat → MV → Int32 → Int32 → Option Int32
  | 0, _, _, _ => none
  | n + 1, v, x2, x3 => if (zgt v.2.2.2.2.2.2.2.1 3) ≤ x3 then (some x2) else (((fX7_capOf v.2.2.2.2.2.2.2.1 x3) : Option Int32).bind (fun u2 => fX7_above_L6 n v (x2 + u2) (x3 + 1)))
set_option maxRecDepth 100000 in
set_option maxHeartbeats 4000000 in
theorem tX7_above_l6 {X : zX} {l : Launch} {G : va_G} {ca : Nat → ClassId} {ad : Nat → Nat} (h : zOk X l G ca cX7_above RX7 wsX7_above 4 rX7_above) : ∀ (n : Nat) (v : MV) (x2 : Int32) (x3 : Int32) (out : Int32), fX7_above_L6 n v x2 x3 = some out → (V X G 4 0 0 (wM ca ad v) 33 [(2, .int out)] []) → V X G 4 0 0 (wM ca ad v) 6 [(0, .ref (ad 0)), (2, .int x2), (3, .int x3)] [] := by
  intro n
  induction n with
  | zero => intro v x2 x3 out hf; rw [fX7_above_L6] at hf; cases hf
  | succ n ih =>
    intro v x2 x3 out hf kx
    rw [fX7_above_L6] at hf
    refine v_iload_n h dX7_above_6 2 rfl 7 rfl ?_
    refine v_aload_n h dX7_above_7 0 rfl 8 rfl ?_
    refine v_get h (v := .ref (ad 5)) dX7_above_8 iX7_above_X7 0 rfl rfl 7 (by decide) (zwi 1 rfl) rfl 11 rfl ?_
    refine v_iconst h dX7_above_11 3 rfl 12 rfl ?_
    refine v_iald h (f := v.2.2.2.2.2.2.2.1) dX7_above_12 5 0 rfl rfl zi_3_407 13 rfl ?_
    refine v_icmp_ge h dX7_above_13 33 (by decide) 16 rfl (fun c1 => ?_) (fun c1 => ?_)
    · replace hf := zt c1 hf
      cases (Option.some.inj hf)
      exact v_sub [1] rfl (kx)
    · replace hf := zf c1 hf
      refine v_iload_n h dX7_above_16 1 rfl 17 rfl ?_
      refine v_aload_n h dX7_above_17 0 rfl 18 rfl ?_
      refine v_get h (v := .ref (ad 5)) dX7_above_18 iX7_above_X7 0 rfl rfl 7 (by decide) (zwi 1 rfl) rfl 21 rfl ?_
      refine v_iload_n h dX7_above_21 2 rfl 22 rfl ?_
      obtain ⟨u2, hu2, hf⟩ := zb hf
      refine v_callSi h (rest := [.int x2]) dX7_above_22 (tX7_capOf l G ca (ad 5) v.2.2.2.2.2.2.2.1 x3 hu2) gX7_above_X7_capOf rfl ⟨rfl, rfl⟩ nX7_capOf ⟨Nat.le_of_ble_eq_true rfl, Nat.le_of_ble_eq_true rfl⟩ [5] rfl rfl rfl rfl (Nat.le_of_ble_eq_true rfl) ⟨Nat.zero_le _, Nat.zero_le _⟩ rfl (wM ca ad v) rfl (wM_adr _ _ _ _) 25 rfl ?_
      refine v_iadd h dX7_above_25 26 rfl ?_
      refine v_istore_n h dX7_above_26 (Nat.le_of_ble_eq_true rfl) rfl rfl [(0, .ref (ad 0)), (2, .int (x2 + u2)), (3, .int x3)] rfl 27 rfl ?_
      refine v_iinc h dX7_above_27 2 rfl (x3 + 1) rfl (Nat.le_of_ble_eq_true rfl) rfl rfl [(0, .ref (ad 0)), (2, .int (x2 + u2)), (3, .int (x3 + 1))] rfl 30 rfl ?_
      refine v_goto h dX7_above_30 6 (by decide) ?_
      exact v_sub [0, 1, 2] rfl (ih v (x2 + u2) (x3 + 1) _ hf kx)
def fX7_above (v : MV) (x1 : Int32) : Option Int32 := ((fX7_above_L6 zF v 0 (x1 + 1)) : Option Int32).bind (fun u1 => some u1)
set_option maxRecDepth 100000 in
set_option maxHeartbeats 4000000 in
theorem tX7_above (l : Launch) (G : va_G) (ca : Nat → ClassId) (ad : Nat → Nat) (v : MV) (x1 : Int32) {o : Int32} (hf : fX7_above v x1 = some o) : zMi l yX7_above wsX7_above rX7_above G ca [.ref (ad 0), .int x1] (wM ca ad v) o (wM ca ad v) := by
  refine zMi.of (cc := cX7_above) (nL := 4) (own := RX7) (ty := .int) (by decide) rfl rfl (Nat.le_of_ble_eq_true rfl) (fun X h hE => ?_)
  show V X G 4 0 0 (wM ca ad v) 0 [(0, .ref (ad 0)), (1, .int x1)] []
  unfold fX7_above at hf
  refine v_iconst h dX7_above_0 0 rfl 1 rfl ?_
  refine v_istore_n h dX7_above_1 (Nat.le_of_ble_eq_true rfl) rfl rfl [(0, .ref (ad 0)), (1, .int x1), (2, .int 0)] rfl 2 rfl ?_
  refine v_iload_n h dX7_above_2 1 rfl 3 rfl ?_
  refine v_iconst h dX7_above_3 1 rfl 4 rfl ?_
  refine v_iadd h dX7_above_4 5 rfl ?_
  refine v_istore_n h dX7_above_5 (Nat.le_of_ble_eq_true rfl) rfl rfl [(0, .ref (ad 0)), (1, .int x1), (2, .int 0), (3, .int (x1 + 1))] rfl 6 rfl ?_
  obtain ⟨u1, hu1, hf⟩ := zb hf
  refine v_sub [0, 2, 3] rfl ?_
  refine tX7_above_l6 h zF v 0 (x1 + 1) _ hu1 ?_
  refine v_iload_n h dX7_above_33 0 rfl 34 rfl ?_
  cases (Option.some.inj hf)
  exact hE 34 _ rfl dX7_above_34
abbrev rX7_of : Room := { frames := 2, cells := 0, slots := 0, locals := 46 }
theorem nX7_of : zNoMH yX7_of 2 := ⟨by decide +kernel, by decide +kernel, by decide +kernel⟩
theorem iX7_of_X7 : ∀ w ∈ wsX70, w ∈ wsX7_of := fun _ h => (List.mem_cons_of_mem _ (List.mem_append_right _ h))
def fX7_of (v : MV) (x1 : Int32) (x2 : Int32) : Option Int32 := ((fX7_isCoat v x1) : Option Int32).bind (fun u1 => if u1 = 0 then (some (-1)) else (if x2 = 0 then (zgrd (zix (4 + x1) 407) (some (zgt v.2.2.2.2.2.2.2.1 (4 + x1)))) else (if x2 = 1 then (zgrd (zix (14 + x1) 407) (some (zgt v.2.2.2.2.2.2.2.1 (14 + x1)))) else (if x2 = 2 then (zgrd (zix (24 + x1) 407) (some (zgt v.2.2.2.2.2.2.2.1 (24 + x1)))) else (if x2 = 3 then (zgrd (zix (34 + x1) 407) (some (zgt v.2.2.2.2.2.2.2.1 (34 + x1)))) else (if x2 = 4 then (((fX7_capOf v.2.2.2.2.2.2.2.1 x1) : Option Int32).bind (fun u12 => some u12)) else (if x2 = 5 then (((fX7_above v x1) : Option Int32).bind (fun u14 => some u14)) else (some (-1)))))))))
set_option maxRecDepth 100000 in
set_option maxHeartbeats 4000000 in
theorem tX7_of (l : Launch) (G : va_G) (ca : Nat → ClassId) (ad : Nat → Nat) (v : MV) (x1 : Int32) (x2 : Int32) {o : Int32} (hf : fX7_of v x1 x2 = some o) : zMi l yX7_of wsX7_of rX7_of G ca [.ref (ad 0), .int x1, .int x2] (wM ca ad v) o (wM ca ad v) := by
  refine zMi.of (cc := cX7_of) (nL := 3) (own := RX7) (ty := .int) (by decide) rfl rfl (Nat.le_of_ble_eq_true rfl) (fun X h hE => ?_)
  show V X G 3 0 0 (wM ca ad v) 0 [(0, .ref (ad 0)), (1, .int x1), (2, .int x2)] []
  unfold fX7_of at hf
  refine v_aload_n h dX7_of_0 0 rfl 1 rfl ?_
  refine v_iload_n h dX7_of_1 1 rfl 2 rfl ?_
  obtain ⟨u1, hu1, hf⟩ := zb hf
  refine v_wcallVi h (rest := []) dX7_of_2 (tX7_isCoat l G ca ad v x1 hu1) gX7_of_X7_isCoat rfl rfl ⟨rfl, rfl⟩ nX7_isCoat ⟨Nat.le_of_ble_eq_true rfl, Nat.le_of_ble_eq_true rfl⟩ 0 rfl rfl rfl rfl (Nat.le_of_ble_eq_true rfl) ⟨Nat.zero_le _, Nat.zero_le _⟩ (wM_adr _ _ _ _) 5 rfl ?_
  refine v_if_ne h dX7_of_5 10 (by decide) 8 rfl (fun c2 => ?_) (fun c2 => ?_)
  · replace hf := zf c2 hf
    refine v_iload_n h dX7_of_10 2 rfl 11 rfl ?_
    by_cases c3 : x2 = 0
    · replace hf := zt c3 hf
      refine v_tsIn h dX7_of_11 c3 (by decide) (by decide) rfl 48 (by decide) ?_
      refine v_aload_n h dX7_of_48 0 rfl 49 rfl ?_
      refine v_get h (v := .ref (ad 5)) dX7_of_49 iX7_of_X7 0 rfl rfl 7 (by decide) (zwi 1 rfl) rfl 52 rfl ?_
      refine v_iconst h dX7_of_52 4 rfl 53 rfl ?_
      refine v_iload_n h dX7_of_53 1 rfl 54 rfl ?_
      refine v_iadd h dX7_of_54 55 rfl ?_
      obtain ⟨g4, hf⟩ := zg hf
      refine v_iald h (f := v.2.2.2.2.2.2.2.1) dX7_of_55 5 0 rfl rfl (zix_in g4) 56 rfl ?_
      cases (Option.some.inj hf)
      exact hE 56 _ rfl dX7_of_56
    · replace hf := zf c3 hf
      by_cases c5 : x2 = 1
      · replace hf := zt c5 hf
        refine v_tsIn h dX7_of_11 c5 (by decide) (by decide) rfl 57 (by decide) ?_
        refine v_aload_n h dX7_of_57 0 rfl 58 rfl ?_
        refine v_get h (v := .ref (ad 5)) dX7_of_58 iX7_of_X7 0 rfl rfl 7 (by decide) (zwi 1 rfl) rfl 61 rfl ?_
        refine v_bipush h dX7_of_61 14 rfl 63 rfl ?_
        refine v_iload_n h dX7_of_63 1 rfl 64 rfl ?_
        refine v_iadd h dX7_of_64 65 rfl ?_
        obtain ⟨g6, hf⟩ := zg hf
        refine v_iald h (f := v.2.2.2.2.2.2.2.1) dX7_of_65 5 0 rfl rfl (zix_in g6) 66 rfl ?_
        cases (Option.some.inj hf)
        exact hE 66 _ rfl dX7_of_66
      · replace hf := zf c5 hf
        by_cases c7 : x2 = 2
        · replace hf := zt c7 hf
          refine v_tsIn h dX7_of_11 c7 (by decide) (by decide) rfl 67 (by decide) ?_
          refine v_aload_n h dX7_of_67 0 rfl 68 rfl ?_
          refine v_get h (v := .ref (ad 5)) dX7_of_68 iX7_of_X7 0 rfl rfl 7 (by decide) (zwi 1 rfl) rfl 71 rfl ?_
          refine v_bipush h dX7_of_71 24 rfl 73 rfl ?_
          refine v_iload_n h dX7_of_73 1 rfl 74 rfl ?_
          refine v_iadd h dX7_of_74 75 rfl ?_
          obtain ⟨g8, hf⟩ := zg hf
          refine v_iald h (f := v.2.2.2.2.2.2.2.1) dX7_of_75 5 0 rfl rfl (zix_in g8) 76 rfl ?_
          cases (Option.some.inj hf)
          exact hE 76 _ rfl dX7_of_76
        · replace hf := zf c7 hf
          by_cases c9 : x2 = 3
          · replace hf := zt c9 hf
            refine v_tsIn h dX7_of_11 c9 (by decide) (by decide) rfl 77 (by decide) ?_
            refine v_aload_n h dX7_of_77 0 rfl 78 rfl ?_
            refine v_get h (v := .ref (ad 5)) dX7_of_78 iX7_of_X7 0 rfl rfl 7 (by decide) (zwi 1 rfl) rfl 81 rfl ?_
            refine v_bipush h dX7_of_81 34 rfl 83 rfl ?_
            refine v_iload_n h dX7_of_83 1 rfl 84 rfl ?_
            refine v_iadd h dX7_of_84 85 rfl ?_
            obtain ⟨g10, hf⟩ := zg hf
            refine v_iald h (f := v.2.2.2.2.2.2.2.1) dX7_of_85 5 0 rfl rfl (zix_in g10) 86 rfl ?_
            cases (Option.some.inj hf)
            exact hE 86 _ rfl dX7_of_86
          · replace hf := zf c9 hf
            by_cases c11 : x2 = 4
            · replace hf := zt c11 hf
              refine v_tsIn h dX7_of_11 c11 (by decide) (by decide) rfl 87 (by decide) ?_
              refine v_aload_n h dX7_of_87 0 rfl 88 rfl ?_
              refine v_get h (v := .ref (ad 5)) dX7_of_88 iX7_of_X7 0 rfl rfl 7 (by decide) (zwi 1 rfl) rfl 91 rfl ?_
              refine v_iload_n h dX7_of_91 1 rfl 92 rfl ?_
              obtain ⟨u12, hu12, hf⟩ := zb hf
              refine v_callSi h (rest := []) dX7_of_92 (tX7_capOf l G ca (ad 5) v.2.2.2.2.2.2.2.1 x1 hu12) gX7_of_X7_capOf rfl ⟨rfl, rfl⟩ nX7_capOf ⟨Nat.le_of_ble_eq_true rfl, Nat.le_of_ble_eq_true rfl⟩ [5] rfl rfl rfl rfl (Nat.le_of_ble_eq_true rfl) ⟨Nat.zero_le _, Nat.zero_le _⟩ rfl (wM ca ad v) rfl (wM_adr _ _ _ _) 95 rfl ?_
              cases (Option.some.inj hf)
              exact hE 95 _ rfl dX7_of_95
            · replace hf := zf c11 hf
              by_cases c13 : x2 = 5
              · replace hf := zt c13 hf
                refine v_tsIn h dX7_of_11 c13 (by decide) (by decide) rfl 96 (by decide) ?_
                refine v_aload_n h dX7_of_96 0 rfl 97 rfl ?_
                refine v_iload_n h dX7_of_97 1 rfl 98 rfl ?_
                obtain ⟨u14, hu14, hf⟩ := zb hf
                refine v_wcallVi h (rest := []) dX7_of_98 (tX7_above l G ca ad v x1 hu14) gX7_of_X7_above rfl rfl ⟨rfl, rfl⟩ nX7_above ⟨Nat.le_of_ble_eq_true rfl, Nat.le_of_ble_eq_true rfl⟩ 0 rfl rfl rfl rfl (Nat.le_of_ble_eq_true rfl) ⟨Nat.zero_le _, Nat.zero_le _⟩ (wM_adr _ _ _ _) 101 rfl ?_
                cases (Option.some.inj hf)
                exact hE 101 _ rfl dX7_of_101
              · replace hf := zf c13 hf
                refine v_tsOut h dX7_of_11 (by have := lv_neT c3 (a := 0) (by decide); have := lv_neT c5 (a := 1) (by decide); have := lv_neT c7 (a := 2) (by decide); have := lv_neT c9 (a := 3) (by decide); have := lv_neT c11 (a := 4) (by decide); have := lv_neT c13 (a := 5) (by decide); omega) 102 (by decide) ?_
                refine v_iconst h dX7_of_102 (-1) rfl 103 rfl ?_
                cases (Option.some.inj hf)
                exact hE 103 _ rfl dX7_of_103
  · replace hf := zt c2 hf
    refine v_iconst h dX7_of_8 (-1) rfl 9 rfl ?_
    cases (Option.some.inj hf)
    exact hE 9 _ rfl dX7_of_9
abbrev rX7_rains : Room := { frames := 1, cells := 0, slots := 0, locals := 22 }
theorem nX7_rains : zNoMH yX7_rains 1 := ⟨by decide +kernel, by decide +kernel, by decide +kernel⟩
theorem iX7_rains_X7 : ∀ w ∈ wsX70, w ∈ wsX7_rains := fun _ h => (List.mem_cons_of_mem _ (List.mem_append_right _ h))
def fX7_rains (v : MV) (x1 : Int32) : Option Int32 := ((fX7_in x1 0 40) : Option Int32).bind (fun u1 => if u1 = 0 then (some (-1)) else (((fX7_rainIn v.2.2.2.2.2.2.2.1 ((zgt v.2.2.2.2.2.2.2.1 0) + x1)) : Option Int32).bind (fun u3 => some u3)))
set_option maxRecDepth 100000 in
set_option maxHeartbeats 4000000 in
theorem tX7_rains (l : Launch) (G : va_G) (ca : Nat → ClassId) (ad : Nat → Nat) (v : MV) (x1 : Int32) {o : Int32} (hf : fX7_rains v x1 = some o) : zMi l yX7_rains wsX7_rains rX7_rains G ca [.ref (ad 0), .int x1] (wM ca ad v) o (wM ca ad v) := by
  refine zMi.of (cc := cX7_rains) (nL := 2) (own := RX7) (ty := .int) (by decide) rfl rfl (Nat.le_of_ble_eq_true rfl) (fun X h hE => ?_)
  show V X G 2 0 0 (wM ca ad v) 0 [(0, .ref (ad 0)), (1, .int x1)] []
  unfold fX7_rains at hf
  refine v_iload_n h dX7_rains_0 1 rfl 1 rfl ?_
  refine v_iconst h dX7_rains_1 0 rfl 2 rfl ?_
  refine v_bipush h dX7_rains_2 40 rfl 4 rfl ?_
  obtain ⟨u1, hu1, hf⟩ := zb hf
  refine v_callSi h (rest := []) dX7_rains_4 (tX7_in l G ca   x1 0 40 hu1) gX7_rains_X7_in rfl ⟨rfl, rfl⟩ nX7_in ⟨Nat.le_of_ble_eq_true rfl, Nat.le_of_ble_eq_true rfl⟩ [] rfl rfl rfl rfl (Nat.le_of_ble_eq_true rfl) ⟨Nat.zero_le _, Nat.zero_le _⟩ rfl (wM ca ad v) rfl (wM_adr _ _ _ _) 7 rfl ?_
  refine v_if_eq h dX7_rains_7 28 (by decide) 10 rfl (fun c2 => ?_) (fun c2 => ?_)
  · replace hf := zt c2 hf
    refine v_iconst h dX7_rains_28 (-1) rfl 29 rfl ?_
    cases (Option.some.inj hf)
    exact hE 29 _ rfl dX7_rains_29
  · replace hf := zf c2 hf
    refine v_aload_n h dX7_rains_10 0 rfl 11 rfl ?_
    refine v_get h (v := .ref (ad 5)) dX7_rains_11 iX7_rains_X7 0 rfl rfl 7 (by decide) (zwi 1 rfl) rfl 14 rfl ?_
    refine v_aload_n h dX7_rains_14 0 rfl 15 rfl ?_
    refine v_get h (v := .ref (ad 5)) dX7_rains_15 iX7_rains_X7 0 rfl rfl 7 (by decide) (zwi 1 rfl) rfl 18 rfl ?_
    refine v_iconst h dX7_rains_18 0 rfl 19 rfl ?_
    refine v_iald h (f := v.2.2.2.2.2.2.2.1) dX7_rains_19 5 0 rfl rfl zi_0_407 20 rfl ?_
    refine v_iload_n h dX7_rains_20 1 rfl 21 rfl ?_
    refine v_iadd h dX7_rains_21 22 rfl ?_
    obtain ⟨u3, hu3, hf⟩ := zb hf
    refine v_callSi h (rest := []) dX7_rains_22 (tX7_rainIn l G ca (ad 5) v.2.2.2.2.2.2.2.1 ((zgt v.2.2.2.2.2.2.2.1 0) + x1) hu3) gX7_rains_X7_rainIn rfl ⟨rfl, rfl⟩ nX7_rainIn ⟨Nat.le_of_ble_eq_true rfl, Nat.le_of_ble_eq_true rfl⟩ [5] rfl rfl rfl rfl (Nat.le_of_ble_eq_true rfl) ⟨Nat.zero_le _, Nat.zero_le _⟩ rfl (wM ca ad v) rfl (wM_adr _ _ _ _) 25 rfl ?_
    refine v_goto h dX7_rains_25 29 (by decide) ?_
    cases (Option.some.inj hf)
    exact hE 29 _ rfl dX7_rains_29
abbrev rX7_type : Room := { frames := 1, cells := 0, slots := 0, locals := 22 }
theorem nX7_type : zNoMH yX7_type 1 := ⟨by decide +kernel, by decide +kernel, by decide +kernel⟩
theorem iX7_type_X7 : ∀ w ∈ wsX70, w ∈ wsX7_type := fun _ h => (List.mem_cons_of_mem _ (List.mem_append_right _ h))
def fX7_type (v : MV) (x1 : Int32) : Option (Int32 × Int32 × zAI) := ((fX7_in x1 32 126) : Option Int32).bind (fun u1 => if u1 = 0 then (some ((-1), v.2.2.2.1, v.2.2.2.2.1)) else (if v.2.2.2.1 = 90 then (some ((-3), v.2.2.2.1, v.2.2.2.2.1)) else (zgrd (zix v.2.2.2.1 90) (some ((v.2.2.2.1 + 1), (v.2.2.2.1 + 1), (zpt v.2.2.2.2.1 v.2.2.2.1 x1))))))
set_option maxRecDepth 100000 in
set_option maxHeartbeats 4000000 in
theorem tX7_type (l : Launch) (G : va_G) (ca : Nat → ClassId) (ad : Nat → Nat) (v : MV) (x1 : Int32) {o : (Int32 × Int32 × zAI)} (hf : fX7_type v x1 = some o) : zMi l yX7_type wsX7_type rX7_type G ca [.ref (ad 0), .int x1] (wM ca ad v) o.1 (wM ca ad (v.1, v.2.1, v.2.2.1, o.2.1, o.2.2, v.2.2.2.2.2)) := by
  refine zMi.of (cc := cX7_type) (nL := 2) (own := RX7) (ty := .int) (by decide) rfl rfl (Nat.le_of_ble_eq_true rfl) (fun X h hE => ?_)
  show V X G 2 0 0 (wM ca ad v) 0 [(0, .ref (ad 0)), (1, .int x1)] []
  unfold fX7_type at hf
  refine v_iload_n h dX7_type_0 1 rfl 1 rfl ?_
  refine v_bipush h dX7_type_1 32 rfl 3 rfl ?_
  refine v_bipush h dX7_type_3 126 rfl 5 rfl ?_
  obtain ⟨u1, hu1, hf⟩ := zb hf
  refine v_callSi h (rest := []) dX7_type_5 (tX7_in l G ca   x1 32 126 hu1) gX7_type_X7_in rfl ⟨rfl, rfl⟩ nX7_in ⟨Nat.le_of_ble_eq_true rfl, Nat.le_of_ble_eq_true rfl⟩ [] rfl rfl rfl rfl (Nat.le_of_ble_eq_true rfl) ⟨Nat.zero_le _, Nat.zero_le _⟩ rfl (wM ca ad v) rfl (wM_adr _ _ _ _) 8 rfl ?_
  refine v_if_ne h dX7_type_8 13 (by decide) 11 rfl (fun c2 => ?_) (fun c2 => ?_)
  · replace hf := zf c2 hf
    refine v_aload_n h dX7_type_13 0 rfl 14 rfl ?_
    refine v_get h (v := .int v.2.2.2.1) dX7_type_14 iX7_type_X7 0 rfl rfl 3 (by decide) (zwi 1 rfl) rfl 17 rfl ?_
    refine v_bipush h dX7_type_17 90 rfl 19 rfl ?_
    refine v_icmp_ne h dX7_type_19 25 (by decide) 22 rfl (fun c3 => ?_) (fun c3 => ?_)
    · replace hf := zf c3 hf
      refine v_aload_n h dX7_type_25 0 rfl 26 rfl ?_
      refine v_get h (v := .ref (ad 4)) dX7_type_26 iX7_type_X7 0 rfl rfl 4 (by decide) (zwi 2 rfl) rfl 29 rfl ?_
      refine v_aload_n h dX7_type_29 0 rfl 30 rfl ?_
      refine v_get h (v := .int v.2.2.2.1) dX7_type_30 iX7_type_X7 0 rfl rfl 3 (by decide) (zwi 1 rfl) rfl 33 rfl ?_
      refine v_iload_n h dX7_type_33 1 rfl 34 rfl ?_
      obtain ⟨g4, hf⟩ := zg hf
      refine v_iast h (f := v.2.2.2.2.1) dX7_type_34 4 0 rfl rfl (zix_in g4) (wM ca ad (v.1, v.2.1, v.2.2.1, v.2.2.2.1, (zpt v.2.2.2.2.1 v.2.2.2.1 x1), v.2.2.2.2.2)) rfl 35 rfl ?_
      refine v_aload_n h dX7_type_35 0 rfl 36 rfl ?_
      refine v_dup h dX7_type_36 rfl 37 rfl ?_
      refine v_get h (v := .int v.2.2.2.1) dX7_type_37 iX7_type_X7 0 rfl rfl 3 (by decide) (zwi 1 rfl) rfl 40 rfl ?_
      refine v_iconst h dX7_type_40 1 rfl 41 rfl ?_
      refine v_iadd h dX7_type_41 42 rfl ?_
      refine v_put h dX7_type_42 iX7_type_X7 tyX7 tyX7_ok nmX7 0 rfl rfl 3 (by decide) (zwi 1 rfl) rfl rfl rfl (Nat.le_of_ble_eq_true rfl) (wM ca ad (v.1, v.2.1, v.2.2.1, (v.2.2.2.1 + 1), (zpt v.2.2.2.2.1 v.2.2.2.1 x1), v.2.2.2.2.2)) rfl 45 rfl ?_
      refine v_aload_n h dX7_type_45 0 rfl 46 rfl ?_
      refine v_get h (v := .int (v.2.2.2.1 + 1)) dX7_type_46 iX7_type_X7 0 rfl rfl 3 (by decide) (zwi 1 rfl) rfl 49 rfl ?_
      cases (Option.some.inj hf)
      exact hE 49 _ rfl dX7_type_49
    · replace hf := zt c3 hf
      refine v_bipush h dX7_type_22 (-3) rfl 24 rfl ?_
      cases (Option.some.inj hf)
      exact hE 24 _ rfl dX7_type_24
  · replace hf := zt c2 hf
    refine v_iconst h dX7_type_11 (-1) rfl 12 rfl ?_
    cases (Option.some.inj hf)
    exact hE 12 _ rfl dX7_type_12
abbrev rX7_peek : Room := { frames := 0, cells := 0, slots := 0, locals := 0 }
theorem nX7_peek : zNoMH yX7_peek 0 := ⟨by decide +kernel, by decide +kernel, by decide +kernel⟩
theorem iX7_peek_X7 : ∀ w ∈ wsX70, w ∈ wsX7_peek := fun _ h => (List.mem_cons_of_mem _ (List.mem_append_right _ h))
def fX7_peek_L0 : Nat → MV → Int32 → Option Int32
  | 0, _, _ => none
  | n + 1, v, m5 => if v.2.2.2.1 ≤ m5 then (some m5) else (zgrd (zix m5 90) (if (zgt v.2.2.2.2.1 m5) = 32 then (fX7_peek_L0 n v (m5 + 1)) else (some m5)))
set_option maxRecDepth 100000 in
set_option maxHeartbeats 4000000 in
theorem tX7_peek_l0 {X : zX} {l : Launch} {G : va_G} {ca : Nat → ClassId} {ad : Nat → Nat} (h : zOk X l G ca cX7_peek RX7 wsX7_peek 1 rX7_peek) : ∀ (n : Nat) (v : MV) (m5 : Int32) (out : Int32), fX7_peek_L0 n v m5 = some out → (V X G 1 0 0 (wM ca ad (v.1, v.2.1, v.2.2.1, v.2.2.2.1, v.2.2.2.2.1, out, v.2.2.2.2.2.2)) 38 [(0, .ref (ad 0))] []) → V X G 1 0 0 (wM ca ad (v.1, v.2.1, v.2.2.1, v.2.2.2.1, v.2.2.2.2.1, m5, v.2.2.2.2.2.2)) 0 [(0, .ref (ad 0))] [] := by
  intro n
  induction n with
  | zero => intro v m5 out hf; rw [fX7_peek_L0] at hf; cases hf
  | succ n ih =>
    intro v m5 out hf kx
    rw [fX7_peek_L0] at hf
    refine v_aload_n h dX7_peek_0 0 rfl 1 rfl ?_
    refine v_get h (v := .int m5) dX7_peek_1 iX7_peek_X7 0 rfl rfl 5 (by decide) (zwi 1 rfl) rfl 4 rfl ?_
    refine v_aload_n h dX7_peek_4 0 rfl 5 rfl ?_
    refine v_get h (v := .int v.2.2.2.1) dX7_peek_5 iX7_peek_X7 0 rfl rfl 3 (by decide) (zwi 2 rfl) rfl 8 rfl ?_
    refine v_icmp_ge h dX7_peek_8 38 (by decide) 11 rfl (fun c1 => ?_) (fun c1 => ?_)
    · replace hf := zt c1 hf
      cases (Option.some.inj hf)
      exact v_sub [0] rfl (kx)
    · replace hf := zf c1 hf
      refine v_aload_n h dX7_peek_11 0 rfl 12 rfl ?_
      refine v_get h (v := .ref (ad 4)) dX7_peek_12 iX7_peek_X7 0 rfl rfl 4 (by decide) (zwi 3 rfl) rfl 15 rfl ?_
      refine v_aload_n h dX7_peek_15 0 rfl 16 rfl ?_
      refine v_get h (v := .int m5) dX7_peek_16 iX7_peek_X7 0 rfl rfl 5 (by decide) (zwi 1 rfl) rfl 19 rfl ?_
      obtain ⟨g2, hf⟩ := zg hf
      refine v_iald h (f := v.2.2.2.2.1) dX7_peek_19 4 0 rfl rfl (zix_in g2) 20 rfl ?_
      refine v_bipush h dX7_peek_20 32 rfl 22 rfl ?_
      refine v_icmp_ne h dX7_peek_22 38 (by decide) 25 rfl (fun c3 => ?_) (fun c3 => ?_)
      · replace hf := zf c3 hf
        cases (Option.some.inj hf)
        exact v_sub [0] rfl (kx)
      · replace hf := zt c3 hf
        refine v_aload_n h dX7_peek_25 0 rfl 26 rfl ?_
        refine v_dup h dX7_peek_26 rfl 27 rfl ?_
        refine v_get h (v := .int m5) dX7_peek_27 iX7_peek_X7 0 rfl rfl 5 (by decide) (zwi 1 rfl) rfl 30 rfl ?_
        refine v_iconst h dX7_peek_30 1 rfl 31 rfl ?_
        refine v_iadd h dX7_peek_31 32 rfl ?_
        refine v_put h dX7_peek_32 iX7_peek_X7 tyX7 tyX7_ok nmX7 0 rfl rfl 5 (by decide) (zwi 1 rfl) rfl rfl rfl (Nat.le_of_ble_eq_true rfl) (wM ca ad (v.1, v.2.1, v.2.2.1, v.2.2.2.1, v.2.2.2.2.1, (m5 + 1), v.2.2.2.2.2.2)) rfl 35 rfl ?_
        refine v_goto h dX7_peek_35 0 (by decide) ?_
        exact v_sub [0] rfl (ih v (m5 + 1) _ hf kx)
def fX7_peek (v : MV) : Option (Int32 × Int32) := ((fX7_peek_L0 zF v v.2.2.2.2.2.1) : Option Int32).bind (fun u1 => if v.2.2.2.1 ≤ u1 then (some (0, u1)) else (zgrd (zix u1 90) (some ((zgt v.2.2.2.2.1 u1), u1))))
set_option maxRecDepth 100000 in
set_option maxHeartbeats 4000000 in
theorem tX7_peek (l : Launch) (G : va_G) (ca : Nat → ClassId) (ad : Nat → Nat) (v : MV)  {o : (Int32 × Int32)} (hf : fX7_peek v = some o) : zMi l yX7_peek wsX7_peek rX7_peek G ca [.ref (ad 0)] (wM ca ad v) o.1 (wM ca ad (v.1, v.2.1, v.2.2.1, v.2.2.2.1, v.2.2.2.2.1, o.2, v.2.2.2.2.2.2)) := by
  refine zMi.of (cc := cX7_peek) (nL := 1) (own := RX7) (ty := .int) (by decide) rfl rfl (Nat.le_of_ble_eq_true rfl) (fun X h hE => ?_)
  show V X G 1 0 0 (wM ca ad v) 0 [(0, .ref (ad 0))] []
  unfold fX7_peek at hf
  obtain ⟨u1, hu1, hf⟩ := zb hf
  refine v_sub [0] rfl ?_
  refine tX7_peek_l0 h zF v v.2.2.2.2.2.1 _ hu1 ?_
  refine v_aload_n h dX7_peek_38 0 rfl 39 rfl ?_
  refine v_get h (v := .int u1) dX7_peek_39 iX7_peek_X7 0 rfl rfl 5 (by decide) (zwi 1 rfl) rfl 42 rfl ?_
  refine v_aload_n h dX7_peek_42 0 rfl 43 rfl ?_
  refine v_get h (v := .int v.2.2.2.1) dX7_peek_43 iX7_peek_X7 0 rfl rfl 3 (by decide) (zwi 2 rfl) rfl 46 rfl ?_
  refine v_icmp_ge h dX7_peek_46 61 (by decide) 49 rfl (fun c2 => ?_) (fun c2 => ?_)
  · replace hf := zt c2 hf
    refine v_iconst h dX7_peek_61 0 rfl 62 rfl ?_
    cases (Option.some.inj hf)
    exact hE 62 _ rfl dX7_peek_62
  · replace hf := zf c2 hf
    refine v_aload_n h dX7_peek_49 0 rfl 50 rfl ?_
    refine v_get h (v := .ref (ad 4)) dX7_peek_50 iX7_peek_X7 0 rfl rfl 4 (by decide) (zwi 3 rfl) rfl 53 rfl ?_
    refine v_aload_n h dX7_peek_53 0 rfl 54 rfl ?_
    refine v_get h (v := .int u1) dX7_peek_54 iX7_peek_X7 0 rfl rfl 5 (by decide) (zwi 1 rfl) rfl 57 rfl ?_
    obtain ⟨g3, hf⟩ := zg hf
    refine v_iald h (f := v.2.2.2.2.1) dX7_peek_57 4 0 rfl rfl (zix_in g3) 58 rfl ?_
    refine v_goto h dX7_peek_58 62 (by decide) ?_
    cases (Option.some.inj hf)
    exact hE 62 _ rfl dX7_peek_62
abbrev rX7_isSign : Room := { frames := 1, cells := 0, slots := 0, locals := 20 }
theorem nX7_isSign : zNoMH yX7_isSign 1 := ⟨by decide +kernel, by decide +kernel, by decide +kernel⟩
theorem iX7_isSign_X7 : ∀ w ∈ wsX70, w ∈ wsX7_isSign := fun _ h => (List.mem_cons_of_mem _ (List.mem_append_right _ h))
def fX7_isSign (v : MV) (x1 : Int32) : Option (Int32 × Int32) := ((fX7_peek v) : Option (Int32 × Int32)).bind (fun u1 => if u1.1 = x1 then (some (1, (u1.2 + 1))) else (some (0, u1.2)))
set_option maxRecDepth 100000 in
set_option maxHeartbeats 4000000 in
theorem tX7_isSign (l : Launch) (G : va_G) (ca : Nat → ClassId) (ad : Nat → Nat) (v : MV) (x1 : Int32) {o : (Int32 × Int32)} (hf : fX7_isSign v x1 = some o) : zMi l yX7_isSign wsX7_isSign rX7_isSign G ca [.ref (ad 0), .int x1] (wM ca ad v) o.1 (wM ca ad (v.1, v.2.1, v.2.2.1, v.2.2.2.1, v.2.2.2.2.1, o.2, v.2.2.2.2.2.2)) := by
  refine zMi.of (cc := cX7_isSign) (nL := 2) (own := RX7) (ty := .boolean) (by decide) rfl rfl (Nat.le_of_ble_eq_true rfl) (fun X h hE => ?_)
  show V X G 2 0 0 (wM ca ad v) 0 [(0, .ref (ad 0)), (1, .int x1)] []
  unfold fX7_isSign at hf
  refine v_aload_n h dX7_isSign_0 0 rfl 1 rfl ?_
  obtain ⟨u1, hu1, hf⟩ := zb hf
  refine v_wcallVi h (rest := []) dX7_isSign_1 (tX7_peek l G ca ad v  hu1) gX7_isSign_X7_peek rfl rfl ⟨rfl, rfl⟩ nX7_peek ⟨Nat.le_of_ble_eq_true rfl, Nat.le_of_ble_eq_true rfl⟩ 0 rfl rfl rfl rfl (Nat.le_of_ble_eq_true rfl) ⟨Nat.zero_le _, Nat.zero_le _⟩ (wM_adr _ _ _ _) 4 rfl ?_
  refine v_iload_n h dX7_isSign_4 1 rfl 5 rfl ?_
  refine v_icmp_eq h dX7_isSign_5 10 (by decide) 8 rfl (fun c2 => ?_) (fun c2 => ?_)
  · replace hf := zt c2 hf
    refine v_aload_n h dX7_isSign_10 0 rfl 11 rfl ?_
    refine v_dup h dX7_isSign_11 rfl 12 rfl ?_
    refine v_get h (v := .int u1.2) dX7_isSign_12 iX7_isSign_X7 0 rfl rfl 5 (by decide) (zwi 1 rfl) rfl 15 rfl ?_
    refine v_iconst h dX7_isSign_15 1 rfl 16 rfl ?_
    refine v_iadd h dX7_isSign_16 17 rfl ?_
    refine v_put h dX7_isSign_17 iX7_isSign_X7 tyX7 tyX7_ok nmX7 0 rfl rfl 5 (by decide) (zwi 1 rfl) rfl rfl rfl (Nat.le_of_ble_eq_true rfl) (wM ca ad (v.1, v.2.1, v.2.2.1, v.2.2.2.1, v.2.2.2.2.1, (u1.2 + 1), v.2.2.2.2.2.2)) rfl 20 rfl ?_
    refine v_iconst h dX7_isSign_20 1 rfl 21 rfl ?_
    cases (Option.some.inj hf)
    exact hE 21 _ znar1 dX7_isSign_21
  · replace hf := zf c2 hf
    refine v_iconst h dX7_isSign_8 0 rfl 9 rfl ?_
    cases (Option.some.inj hf)
    exact hE 9 _ znar0 dX7_isSign_9
abbrev rX7_isDigit : Room := { frames := 1, cells := 0, slots := 0, locals := 22 }
theorem nX7_isDigit : zNoMH yX7_isDigit 2 := ⟨by decide +kernel, by decide +kernel, by decide +kernel⟩
theorem iX7_isDigit_X7 : ∀ w ∈ wsX70, w ∈ wsX7_isDigit := fun _ h => (List.mem_cons_of_mem _ (List.mem_append_right _ h))
def fX7_isDigit (v : MV) (x1 : Int32) (x2 : Int32) : Option (Int32 × Int32 × Int32) := ((fX7_peek v) : Option (Int32 × Int32)).bind (fun u1 => ((fX7_in (u1.1 - 48) x1 x2) : Option Int32).bind (fun u2 => if u2 = 0 then (some (0, u1.2, (u1.1 - 48))) else (some (1, (u1.2 + 1), (u1.1 - 48)))))
set_option maxRecDepth 100000 in
set_option maxHeartbeats 4000000 in
theorem tX7_isDigit (l : Launch) (G : va_G) (ca : Nat → ClassId) (ad : Nat → Nat) (v : MV) (x1 : Int32) (x2 : Int32) {o : (Int32 × Int32 × Int32)} (hf : fX7_isDigit v x1 x2 = some o) : zMi l yX7_isDigit wsX7_isDigit rX7_isDigit G ca [.ref (ad 0), .int x1, .int x2] (wM ca ad v) o.1 (wM ca ad (v.1, v.2.1, v.2.2.1, v.2.2.2.1, v.2.2.2.2.1, o.2.1, o.2.2, v.2.2.2.2.2.2.2)) := by
  refine zMi.of (cc := cX7_isDigit) (nL := 3) (own := RX7) (ty := .boolean) (by decide) rfl rfl (Nat.le_of_ble_eq_true rfl) (fun X h hE => ?_)
  show V X G 3 0 0 (wM ca ad v) 0 [(0, .ref (ad 0)), (1, .int x1), (2, .int x2)] []
  unfold fX7_isDigit at hf
  refine v_aload_n h dX7_isDigit_0 0 rfl 1 rfl ?_
  refine v_aload_n h dX7_isDigit_1 0 rfl 2 rfl ?_
  obtain ⟨u1, hu1, hf⟩ := zb hf
  refine v_wcallVi h (rest := [.ref (ad 0)]) dX7_isDigit_2 (tX7_peek l G ca ad v  hu1) gX7_isDigit_X7_peek rfl rfl ⟨rfl, rfl⟩ nX7_peek ⟨Nat.le_of_ble_eq_true rfl, Nat.le_of_ble_eq_true rfl⟩ 0 rfl rfl rfl rfl (Nat.le_of_ble_eq_true rfl) ⟨Nat.zero_le _, Nat.zero_le _⟩ (wM_adr _ _ _ _) 5 rfl ?_
  refine v_bipush h dX7_isDigit_5 48 rfl 7 rfl ?_
  refine v_isub h dX7_isDigit_7 8 rfl ?_
  refine v_put h dX7_isDigit_8 iX7_isDigit_X7 tyX7 tyX7_ok nmX7 0 rfl rfl 6 (by decide) (zwi 1 rfl) rfl rfl rfl (Nat.le_of_ble_eq_true rfl) (wM ca ad (v.1, v.2.1, v.2.2.1, v.2.2.2.1, v.2.2.2.2.1, u1.2, (u1.1 - 48), v.2.2.2.2.2.2.2)) rfl 11 rfl ?_
  refine v_aload_n h dX7_isDigit_11 0 rfl 12 rfl ?_
  refine v_get h (v := .int (u1.1 - 48)) dX7_isDigit_12 iX7_isDigit_X7 0 rfl rfl 6 (by decide) (zwi 1 rfl) rfl 15 rfl ?_
  refine v_iload_n h dX7_isDigit_15 1 rfl 16 rfl ?_
  refine v_iload_n h dX7_isDigit_16 2 rfl 17 rfl ?_
  obtain ⟨u2, hu2, hf⟩ := zb hf
  refine v_callSi h (rest := []) dX7_isDigit_17 (tX7_in l G ca   (u1.1 - 48) x1 x2 hu2) gX7_isDigit_X7_in rfl ⟨rfl, rfl⟩ nX7_in ⟨Nat.le_of_ble_eq_true rfl, Nat.le_of_ble_eq_true rfl⟩ [] rfl rfl rfl rfl (Nat.le_of_ble_eq_true rfl) ⟨Nat.zero_le _, Nat.zero_le _⟩ rfl (wM ca ad (v.1, v.2.1, v.2.2.1, v.2.2.2.1, v.2.2.2.2.1, u1.2, (u1.1 - 48), v.2.2.2.2.2.2.2)) rfl (wM_adr _ _ _ _) 20 rfl ?_
  refine v_if_ne h dX7_isDigit_20 25 (by decide) 23 rfl (fun c3 => ?_) (fun c3 => ?_)
  · replace hf := zf c3 hf
    refine v_aload_n h dX7_isDigit_25 0 rfl 26 rfl ?_
    refine v_dup h dX7_isDigit_26 rfl 27 rfl ?_
    refine v_get h (v := .int u1.2) dX7_isDigit_27 iX7_isDigit_X7 0 rfl rfl 5 (by decide) (zwi 2 rfl) rfl 30 rfl ?_
    refine v_iconst h dX7_isDigit_30 1 rfl 31 rfl ?_
    refine v_iadd h dX7_isDigit_31 32 rfl ?_
    refine v_put h dX7_isDigit_32 iX7_isDigit_X7 tyX7 tyX7_ok nmX7 0 rfl rfl 5 (by decide) (zwi 2 rfl) rfl rfl rfl (Nat.le_of_ble_eq_true rfl) (wM ca ad (v.1, v.2.1, v.2.2.1, v.2.2.2.1, v.2.2.2.2.1, (u1.2 + 1), (u1.1 - 48), v.2.2.2.2.2.2.2)) rfl 35 rfl ?_
    refine v_iconst h dX7_isDigit_35 1 rfl 36 rfl ?_
    cases (Option.some.inj hf)
    exact hE 36 _ znar1 dX7_isDigit_36
  · replace hf := zt c3 hf
    refine v_iconst h dX7_isDigit_23 0 rfl 24 rfl ?_
    cases (Option.some.inj hf)
    exact hE 24 _ znar0 dX7_isDigit_24
abbrev rX7_isNumber : Room := { frames := 2, cells := 0, slots := 0, locals := 44 }
theorem nX7_isNumber : zNoMH yX7_isNumber 2 := ⟨by decide +kernel, by decide +kernel, by decide +kernel⟩
theorem iX7_isNumber_X7 : ∀ w ∈ wsX70, w ∈ wsX7_isNumber := fun _ h => (List.mem_cons_of_mem _ (List.mem_append_right _ h))
def fX7_isNumber (v : MV) (x1 : Int32) (x2 : Int32) : Option (Int32 × Int32 × Int32) := ((fX7_isDigit v 0 9) : Option (Int32 × Int32 × Int32)).bind (fun u1 => if u1.1 = 0 then (some (0, u1.2.1, u1.2.2)) else (if v.2.2.2.1 ≤ u1.2.1 then (((fX7_in u1.2.2 x1 x2) : Option Int32).bind (fun u4 => if u4 = 0 then (some (0, (u1.2.1 - 1), u1.2.2)) else (if u1.2.1 = v.2.2.2.1 then (some (1, u1.2.1, u1.2.2)) else (zgrd (zix u1.2.1 90) (((fX7_in (zgt v.2.2.2.2.1 u1.2.1) 48 57) : Option Int32).bind (fun u8 => if u8 = 0 then (some (1, u1.2.1, u1.2.2)) else (some (0, u1.2.1, u1.2.2)))))))) else (zgrd (zix u1.2.1 90) (((fX7_in (zgt v.2.2.2.2.1 u1.2.1) 48 57) : Option Int32).bind (fun u11 => if u11 = 0 then (((fX7_in u1.2.2 x1 x2) : Option Int32).bind (fun u13 => if u13 = 0 then (some (0, (u1.2.1 - 1), u1.2.2)) else (if u1.2.1 = v.2.2.2.1 then (some (1, u1.2.1, u1.2.2)) else (((fX7_in (zgt v.2.2.2.2.1 u1.2.1) 48 57) : Option Int32).bind (fun u16 => if u16 = 0 then (some (1, u1.2.1, u1.2.2)) else (some (0, u1.2.1, u1.2.2))))))) else (((fX7_in (((10 * u1.2.2) + (zgt v.2.2.2.2.1 u1.2.1)) - 48) x1 x2) : Option Int32).bind (fun u18 => if u18 = 0 then (some (0, (u1.2.1 - 1), (((10 * u1.2.2) + (zgt v.2.2.2.2.1 u1.2.1)) - 48))) else (if (u1.2.1 + 1) = v.2.2.2.1 then (some (1, (u1.2.1 + 1), (((10 * u1.2.2) + (zgt v.2.2.2.2.1 u1.2.1)) - 48))) else (zgrd (zix (u1.2.1 + 1) 90) (((fX7_in (zgt v.2.2.2.2.1 (u1.2.1 + 1)) 48 57) : Option Int32).bind (fun u22 => if u22 = 0 then (some (1, (u1.2.1 + 1), (((10 * u1.2.2) + (zgt v.2.2.2.2.1 u1.2.1)) - 48))) else (some (0, (u1.2.1 + 1), (((10 * u1.2.2) + (zgt v.2.2.2.2.1 u1.2.1)) - 48))))))))))))))
set_option maxRecDepth 100000 in
set_option maxHeartbeats 4000000 in
theorem tX7_isNumber (l : Launch) (G : va_G) (ca : Nat → ClassId) (ad : Nat → Nat) (v : MV) (x1 : Int32) (x2 : Int32) {o : (Int32 × Int32 × Int32)} (hf : fX7_isNumber v x1 x2 = some o) : zMi l yX7_isNumber wsX7_isNumber rX7_isNumber G ca [.ref (ad 0), .int x1, .int x2] (wM ca ad v) o.1 (wM ca ad (v.1, v.2.1, v.2.2.1, v.2.2.2.1, v.2.2.2.2.1, o.2.1, o.2.2, v.2.2.2.2.2.2.2)) := by
  refine zMi.of (cc := cX7_isNumber) (nL := 5) (own := RX7) (ty := .boolean) (by decide) rfl rfl (Nat.le_of_ble_eq_true rfl) (fun X h hE => ?_)
  show V X G 5 0 0 (wM ca ad v) 0 [(0, .ref (ad 0)), (1, .int x1), (2, .int x2)] []
  unfold fX7_isNumber at hf
  refine v_aload_n h dX7_isNumber_0 0 rfl 1 rfl ?_
  refine v_iconst h dX7_isNumber_1 0 rfl 2 rfl ?_
  refine v_bipush h dX7_isNumber_2 9 rfl 4 rfl ?_
  obtain ⟨u1, hu1, hf⟩ := zb hf
  refine v_wcallVi h (rest := []) dX7_isNumber_4 (tX7_isDigit l G ca ad v 0 9 hu1) gX7_isNumber_X7_isDigit rfl rfl ⟨rfl, rfl⟩ nX7_isDigit ⟨Nat.le_of_ble_eq_true rfl, Nat.le_of_ble_eq_true rfl⟩ 0 rfl rfl rfl rfl (Nat.le_of_ble_eq_true rfl) ⟨Nat.zero_le _, Nat.zero_le _⟩ (wM_adr _ _ _ _) 7 rfl ?_
  refine v_if_ne h dX7_isNumber_7 12 (by decide) 10 rfl (fun c2 => ?_) (fun c2 => ?_)
  · replace hf := zf c2 hf
    refine v_aload_n h dX7_isNumber_12 0 rfl 13 rfl ?_
    refine v_get h (v := .int u1.2.1) dX7_isNumber_13 iX7_isNumber_X7 0 rfl rfl 5 (by decide) (zwi 1 rfl) rfl 16 rfl ?_
    refine v_iconst h dX7_isNumber_16 1 rfl 17 rfl ?_
    refine v_isub h dX7_isNumber_17 18 rfl ?_
    refine v_istore_n h dX7_isNumber_18 (Nat.le_of_ble_eq_true rfl) rfl rfl [(0, .ref (ad 0)), (1, .int x1), (2, .int x2), (3, .int (u1.2.1 - 1))] rfl 19 rfl ?_
    refine v_aload_n h dX7_isNumber_19 0 rfl 20 rfl ?_
    refine v_get h (v := .int u1.2.2) dX7_isNumber_20 iX7_isNumber_X7 0 rfl rfl 6 (by decide) (zwi 2 rfl) rfl 23 rfl ?_
    refine v_istore h dX7_isNumber_23 (Nat.le_of_ble_eq_true rfl) rfl rfl [(0, .ref (ad 0)), (1, .int x1), (2, .int x2), (3, .int (u1.2.1 - 1)), (4, .int u1.2.2)] rfl 25 rfl ?_
    refine v_aload_n h dX7_isNumber_25 0 rfl 26 rfl ?_
    refine v_get h (v := .int u1.2.1) dX7_isNumber_26 iX7_isNumber_X7 0 rfl rfl 5 (by decide) (zwi 1 rfl) rfl 29 rfl ?_
    refine v_aload_n h dX7_isNumber_29 0 rfl 30 rfl ?_
    refine v_get h (v := .int v.2.2.2.1) dX7_isNumber_30 iX7_isNumber_X7 0 rfl rfl 3 (by decide) (zwi 3 rfl) rfl 33 rfl ?_
    refine v_icmp_ge h dX7_isNumber_33 85 (by decide) 36 rfl (fun c3 => ?_) (fun c3 => ?_)
    · replace hf := zt c3 hf
      refine v_aload_n h dX7_isNumber_85 0 rfl 86 rfl ?_
      refine v_iload h dX7_isNumber_86 4 rfl 88 rfl ?_
      refine v_put h dX7_isNumber_88 iX7_isNumber_X7 tyX7 tyX7_ok nmX7 0 rfl rfl 6 (by decide) (zwi 2 rfl) rfl rfl rfl (Nat.le_of_ble_eq_true rfl) (wM ca ad (v.1, v.2.1, v.2.2.1, v.2.2.2.1, v.2.2.2.2.1, u1.2.1, u1.2.2, v.2.2.2.2.2.2.2)) rfl 91 rfl ?_
      refine v_iload h dX7_isNumber_91 4 rfl 93 rfl ?_
      refine v_iload_n h dX7_isNumber_93 1 rfl 94 rfl ?_
      refine v_iload_n h dX7_isNumber_94 2 rfl 95 rfl ?_
      obtain ⟨u4, hu4, hf⟩ := zb hf
      refine v_callSi h (rest := []) dX7_isNumber_95 (tX7_in l G ca   u1.2.2 x1 x2 hu4) gX7_isNumber_X7_in rfl ⟨rfl, rfl⟩ nX7_in ⟨Nat.le_of_ble_eq_true rfl, Nat.le_of_ble_eq_true rfl⟩ [] rfl rfl rfl rfl (Nat.le_of_ble_eq_true rfl) ⟨Nat.zero_le _, Nat.zero_le _⟩ rfl (wM ca ad (v.1, v.2.1, v.2.2.1, v.2.2.2.1, v.2.2.2.2.1, u1.2.1, u1.2.2, v.2.2.2.2.2.2.2)) rfl (wM_adr _ _ _ _) 98 rfl ?_
      refine v_if_ne h dX7_isNumber_98 108 (by decide) 101 rfl (fun c5 => ?_) (fun c5 => ?_)
      · replace hf := zf c5 hf
        refine v_aload_n h dX7_isNumber_108 0 rfl 109 rfl ?_
        refine v_get h (v := .int u1.2.1) dX7_isNumber_109 iX7_isNumber_X7 0 rfl rfl 5 (by decide) (zwi 1 rfl) rfl 112 rfl ?_
        refine v_aload_n h dX7_isNumber_112 0 rfl 113 rfl ?_
        refine v_get h (v := .int v.2.2.2.1) dX7_isNumber_113 iX7_isNumber_X7 0 rfl rfl 3 (by decide) (zwi 3 rfl) rfl 116 rfl ?_
        refine v_icmp_eq h dX7_isNumber_116 138 (by decide) 119 rfl (fun c6 => ?_) (fun c6 => ?_)
        · replace hf := zt c6 hf
          refine v_iconst h dX7_isNumber_138 1 rfl 139 rfl ?_
          refine v_goto h dX7_isNumber_139 143 (by decide) ?_
          cases (Option.some.inj hf)
          exact hE 143 _ znar1 dX7_isNumber_143
        · replace hf := zf c6 hf
          refine v_aload_n h dX7_isNumber_119 0 rfl 120 rfl ?_
          refine v_get h (v := .ref (ad 4)) dX7_isNumber_120 iX7_isNumber_X7 0 rfl rfl 4 (by decide) (zwi 4 rfl) rfl 123 rfl ?_
          refine v_aload_n h dX7_isNumber_123 0 rfl 124 rfl ?_
          refine v_get h (v := .int u1.2.1) dX7_isNumber_124 iX7_isNumber_X7 0 rfl rfl 5 (by decide) (zwi 1 rfl) rfl 127 rfl ?_
          obtain ⟨g7, hf⟩ := zg hf
          refine v_iald h (f := v.2.2.2.2.1) dX7_isNumber_127 4 0 rfl rfl (zix_in g7) 128 rfl ?_
          refine v_bipush h dX7_isNumber_128 48 rfl 130 rfl ?_
          refine v_bipush h dX7_isNumber_130 57 rfl 132 rfl ?_
          obtain ⟨u8, hu8, hf⟩ := zb hf
          refine v_callSi h (rest := []) dX7_isNumber_132 (tX7_in l G ca   (zgt v.2.2.2.2.1 u1.2.1) 48 57 hu8) gX7_isNumber_X7_in rfl ⟨rfl, rfl⟩ nX7_in ⟨Nat.le_of_ble_eq_true rfl, Nat.le_of_ble_eq_true rfl⟩ [] rfl rfl rfl rfl (Nat.le_of_ble_eq_true rfl) ⟨Nat.zero_le _, Nat.zero_le _⟩ rfl (wM ca ad (v.1, v.2.1, v.2.2.1, v.2.2.2.1, v.2.2.2.2.1, u1.2.1, u1.2.2, v.2.2.2.2.2.2.2)) rfl (wM_adr _ _ _ _) 135 rfl ?_
          refine v_if_ne h dX7_isNumber_135 142 (by decide) 138 rfl (fun c9 => ?_) (fun c9 => ?_)
          · replace hf := zf c9 hf
            refine v_iconst h dX7_isNumber_142 0 rfl 143 rfl ?_
            cases (Option.some.inj hf)
            exact hE 143 _ znar0 dX7_isNumber_143
          · replace hf := zt c9 hf
            refine v_iconst h dX7_isNumber_138 1 rfl 139 rfl ?_
            refine v_goto h dX7_isNumber_139 143 (by decide) ?_
            cases (Option.some.inj hf)
            exact hE 143 _ znar1 dX7_isNumber_143
      · replace hf := zt c5 hf
        refine v_aload_n h dX7_isNumber_101 0 rfl 102 rfl ?_
        refine v_iload_n h dX7_isNumber_102 3 rfl 103 rfl ?_
        refine v_put h dX7_isNumber_103 iX7_isNumber_X7 tyX7 tyX7_ok nmX7 0 rfl rfl 5 (by decide) (zwi 1 rfl) rfl rfl rfl (Nat.le_of_ble_eq_true rfl) (wM ca ad (v.1, v.2.1, v.2.2.1, v.2.2.2.1, v.2.2.2.2.1, (u1.2.1 - 1), u1.2.2, v.2.2.2.2.2.2.2)) rfl 106 rfl ?_
        refine v_iconst h dX7_isNumber_106 0 rfl 107 rfl ?_
        cases (Option.some.inj hf)
        exact hE 107 _ znar0 dX7_isNumber_107
    · replace hf := zf c3 hf
      refine v_aload_n h dX7_isNumber_36 0 rfl 37 rfl ?_
      refine v_get h (v := .ref (ad 4)) dX7_isNumber_37 iX7_isNumber_X7 0 rfl rfl 4 (by decide) (zwi 4 rfl) rfl 40 rfl ?_
      refine v_aload_n h dX7_isNumber_40 0 rfl 41 rfl ?_
      refine v_get h (v := .int u1.2.1) dX7_isNumber_41 iX7_isNumber_X7 0 rfl rfl 5 (by decide) (zwi 1 rfl) rfl 44 rfl ?_
      obtain ⟨g10, hf⟩ := zg hf
      refine v_iald h (f := v.2.2.2.2.1) dX7_isNumber_44 4 0 rfl rfl (zix_in g10) 45 rfl ?_
      refine v_bipush h dX7_isNumber_45 48 rfl 47 rfl ?_
      refine v_bipush h dX7_isNumber_47 57 rfl 49 rfl ?_
      obtain ⟨u11, hu11, hf⟩ := zb hf
      refine v_callSi h (rest := []) dX7_isNumber_49 (tX7_in l G ca   (zgt v.2.2.2.2.1 u1.2.1) 48 57 hu11) gX7_isNumber_X7_in rfl ⟨rfl, rfl⟩ nX7_in ⟨Nat.le_of_ble_eq_true rfl, Nat.le_of_ble_eq_true rfl⟩ [] rfl rfl rfl rfl (Nat.le_of_ble_eq_true rfl) ⟨Nat.zero_le _, Nat.zero_le _⟩ rfl (wM ca ad (v.1, v.2.1, v.2.2.1, v.2.2.2.1, v.2.2.2.2.1, u1.2.1, u1.2.2, v.2.2.2.2.2.2.2)) rfl (wM_adr _ _ _ _) 52 rfl ?_
      refine v_if_eq h dX7_isNumber_52 85 (by decide) 55 rfl (fun c12 => ?_) (fun c12 => ?_)
      · replace hf := zt c12 hf
        refine v_aload_n h dX7_isNumber_85 0 rfl 86 rfl ?_
        refine v_iload h dX7_isNumber_86 4 rfl 88 rfl ?_
        refine v_put h dX7_isNumber_88 iX7_isNumber_X7 tyX7 tyX7_ok nmX7 0 rfl rfl 6 (by decide) (zwi 2 rfl) rfl rfl rfl (Nat.le_of_ble_eq_true rfl) (wM ca ad (v.1, v.2.1, v.2.2.1, v.2.2.2.1, v.2.2.2.2.1, u1.2.1, u1.2.2, v.2.2.2.2.2.2.2)) rfl 91 rfl ?_
        refine v_iload h dX7_isNumber_91 4 rfl 93 rfl ?_
        refine v_iload_n h dX7_isNumber_93 1 rfl 94 rfl ?_
        refine v_iload_n h dX7_isNumber_94 2 rfl 95 rfl ?_
        obtain ⟨u13, hu13, hf⟩ := zb hf
        refine v_callSi h (rest := []) dX7_isNumber_95 (tX7_in l G ca   u1.2.2 x1 x2 hu13) gX7_isNumber_X7_in rfl ⟨rfl, rfl⟩ nX7_in ⟨Nat.le_of_ble_eq_true rfl, Nat.le_of_ble_eq_true rfl⟩ [] rfl rfl rfl rfl (Nat.le_of_ble_eq_true rfl) ⟨Nat.zero_le _, Nat.zero_le _⟩ rfl (wM ca ad (v.1, v.2.1, v.2.2.1, v.2.2.2.1, v.2.2.2.2.1, u1.2.1, u1.2.2, v.2.2.2.2.2.2.2)) rfl (wM_adr _ _ _ _) 98 rfl ?_
        refine v_if_ne h dX7_isNumber_98 108 (by decide) 101 rfl (fun c14 => ?_) (fun c14 => ?_)
        · replace hf := zf c14 hf
          refine v_aload_n h dX7_isNumber_108 0 rfl 109 rfl ?_
          refine v_get h (v := .int u1.2.1) dX7_isNumber_109 iX7_isNumber_X7 0 rfl rfl 5 (by decide) (zwi 1 rfl) rfl 112 rfl ?_
          refine v_aload_n h dX7_isNumber_112 0 rfl 113 rfl ?_
          refine v_get h (v := .int v.2.2.2.1) dX7_isNumber_113 iX7_isNumber_X7 0 rfl rfl 3 (by decide) (zwi 3 rfl) rfl 116 rfl ?_
          refine v_icmp_eq h dX7_isNumber_116 138 (by decide) 119 rfl (fun c15 => ?_) (fun c15 => ?_)
          · replace hf := zt c15 hf
            refine v_iconst h dX7_isNumber_138 1 rfl 139 rfl ?_
            refine v_goto h dX7_isNumber_139 143 (by decide) ?_
            cases (Option.some.inj hf)
            exact hE 143 _ znar1 dX7_isNumber_143
          · replace hf := zf c15 hf
            refine v_aload_n h dX7_isNumber_119 0 rfl 120 rfl ?_
            refine v_get h (v := .ref (ad 4)) dX7_isNumber_120 iX7_isNumber_X7 0 rfl rfl 4 (by decide) (zwi 4 rfl) rfl 123 rfl ?_
            refine v_aload_n h dX7_isNumber_123 0 rfl 124 rfl ?_
            refine v_get h (v := .int u1.2.1) dX7_isNumber_124 iX7_isNumber_X7 0 rfl rfl 5 (by decide) (zwi 1 rfl) rfl 127 rfl ?_
            refine v_iald h (f := v.2.2.2.2.1) dX7_isNumber_127 4 0 rfl rfl (zix_in g10) 128 rfl ?_
            refine v_bipush h dX7_isNumber_128 48 rfl 130 rfl ?_
            refine v_bipush h dX7_isNumber_130 57 rfl 132 rfl ?_
            obtain ⟨u16, hu16, hf⟩ := zb hf
            refine v_callSi h (rest := []) dX7_isNumber_132 (tX7_in l G ca   (zgt v.2.2.2.2.1 u1.2.1) 48 57 hu16) gX7_isNumber_X7_in rfl ⟨rfl, rfl⟩ nX7_in ⟨Nat.le_of_ble_eq_true rfl, Nat.le_of_ble_eq_true rfl⟩ [] rfl rfl rfl rfl (Nat.le_of_ble_eq_true rfl) ⟨Nat.zero_le _, Nat.zero_le _⟩ rfl (wM ca ad (v.1, v.2.1, v.2.2.1, v.2.2.2.1, v.2.2.2.2.1, u1.2.1, u1.2.2, v.2.2.2.2.2.2.2)) rfl (wM_adr _ _ _ _) 135 rfl ?_
            refine v_if_ne h dX7_isNumber_135 142 (by decide) 138 rfl (fun c17 => ?_) (fun c17 => ?_)
            · replace hf := zf c17 hf
              refine v_iconst h dX7_isNumber_142 0 rfl 143 rfl ?_
              cases (Option.some.inj hf)
              exact hE 143 _ znar0 dX7_isNumber_143
            · replace hf := zt c17 hf
              refine v_iconst h dX7_isNumber_138 1 rfl 139 rfl ?_
              refine v_goto h dX7_isNumber_139 143 (by decide) ?_
              cases (Option.some.inj hf)
              exact hE 143 _ znar1 dX7_isNumber_143
        · replace hf := zt c14 hf
          refine v_aload_n h dX7_isNumber_101 0 rfl 102 rfl ?_
          refine v_iload_n h dX7_isNumber_102 3 rfl 103 rfl ?_
          refine v_put h dX7_isNumber_103 iX7_isNumber_X7 tyX7 tyX7_ok nmX7 0 rfl rfl 5 (by decide) (zwi 1 rfl) rfl rfl rfl (Nat.le_of_ble_eq_true rfl) (wM ca ad (v.1, v.2.1, v.2.2.1, v.2.2.2.1, v.2.2.2.2.1, (u1.2.1 - 1), u1.2.2, v.2.2.2.2.2.2.2)) rfl 106 rfl ?_
          refine v_iconst h dX7_isNumber_106 0 rfl 107 rfl ?_
          cases (Option.some.inj hf)
          exact hE 107 _ znar0 dX7_isNumber_107
      · replace hf := zf c12 hf
        refine v_bipush h dX7_isNumber_55 10 rfl 57 rfl ?_
        refine v_iload h dX7_isNumber_57 4 rfl 59 rfl ?_
        refine v_imul h dX7_isNumber_59 60 rfl ?_
        refine v_aload_n h dX7_isNumber_60 0 rfl 61 rfl ?_
        refine v_get h (v := .ref (ad 4)) dX7_isNumber_61 iX7_isNumber_X7 0 rfl rfl 4 (by decide) (zwi 4 rfl) rfl 64 rfl ?_
        refine v_aload_n h dX7_isNumber_64 0 rfl 65 rfl ?_
        refine v_get h (v := .int u1.2.1) dX7_isNumber_65 iX7_isNumber_X7 0 rfl rfl 5 (by decide) (zwi 1 rfl) rfl 68 rfl ?_
        refine v_iald h (f := v.2.2.2.2.1) dX7_isNumber_68 4 0 rfl rfl (zix_in g10) 69 rfl ?_
        refine v_iadd h dX7_isNumber_69 70 rfl ?_
        refine v_bipush h dX7_isNumber_70 48 rfl 72 rfl ?_
        refine v_isub h dX7_isNumber_72 73 rfl ?_
        refine v_istore h dX7_isNumber_73 (Nat.le_of_ble_eq_true rfl) rfl rfl [(0, .ref (ad 0)), (1, .int x1), (2, .int x2), (3, .int (u1.2.1 - 1)), (4, .int (((10 * u1.2.2) + (zgt v.2.2.2.2.1 u1.2.1)) - 48))] rfl 75 rfl ?_
        refine v_aload_n h dX7_isNumber_75 0 rfl 76 rfl ?_
        refine v_dup h dX7_isNumber_76 rfl 77 rfl ?_
        refine v_get h (v := .int u1.2.1) dX7_isNumber_77 iX7_isNumber_X7 0 rfl rfl 5 (by decide) (zwi 1 rfl) rfl 80 rfl ?_
        refine v_iconst h dX7_isNumber_80 1 rfl 81 rfl ?_
        refine v_iadd h dX7_isNumber_81 82 rfl ?_
        refine v_put h dX7_isNumber_82 iX7_isNumber_X7 tyX7 tyX7_ok nmX7 0 rfl rfl 5 (by decide) (zwi 1 rfl) rfl rfl rfl (Nat.le_of_ble_eq_true rfl) (wM ca ad (v.1, v.2.1, v.2.2.1, v.2.2.2.1, v.2.2.2.2.1, (u1.2.1 + 1), u1.2.2, v.2.2.2.2.2.2.2)) rfl 85 rfl ?_
        refine v_aload_n h dX7_isNumber_85 0 rfl 86 rfl ?_
        refine v_iload h dX7_isNumber_86 4 rfl 88 rfl ?_
        refine v_put h dX7_isNumber_88 iX7_isNumber_X7 tyX7 tyX7_ok nmX7 0 rfl rfl 6 (by decide) (zwi 2 rfl) rfl rfl rfl (Nat.le_of_ble_eq_true rfl) (wM ca ad (v.1, v.2.1, v.2.2.1, v.2.2.2.1, v.2.2.2.2.1, (u1.2.1 + 1), (((10 * u1.2.2) + (zgt v.2.2.2.2.1 u1.2.1)) - 48), v.2.2.2.2.2.2.2)) rfl 91 rfl ?_
        refine v_iload h dX7_isNumber_91 4 rfl 93 rfl ?_
        refine v_iload_n h dX7_isNumber_93 1 rfl 94 rfl ?_
        refine v_iload_n h dX7_isNumber_94 2 rfl 95 rfl ?_
        obtain ⟨u18, hu18, hf⟩ := zb hf
        refine v_callSi h (rest := []) dX7_isNumber_95 (tX7_in l G ca   (((10 * u1.2.2) + (zgt v.2.2.2.2.1 u1.2.1)) - 48) x1 x2 hu18) gX7_isNumber_X7_in rfl ⟨rfl, rfl⟩ nX7_in ⟨Nat.le_of_ble_eq_true rfl, Nat.le_of_ble_eq_true rfl⟩ [] rfl rfl rfl rfl (Nat.le_of_ble_eq_true rfl) ⟨Nat.zero_le _, Nat.zero_le _⟩ rfl (wM ca ad (v.1, v.2.1, v.2.2.1, v.2.2.2.1, v.2.2.2.2.1, (u1.2.1 + 1), (((10 * u1.2.2) + (zgt v.2.2.2.2.1 u1.2.1)) - 48), v.2.2.2.2.2.2.2)) rfl (wM_adr _ _ _ _) 98 rfl ?_
        refine v_if_ne h dX7_isNumber_98 108 (by decide) 101 rfl (fun c19 => ?_) (fun c19 => ?_)
        · replace hf := zf c19 hf
          refine v_aload_n h dX7_isNumber_108 0 rfl 109 rfl ?_
          refine v_get h (v := .int (u1.2.1 + 1)) dX7_isNumber_109 iX7_isNumber_X7 0 rfl rfl 5 (by decide) (zwi 1 rfl) rfl 112 rfl ?_
          refine v_aload_n h dX7_isNumber_112 0 rfl 113 rfl ?_
          refine v_get h (v := .int v.2.2.2.1) dX7_isNumber_113 iX7_isNumber_X7 0 rfl rfl 3 (by decide) (zwi 3 rfl) rfl 116 rfl ?_
          refine v_icmp_eq h dX7_isNumber_116 138 (by decide) 119 rfl (fun c20 => ?_) (fun c20 => ?_)
          · replace hf := zt c20 hf
            refine v_iconst h dX7_isNumber_138 1 rfl 139 rfl ?_
            refine v_goto h dX7_isNumber_139 143 (by decide) ?_
            cases (Option.some.inj hf)
            exact hE 143 _ znar1 dX7_isNumber_143
          · replace hf := zf c20 hf
            refine v_aload_n h dX7_isNumber_119 0 rfl 120 rfl ?_
            refine v_get h (v := .ref (ad 4)) dX7_isNumber_120 iX7_isNumber_X7 0 rfl rfl 4 (by decide) (zwi 4 rfl) rfl 123 rfl ?_
            refine v_aload_n h dX7_isNumber_123 0 rfl 124 rfl ?_
            refine v_get h (v := .int (u1.2.1 + 1)) dX7_isNumber_124 iX7_isNumber_X7 0 rfl rfl 5 (by decide) (zwi 1 rfl) rfl 127 rfl ?_
            obtain ⟨g21, hf⟩ := zg hf
            refine v_iald h (f := v.2.2.2.2.1) dX7_isNumber_127 4 0 rfl rfl (zix_in g21) 128 rfl ?_
            refine v_bipush h dX7_isNumber_128 48 rfl 130 rfl ?_
            refine v_bipush h dX7_isNumber_130 57 rfl 132 rfl ?_
            obtain ⟨u22, hu22, hf⟩ := zb hf
            refine v_callSi h (rest := []) dX7_isNumber_132 (tX7_in l G ca   (zgt v.2.2.2.2.1 (u1.2.1 + 1)) 48 57 hu22) gX7_isNumber_X7_in rfl ⟨rfl, rfl⟩ nX7_in ⟨Nat.le_of_ble_eq_true rfl, Nat.le_of_ble_eq_true rfl⟩ [] rfl rfl rfl rfl (Nat.le_of_ble_eq_true rfl) ⟨Nat.zero_le _, Nat.zero_le _⟩ rfl (wM ca ad (v.1, v.2.1, v.2.2.1, v.2.2.2.1, v.2.2.2.2.1, (u1.2.1 + 1), (((10 * u1.2.2) + (zgt v.2.2.2.2.1 u1.2.1)) - 48), v.2.2.2.2.2.2.2)) rfl (wM_adr _ _ _ _) 135 rfl ?_
            refine v_if_ne h dX7_isNumber_135 142 (by decide) 138 rfl (fun c23 => ?_) (fun c23 => ?_)
            · replace hf := zf c23 hf
              refine v_iconst h dX7_isNumber_142 0 rfl 143 rfl ?_
              cases (Option.some.inj hf)
              exact hE 143 _ znar0 dX7_isNumber_143
            · replace hf := zt c23 hf
              refine v_iconst h dX7_isNumber_138 1 rfl 139 rfl ?_
              refine v_goto h dX7_isNumber_139 143 (by decide) ?_
              cases (Option.some.inj hf)
              exact hE 143 _ znar1 dX7_isNumber_143
        · replace hf := zt c19 hf
          refine v_aload_n h dX7_isNumber_101 0 rfl 102 rfl ?_
          refine v_iload_n h dX7_isNumber_102 3 rfl 103 rfl ?_
          refine v_put h dX7_isNumber_103 iX7_isNumber_X7 tyX7 tyX7_ok nmX7 0 rfl rfl 5 (by decide) (zwi 1 rfl) rfl rfl rfl (Nat.le_of_ble_eq_true rfl) (wM ca ad (v.1, v.2.1, v.2.2.1, v.2.2.2.1, v.2.2.2.2.1, (u1.2.1 - 1), (((10 * u1.2.2) + (zgt v.2.2.2.2.1 u1.2.1)) - 48), v.2.2.2.2.2.2.2)) rfl 106 rfl ?_
          refine v_iconst h dX7_isNumber_106 0 rfl 107 rfl ?_
          cases (Option.some.inj hf)
          exact hE 107 _ znar0 dX7_isNumber_107
  · replace hf := zt c2 hf
    refine v_iconst h dX7_isNumber_10 0 rfl 11 rfl ?_
    cases (Option.some.inj hf)
    exact hE 11 _ znar0 dX7_isNumber_11
abbrev rX7_isCoatItem : Room := { frames := 3, cells := 0, slots := 0, locals := 68 }
theorem nX7_isCoatItem : zNoMH yX7_isCoatItem 0 := ⟨by decide +kernel, by decide +kernel, by decide +kernel⟩
theorem iX7_isCoatItem_X7 : ∀ w ∈ wsX70, w ∈ wsX7_isCoatItem := fun _ h => (List.mem_cons_of_mem _ (List.mem_append_right _ h))
def fX7_isCoatItem (v : MV) : Option (Int32 × Int32 × Int32 × zAI) := ((fX7_peek v) : Option (Int32 × Int32)).bind (fun u1 => ((fX7_kindBy u1.1) : Option Int32).bind (fun u2 => if 0 ≤ u2 then (((fX7_isNumber (v.1, v.2.1, v.2.2.1, v.2.2.2.1, v.2.2.2.2.1, (u1.2 + 1), v.2.2.2.2.2.2) 1 20) : Option (Int32 × Int32 × Int32)).bind (fun u4 => if u4.1 = 0 then (some (0, u4.2.1, u4.2.2, v.2.2.2.2.2.2.2.2.2.1)) else (((fX7_addCoat v.2.2.2.2.2.2.2.2.2.1 u2 u4.2.2 0) : Option (Int32 × zAI)).bind (fun u6 => ((fX7_isSign (v.1, v.2.1, v.2.2.1, v.2.2.2.1, v.2.2.2.2.1, u4.2.1, u4.2.2, v.2.2.2.2.2.2.2.1, v.2.2.2.2.2.2.2.2.1, u6.2, v.2.2.2.2.2.2.2.2.2.2) 126) : Option (Int32 × Int32)).bind (fun u7 => if u7.1 = 0 then (some (1, u7.2, u4.2.2, u6.2)) else (((fX7_isDigit (v.1, v.2.1, v.2.2.1, v.2.2.2.1, v.2.2.2.2.1, u7.2, u4.2.2, v.2.2.2.2.2.2.2.1, v.2.2.2.2.2.2.2.2.1, u6.2, v.2.2.2.2.2.2.2.2.2.2) 0 9) : Option (Int32 × Int32 × Int32)).bind (fun u9 => if u9.1 = 0 then (some (0, u9.2.1, u9.2.2, u6.2)) else (zgrd (zix (24 + u6.1) 407) (some (1, u9.2.1, u9.2.2, (zpt u6.2 (24 + u6.1) u9.2.2))))))))))) else (some (0, u1.2, v.2.2.2.2.2.2.1, v.2.2.2.2.2.2.2.2.2.1))))
set_option maxRecDepth 100000 in
set_option maxHeartbeats 4000000 in
theorem tX7_isCoatItem (l : Launch) (G : va_G) (ca : Nat → ClassId) (ad : Nat → Nat) (v : MV)  {o : (Int32 × Int32 × Int32 × zAI)} (hf : fX7_isCoatItem v = some o) : zMi l yX7_isCoatItem wsX7_isCoatItem rX7_isCoatItem G ca [.ref (ad 0)] (wM ca ad v) o.1 (wM ca ad (v.1, v.2.1, v.2.2.1, v.2.2.2.1, v.2.2.2.2.1, o.2.1, o.2.2.1, v.2.2.2.2.2.2.2.1, v.2.2.2.2.2.2.2.2.1, o.2.2.2, v.2.2.2.2.2.2.2.2.2.2)) := by
  refine zMi.of (cc := cX7_isCoatItem) (nL := 3) (own := RX7) (ty := .boolean) (by decide) rfl rfl (Nat.le_of_ble_eq_true rfl) (fun X h hE => ?_)
  show V X G 3 0 0 (wM ca ad v) 0 [(0, .ref (ad 0))] []
  unfold fX7_isCoatItem at hf
  refine v_aload_n h dX7_isCoatItem_0 0 rfl 1 rfl ?_
  obtain ⟨u1, hu1, hf⟩ := zb hf
  refine v_wcallVi h (rest := []) dX7_isCoatItem_1 (tX7_peek l G ca ad v  hu1) gX7_isCoatItem_X7_peek rfl rfl ⟨rfl, rfl⟩ nX7_peek ⟨Nat.le_of_ble_eq_true rfl, Nat.le_of_ble_eq_true rfl⟩ 0 rfl rfl rfl rfl (Nat.le_of_ble_eq_true rfl) ⟨Nat.zero_le _, Nat.zero_le _⟩ (wM_adr _ _ _ _) 4 rfl ?_
  obtain ⟨u2, hu2, hf⟩ := zb hf
  refine v_callSi h (rest := []) dX7_isCoatItem_4 (tX7_kindBy l G ca   u1.1 hu2) gX7_isCoatItem_X7_kindBy rfl ⟨rfl, rfl⟩ nX7_kindBy ⟨Nat.le_of_ble_eq_true rfl, Nat.le_of_ble_eq_true rfl⟩ [] rfl rfl rfl rfl (Nat.le_of_ble_eq_true rfl) ⟨Nat.zero_le _, Nat.zero_le _⟩ rfl (wM ca ad (v.1, v.2.1, v.2.2.1, v.2.2.2.1, v.2.2.2.2.1, u1.2, v.2.2.2.2.2.2)) rfl (wM_adr _ _ _ _) 7 rfl ?_
  refine v_istore_n h dX7_isCoatItem_7 (Nat.le_of_ble_eq_true rfl) rfl rfl [(0, .ref (ad 0)), (1, .int u2)] rfl 8 rfl ?_
  refine v_iload_n h dX7_isCoatItem_8 1 rfl 9 rfl ?_
  refine v_if_ge h dX7_isCoatItem_9 14 (by decide) 12 rfl (fun c3 => ?_) (fun c3 => ?_)
  · replace hf := zt c3 hf
    refine v_aload_n h dX7_isCoatItem_14 0 rfl 15 rfl ?_
    refine v_dup h dX7_isCoatItem_15 rfl 16 rfl ?_
    refine v_get h (v := .int u1.2) dX7_isCoatItem_16 iX7_isCoatItem_X7 0 rfl rfl 5 (by decide) (zwi 1 rfl) rfl 19 rfl ?_
    refine v_iconst h dX7_isCoatItem_19 1 rfl 20 rfl ?_
    refine v_iadd h dX7_isCoatItem_20 21 rfl ?_
    refine v_put h dX7_isCoatItem_21 iX7_isCoatItem_X7 tyX7 tyX7_ok nmX7 0 rfl rfl 5 (by decide) (zwi 1 rfl) rfl rfl rfl (Nat.le_of_ble_eq_true rfl) (wM ca ad (v.1, v.2.1, v.2.2.1, v.2.2.2.1, v.2.2.2.2.1, (u1.2 + 1), v.2.2.2.2.2.2)) rfl 24 rfl ?_
    refine v_aload_n h dX7_isCoatItem_24 0 rfl 25 rfl ?_
    refine v_iconst h dX7_isCoatItem_25 1 rfl 26 rfl ?_
    refine v_bipush h dX7_isCoatItem_26 20 rfl 28 rfl ?_
    obtain ⟨u4, hu4, hf⟩ := zb hf
    refine v_wcallVi h (rest := []) dX7_isCoatItem_28 (tX7_isNumber l G ca ad (v.1, v.2.1, v.2.2.1, v.2.2.2.1, v.2.2.2.2.1, (u1.2 + 1), v.2.2.2.2.2.2) 1 20 hu4) gX7_isCoatItem_X7_isNumber rfl rfl ⟨rfl, rfl⟩ nX7_isNumber ⟨Nat.le_of_ble_eq_true rfl, Nat.le_of_ble_eq_true rfl⟩ 0 rfl rfl rfl rfl (Nat.le_of_ble_eq_true rfl) ⟨Nat.zero_le _, Nat.zero_le _⟩ (wM_adr _ _ _ _) 31 rfl ?_
    refine v_if_ne h dX7_isCoatItem_31 36 (by decide) 34 rfl (fun c5 => ?_) (fun c5 => ?_)
    · replace hf := zf c5 hf
      refine v_aload_n h dX7_isCoatItem_36 0 rfl 37 rfl ?_
      refine v_get h (v := .ref (ad 7)) dX7_isCoatItem_37 iX7_isCoatItem_X7 0 rfl rfl 9 (by decide) (zwi 2 rfl) rfl 40 rfl ?_
      refine v_iload_n h dX7_isCoatItem_40 1 rfl 41 rfl ?_
      refine v_aload_n h dX7_isCoatItem_41 0 rfl 42 rfl ?_
      refine v_get h (v := .int u4.2.2) dX7_isCoatItem_42 iX7_isCoatItem_X7 0 rfl rfl 6 (by decide) (zwi 3 rfl) rfl 45 rfl ?_
      refine v_iconst h dX7_isCoatItem_45 0 rfl 46 rfl ?_
      obtain ⟨u6, hu6, hf⟩ := zb hf
      refine v_callSi h (rest := []) dX7_isCoatItem_46 (tX7_addCoat l G ca (ad 7) v.2.2.2.2.2.2.2.2.2.1 u2 u4.2.2 0 hu6) gX7_isCoatItem_X7_addCoat rfl ⟨rfl, rfl⟩ nX7_addCoat ⟨Nat.le_of_ble_eq_true rfl, Nat.le_of_ble_eq_true rfl⟩ [7] rfl rfl rfl rfl (Nat.le_of_ble_eq_true rfl) ⟨Nat.zero_le _, Nat.zero_le _⟩ rfl (wM ca ad (v.1, v.2.1, v.2.2.1, v.2.2.2.1, v.2.2.2.2.1, u4.2.1, u4.2.2, v.2.2.2.2.2.2.2.1, v.2.2.2.2.2.2.2.2.1, u6.2, v.2.2.2.2.2.2.2.2.2.2)) rfl (wM_adr _ _ _ _) 49 rfl ?_
      refine v_istore_n h dX7_isCoatItem_49 (Nat.le_of_ble_eq_true rfl) rfl rfl [(0, .ref (ad 0)), (1, .int u2), (2, .int u6.1)] rfl 50 rfl ?_
      refine v_aload_n h dX7_isCoatItem_50 0 rfl 51 rfl ?_
      refine v_bipush h dX7_isCoatItem_51 126 rfl 53 rfl ?_
      obtain ⟨u7, hu7, hf⟩ := zb hf
      refine v_wcallVi h (rest := []) dX7_isCoatItem_53 (tX7_isSign l G ca ad (v.1, v.2.1, v.2.2.1, v.2.2.2.1, v.2.2.2.2.1, u4.2.1, u4.2.2, v.2.2.2.2.2.2.2.1, v.2.2.2.2.2.2.2.2.1, u6.2, v.2.2.2.2.2.2.2.2.2.2) 126 hu7) gX7_isCoatItem_X7_isSign rfl rfl ⟨rfl, rfl⟩ nX7_isSign ⟨Nat.le_of_ble_eq_true rfl, Nat.le_of_ble_eq_true rfl⟩ 0 rfl rfl rfl rfl (Nat.le_of_ble_eq_true rfl) ⟨Nat.zero_le _, Nat.zero_le _⟩ (wM_adr _ _ _ _) 56 rfl ?_
      refine v_if_eq h dX7_isCoatItem_56 84 (by decide) 59 rfl (fun c8 => ?_) (fun c8 => ?_)
      · replace hf := zt c8 hf
        refine v_iconst h dX7_isCoatItem_84 1 rfl 85 rfl ?_
        cases (Option.some.inj hf)
        exact hE 85 _ znar1 dX7_isCoatItem_85
      · replace hf := zf c8 hf
        refine v_aload_n h dX7_isCoatItem_59 0 rfl 60 rfl ?_
        refine v_iconst h dX7_isCoatItem_60 0 rfl 61 rfl ?_
        refine v_bipush h dX7_isCoatItem_61 9 rfl 63 rfl ?_
        obtain ⟨u9, hu9, hf⟩ := zb hf
        refine v_wcallVi h (rest := []) dX7_isCoatItem_63 (tX7_isDigit l G ca ad (v.1, v.2.1, v.2.2.1, v.2.2.2.1, v.2.2.2.2.1, u7.2, u4.2.2, v.2.2.2.2.2.2.2.1, v.2.2.2.2.2.2.2.2.1, u6.2, v.2.2.2.2.2.2.2.2.2.2) 0 9 hu9) gX7_isCoatItem_X7_isDigit rfl rfl ⟨rfl, rfl⟩ nX7_isDigit ⟨Nat.le_of_ble_eq_true rfl, Nat.le_of_ble_eq_true rfl⟩ 0 rfl rfl rfl rfl (Nat.le_of_ble_eq_true rfl) ⟨Nat.zero_le _, Nat.zero_le _⟩ (wM_adr _ _ _ _) 66 rfl ?_
        refine v_if_ne h dX7_isCoatItem_66 71 (by decide) 69 rfl (fun c10 => ?_) (fun c10 => ?_)
        · replace hf := zf c10 hf
          refine v_aload_n h dX7_isCoatItem_71 0 rfl 72 rfl ?_
          refine v_get h (v := .ref (ad 7)) dX7_isCoatItem_72 iX7_isCoatItem_X7 0 rfl rfl 9 (by decide) (zwi 2 rfl) rfl 75 rfl ?_
          refine v_bipush h dX7_isCoatItem_75 24 rfl 77 rfl ?_
          refine v_iload_n h dX7_isCoatItem_77 2 rfl 78 rfl ?_
          refine v_iadd h dX7_isCoatItem_78 79 rfl ?_
          refine v_aload_n h dX7_isCoatItem_79 0 rfl 80 rfl ?_
          refine v_get h (v := .int u9.2.2) dX7_isCoatItem_80 iX7_isCoatItem_X7 0 rfl rfl 6 (by decide) (zwi 3 rfl) rfl 83 rfl ?_
          obtain ⟨g11, hf⟩ := zg hf
          refine v_iast h (f := u6.2) dX7_isCoatItem_83 7 0 rfl rfl (zix_in g11) (wM ca ad (v.1, v.2.1, v.2.2.1, v.2.2.2.1, v.2.2.2.2.1, u9.2.1, u9.2.2, v.2.2.2.2.2.2.2.1, v.2.2.2.2.2.2.2.2.1, (zpt u6.2 (24 + u6.1) u9.2.2), v.2.2.2.2.2.2.2.2.2.2)) rfl 84 rfl ?_
          refine v_iconst h dX7_isCoatItem_84 1 rfl 85 rfl ?_
          cases (Option.some.inj hf)
          exact hE 85 _ znar1 dX7_isCoatItem_85
        · replace hf := zt c10 hf
          refine v_iconst h dX7_isCoatItem_69 0 rfl 70 rfl ?_
          cases (Option.some.inj hf)
          exact hE 70 _ znar0 dX7_isCoatItem_70
    · replace hf := zt c5 hf
      refine v_iconst h dX7_isCoatItem_34 0 rfl 35 rfl ?_
      cases (Option.some.inj hf)
      exact hE 35 _ znar0 dX7_isCoatItem_35
  · replace hf := zf c3 hf
    refine v_iconst h dX7_isCoatItem_12 0 rfl 13 rfl ?_
    cases (Option.some.inj hf)
    exact hE 13 _ znar0 dX7_isCoatItem_13
abbrev rX7_isRoof : Room := { frames := 4, cells := 0, slots := 0, locals := 90 }
theorem nX7_isRoof : zNoMH yX7_isRoof 0 := ⟨by decide +kernel, by decide +kernel, by decide +kernel⟩
theorem iX7_isRoof_X7 : ∀ w ∈ wsX70, w ∈ wsX7_isRoof := fun _ h => (List.mem_cons_of_mem _ (List.mem_append_right _ h))
def fX7_isRoof_L25 : Nat → MV → Int32 → Int32 → zAI → Option ((Int32 × Int32 × Int32 × zAI) ⊕ (Int32 × Int32 × zAI))
  | 0, _, _, _, _ => none
  | n + 1, v, m5, m6, m9 => if 8 ≤ (zgt m9 45) then (some (.inr (m5, m6, m9))) else (((fX7_isSign (v.1, v.2.1, v.2.2.1, v.2.2.2.1, v.2.2.2.2.1, m5, m6, v.2.2.2.2.2.2.2.1, v.2.2.2.2.2.2.2.2.1, m9, v.2.2.2.2.2.2.2.2.2.2) 43) : Option (Int32 × Int32)).bind (fun u2 => if u2.1 = 0 then (some (.inr (u2.2, m6, m9))) else (((fX7_isNumber (v.1, v.2.1, v.2.2.1, v.2.2.2.1, v.2.2.2.2.1, u2.2, m6, v.2.2.2.2.2.2.2.1, v.2.2.2.2.2.2.2.2.1, m9, v.2.2.2.2.2.2.2.2.2.2) 0 40) : Option (Int32 × Int32 × Int32)).bind (fun u4 => if u4.1 = 0 then (some (.inl (0, u4.2.1, u4.2.2, m9))) else (((fX7_addRain m9 u4.2.2) : Option zAI).bind (fun u6 => fX7_isRoof_L25 n v u4.2.1 u4.2.2 u6))))))
set_option maxRecDepth 100000 in
set_option maxHeartbeats 4000000 in
theorem tX7_isRoof_l25 {X : zX} {l : Launch} {G : va_G} {ca : Nat → ClassId} {ad : Nat → Nat} (h : zOk X l G ca cX7_isRoof RX7 wsX7_isRoof 2 rX7_isRoof) : ∀ (n : Nat) (v : MV) (m5 : Int32) (m6 : Int32) (m9 : zAI) (out : ((Int32 × Int32 × Int32 × zAI) ⊕ (Int32 × Int32 × zAI))), fX7_isRoof_L25 n v m5 m6 m9 = some out → (∀ e, out = .inr e → V X G 2 0 0 (wM ca ad (v.1, v.2.1, v.2.2.1, v.2.2.2.1, v.2.2.2.2.1, e.1, e.2.1, v.2.2.2.2.2.2.2.1, v.2.2.2.2.2.2.2.2.1, e.2.2, v.2.2.2.2.2.2.2.2.2.2)) 72 [(0, .ref (ad 0))] []) → (∀ r, out = .inl r → zEi X G cX7_isRoof 2 .boolean r.1 (wM ca ad (v.1, v.2.1, v.2.2.1, v.2.2.2.1, v.2.2.2.2.1, r.2.1, r.2.2.1, v.2.2.2.2.2.2.2.1, v.2.2.2.2.2.2.2.2.1, r.2.2.2, v.2.2.2.2.2.2.2.2.2.2))) → V X G 2 0 0 (wM ca ad (v.1, v.2.1, v.2.2.1, v.2.2.2.1, v.2.2.2.2.1, m5, m6, v.2.2.2.2.2.2.2.1, v.2.2.2.2.2.2.2.2.1, m9, v.2.2.2.2.2.2.2.2.2.2)) 25 [(0, .ref (ad 0))] [] := by
  intro n
  induction n with
  | zero => intro v m5 m6 m9 out hf; rw [fX7_isRoof_L25] at hf; cases hf
  | succ n ih =>
    intro v m5 m6 m9 out hf kx kr
    rw [fX7_isRoof_L25] at hf
    refine v_aload_n h dX7_isRoof_25 0 rfl 26 rfl ?_
    refine v_get h (v := .ref (ad 7)) dX7_isRoof_26 iX7_isRoof_X7 0 rfl rfl 9 (by decide) (zwi 1 rfl) rfl 29 rfl ?_
    refine v_bipush h dX7_isRoof_29 45 rfl 31 rfl ?_
    refine v_iald h (f := m9) dX7_isRoof_31 7 0 rfl rfl zi_45_407 32 rfl ?_
    refine v_bipush h dX7_isRoof_32 8 rfl 34 rfl ?_
    refine v_icmp_ge h dX7_isRoof_34 72 (by decide) 37 rfl (fun c1 => ?_) (fun c1 => ?_)
    · replace hf := zt c1 hf
      cases (Option.some.inj hf)
      exact v_sub [0] rfl (kx _ rfl)
    · replace hf := zf c1 hf
      refine v_aload_n h dX7_isRoof_37 0 rfl 38 rfl ?_
      refine v_bipush h dX7_isRoof_38 43 rfl 40 rfl ?_
      obtain ⟨u2, hu2, hf⟩ := zb hf
      refine v_wcallVi h (rest := []) dX7_isRoof_40 (tX7_isSign l G ca ad (v.1, v.2.1, v.2.2.1, v.2.2.2.1, v.2.2.2.2.1, m5, m6, v.2.2.2.2.2.2.2.1, v.2.2.2.2.2.2.2.2.1, m9, v.2.2.2.2.2.2.2.2.2.2) 43 hu2) gX7_isRoof_X7_isSign rfl rfl ⟨rfl, rfl⟩ nX7_isSign ⟨Nat.le_of_ble_eq_true rfl, Nat.le_of_ble_eq_true rfl⟩ 0 rfl rfl rfl rfl (Nat.le_of_ble_eq_true rfl) ⟨Nat.zero_le _, Nat.zero_le _⟩ (wM_adr _ _ _ _) 43 rfl ?_
      refine v_if_eq h dX7_isRoof_43 72 (by decide) 46 rfl (fun c3 => ?_) (fun c3 => ?_)
      · replace hf := zt c3 hf
        cases (Option.some.inj hf)
        exact v_sub [0] rfl (kx _ rfl)
      · replace hf := zf c3 hf
        refine v_aload_n h dX7_isRoof_46 0 rfl 47 rfl ?_
        refine v_iconst h dX7_isRoof_47 0 rfl 48 rfl ?_
        refine v_bipush h dX7_isRoof_48 40 rfl 50 rfl ?_
        obtain ⟨u4, hu4, hf⟩ := zb hf
        refine v_wcallVi h (rest := []) dX7_isRoof_50 (tX7_isNumber l G ca ad (v.1, v.2.1, v.2.2.1, v.2.2.2.1, v.2.2.2.2.1, u2.2, m6, v.2.2.2.2.2.2.2.1, v.2.2.2.2.2.2.2.2.1, m9, v.2.2.2.2.2.2.2.2.2.2) 0 40 hu4) gX7_isRoof_X7_isNumber rfl rfl ⟨rfl, rfl⟩ nX7_isNumber ⟨Nat.le_of_ble_eq_true rfl, Nat.le_of_ble_eq_true rfl⟩ 0 rfl rfl rfl rfl (Nat.le_of_ble_eq_true rfl) ⟨Nat.zero_le _, Nat.zero_le _⟩ (wM_adr _ _ _ _) 53 rfl ?_
        refine v_if_ne h dX7_isRoof_53 58 (by decide) 56 rfl (fun c5 => ?_) (fun c5 => ?_)
        · replace hf := zf c5 hf
          refine v_aload_n h dX7_isRoof_58 0 rfl 59 rfl ?_
          refine v_get h (v := .ref (ad 7)) dX7_isRoof_59 iX7_isRoof_X7 0 rfl rfl 9 (by decide) (zwi 1 rfl) rfl 62 rfl ?_
          refine v_aload_n h dX7_isRoof_62 0 rfl 63 rfl ?_
          refine v_get h (v := .int u4.2.2) dX7_isRoof_63 iX7_isRoof_X7 0 rfl rfl 6 (by decide) (zwi 2 rfl) rfl 66 rfl ?_
          obtain ⟨u6, hu6, hf⟩ := zb hf
          refine v_callSv h (rest := []) dX7_isRoof_66 (tX7_addRain l G ca (ad 7) m9 u4.2.2 hu6) gX7_isRoof_X7_addRain rfl ⟨rfl, rfl⟩ nX7_addRain ⟨Nat.le_of_ble_eq_true rfl, Nat.le_of_ble_eq_true rfl⟩ [7] rfl rfl rfl rfl (Nat.le_of_ble_eq_true rfl) ⟨Nat.zero_le _, Nat.zero_le _⟩ rfl (wM ca ad (v.1, v.2.1, v.2.2.1, v.2.2.2.1, v.2.2.2.2.1, u4.2.1, u4.2.2, v.2.2.2.2.2.2.2.1, v.2.2.2.2.2.2.2.2.1, u6, v.2.2.2.2.2.2.2.2.2.2)) rfl (wM_adr _ _ _ _) 69 rfl ?_
          refine v_goto h dX7_isRoof_69 25 (by decide) ?_
          exact v_sub [0] rfl (ih v u4.2.1 u4.2.2 u6 _ hf kx kr)
        · replace hf := zt c5 hf
          refine v_iconst h dX7_isRoof_56 0 rfl 57 rfl ?_
          cases (Option.some.inj hf)
          exact kr _ rfl 57 _ znar0 dX7_isRoof_57
def fX7_isRoof_L79 : Nat → MV → Int32 → Int32 → Int32 → zAI → Option ((Int32 × Int32 × Int32 × zAI) ⊕ (Int32 × Int32 × zAI))
  | 0, _, _, _, _, _ => none
  | n + 1, v, x1, m5, m6, m9 => if x1 = 0 then (some (.inr (m5, m6, m9))) else (((fX7_isCoatItem (v.1, v.2.1, v.2.2.1, v.2.2.2.1, v.2.2.2.2.1, m5, m6, v.2.2.2.2.2.2.2.1, v.2.2.2.2.2.2.2.2.1, m9, v.2.2.2.2.2.2.2.2.2.2)) : Option (Int32 × Int32 × Int32 × zAI)).bind (fun u2 => if u2.1 = 0 then (some (.inl (0, u2.2.1, u2.2.2.1, u2.2.2.2))) else (if 10 ≤ (zgt u2.2.2.2 3) then (fX7_isRoof_L79 n v 0 u2.2.1 u2.2.2.1 u2.2.2.2) else (((fX7_isSign (v.1, v.2.1, v.2.2.1, v.2.2.2.1, v.2.2.2.2.1, u2.2.1, u2.2.2.1, v.2.2.2.2.2.2.2.1, v.2.2.2.2.2.2.2.2.1, u2.2.2.2, v.2.2.2.2.2.2.2.2.2.2) 44) : Option (Int32 × Int32)).bind (fun u5 => if u5.1 = 0 then (fX7_isRoof_L79 n v 0 u5.2 u2.2.2.1 u2.2.2.2) else (fX7_isRoof_L79 n v 1 u5.2 u2.2.2.1 u2.2.2.2))))))
set_option maxRecDepth 100000 in
set_option maxHeartbeats 4000000 in
theorem tX7_isRoof_l79 {X : zX} {l : Launch} {G : va_G} {ca : Nat → ClassId} {ad : Nat → Nat} (h : zOk X l G ca cX7_isRoof RX7 wsX7_isRoof 2 rX7_isRoof) : ∀ (n : Nat) (v : MV) (x1 : Int32) (m5 : Int32) (m6 : Int32) (m9 : zAI) (out : ((Int32 × Int32 × Int32 × zAI) ⊕ (Int32 × Int32 × zAI))), fX7_isRoof_L79 n v x1 m5 m6 m9 = some out → (∀ e, out = .inr e → V X G 2 0 0 (wM ca ad (v.1, v.2.1, v.2.2.1, v.2.2.2.1, v.2.2.2.2.1, e.1, e.2.1, v.2.2.2.2.2.2.2.1, v.2.2.2.2.2.2.2.2.1, e.2.2, v.2.2.2.2.2.2.2.2.2.2)) 121 [(0, .ref (ad 0))] []) → (∀ r, out = .inl r → zEi X G cX7_isRoof 2 .boolean r.1 (wM ca ad (v.1, v.2.1, v.2.2.1, v.2.2.2.1, v.2.2.2.2.1, r.2.1, r.2.2.1, v.2.2.2.2.2.2.2.1, v.2.2.2.2.2.2.2.2.1, r.2.2.2, v.2.2.2.2.2.2.2.2.2.2))) → V X G 2 0 0 (wM ca ad (v.1, v.2.1, v.2.2.1, v.2.2.2.1, v.2.2.2.2.1, m5, m6, v.2.2.2.2.2.2.2.1, v.2.2.2.2.2.2.2.2.1, m9, v.2.2.2.2.2.2.2.2.2.2)) 79 [(0, .ref (ad 0)), (1, .int x1)] [] := by
  intro n
  induction n with
  | zero => intro v x1 m5 m6 m9 out hf; rw [fX7_isRoof_L79] at hf; cases hf
  | succ n ih =>
    intro v x1 m5 m6 m9 out hf kx kr
    rw [fX7_isRoof_L79] at hf
    refine v_iload_n h dX7_isRoof_79 1 rfl 80 rfl ?_
    refine v_if_eq h dX7_isRoof_80 121 (by decide) 83 rfl (fun c1 => ?_) (fun c1 => ?_)
    · replace hf := zt c1 hf
      cases (Option.some.inj hf)
      exact v_sub [0] rfl (kx _ rfl)
    · replace hf := zf c1 hf
      refine v_aload_n h dX7_isRoof_83 0 rfl 84 rfl ?_
      obtain ⟨u2, hu2, hf⟩ := zb hf
      refine v_wcallVi h (rest := []) dX7_isRoof_84 (tX7_isCoatItem l G ca ad (v.1, v.2.1, v.2.2.1, v.2.2.2.1, v.2.2.2.2.1, m5, m6, v.2.2.2.2.2.2.2.1, v.2.2.2.2.2.2.2.2.1, m9, v.2.2.2.2.2.2.2.2.2.2)  hu2) gX7_isRoof_X7_isCoatItem rfl rfl ⟨rfl, rfl⟩ nX7_isCoatItem ⟨Nat.le_of_ble_eq_true rfl, Nat.le_of_ble_eq_true rfl⟩ 0 rfl rfl rfl rfl (Nat.le_of_ble_eq_true rfl) ⟨Nat.zero_le _, Nat.zero_le _⟩ (wM_adr _ _ _ _) 87 rfl ?_
      refine v_if_ne h dX7_isRoof_87 92 (by decide) 90 rfl (fun c3 => ?_) (fun c3 => ?_)
      · replace hf := zf c3 hf
        refine v_aload_n h dX7_isRoof_92 0 rfl 93 rfl ?_
        refine v_get h (v := .ref (ad 7)) dX7_isRoof_93 iX7_isRoof_X7 0 rfl rfl 9 (by decide) (zwi 1 rfl) rfl 96 rfl ?_
        refine v_iconst h dX7_isRoof_96 3 rfl 97 rfl ?_
        refine v_iald h (f := u2.2.2.2) dX7_isRoof_97 7 0 rfl rfl zi_3_407 98 rfl ?_
        refine v_bipush h dX7_isRoof_98 10 rfl 100 rfl ?_
        refine v_icmp_ge h dX7_isRoof_100 116 (by decide) 103 rfl (fun c4 => ?_) (fun c4 => ?_)
        · replace hf := zt c4 hf
          refine v_iconst h dX7_isRoof_116 0 rfl 117 rfl ?_
          refine v_istore_n h dX7_isRoof_117 (Nat.le_of_ble_eq_true rfl) rfl rfl [(0, .ref (ad 0)), (1, .int 0)] rfl 118 rfl ?_
          refine v_goto h dX7_isRoof_118 79 (by decide) ?_
          exact v_sub [0, 1] rfl (ih v 0 u2.2.1 u2.2.2.1 u2.2.2.2 _ hf kx kr)
        · replace hf := zf c4 hf
          refine v_aload_n h dX7_isRoof_103 0 rfl 104 rfl ?_
          refine v_bipush h dX7_isRoof_104 44 rfl 106 rfl ?_
          obtain ⟨u5, hu5, hf⟩ := zb hf
          refine v_wcallVi h (rest := []) dX7_isRoof_106 (tX7_isSign l G ca ad (v.1, v.2.1, v.2.2.1, v.2.2.2.1, v.2.2.2.2.1, u2.2.1, u2.2.2.1, v.2.2.2.2.2.2.2.1, v.2.2.2.2.2.2.2.2.1, u2.2.2.2, v.2.2.2.2.2.2.2.2.2.2) 44 hu5) gX7_isRoof_X7_isSign rfl rfl ⟨rfl, rfl⟩ nX7_isSign ⟨Nat.le_of_ble_eq_true rfl, Nat.le_of_ble_eq_true rfl⟩ 0 rfl rfl rfl rfl (Nat.le_of_ble_eq_true rfl) ⟨Nat.zero_le _, Nat.zero_le _⟩ (wM_adr _ _ _ _) 109 rfl ?_
          refine v_if_eq h dX7_isRoof_109 116 (by decide) 112 rfl (fun c6 => ?_) (fun c6 => ?_)
          · replace hf := zt c6 hf
            refine v_iconst h dX7_isRoof_116 0 rfl 117 rfl ?_
            refine v_istore_n h dX7_isRoof_117 (Nat.le_of_ble_eq_true rfl) rfl rfl [(0, .ref (ad 0)), (1, .int 0)] rfl 118 rfl ?_
            refine v_goto h dX7_isRoof_118 79 (by decide) ?_
            exact v_sub [0, 1] rfl (ih v 0 u5.2 u2.2.2.1 u2.2.2.2 _ hf kx kr)
          · replace hf := zf c6 hf
            refine v_iconst h dX7_isRoof_112 1 rfl 113 rfl ?_
            refine v_goto h dX7_isRoof_113 117 (by decide) ?_
            refine v_istore_n h dX7_isRoof_117 (Nat.le_of_ble_eq_true rfl) rfl rfl [(0, .ref (ad 0)), (1, .int 1)] rfl 118 rfl ?_
            refine v_goto h dX7_isRoof_118 79 (by decide) ?_
            exact v_sub [0, 1] rfl (ih v 1 u5.2 u2.2.2.1 u2.2.2.2 _ hf kx kr)
      · replace hf := zt c3 hf
        refine v_iconst h dX7_isRoof_90 0 rfl 91 rfl ?_
        cases (Option.some.inj hf)
        exact kr _ rfl 91 _ znar0 dX7_isRoof_91
def fX7_isRoof (v : MV) : Option (Int32 × Int32 × Int32 × zAI) := ((fX7_isNumber v 1 99) : Option (Int32 × Int32 × Int32)).bind (fun u1 => if u1.1 = 0 then (some (0, u1.2.1, u1.2.2, v.2.2.2.2.2.2.2.2.2.1)) else (((fX7_isRoof_L25 zF (v.1, v.2.1, v.2.2.1, v.2.2.2.1, v.2.2.2.2.1, u1.2.1, u1.2.2, v.2.2.2.2.2.2.2.1, v.2.2.2.2.2.2.2.2.1, (zpt v.2.2.2.2.2.2.2.2.2.1 44 (2 * u1.2.2)), v.2.2.2.2.2.2.2.2.2.2) u1.2.1 u1.2.2 (zpt v.2.2.2.2.2.2.2.2.2.1 44 (2 * u1.2.2))) : Option ((Int32 × Int32 × Int32 × zAI) ⊕ (Int32 × Int32 × zAI))).bind (fun u3 => zrt u3 (fun r => some r) (fun x4 => ((fX7_isSign (v.1, v.2.1, v.2.2.1, v.2.2.2.1, v.2.2.2.2.1, x4.1, x4.2.1, v.2.2.2.2.2.2.2.1, v.2.2.2.2.2.2.2.2.1, x4.2.2, v.2.2.2.2.2.2.2.2.2.2) 59) : Option (Int32 × Int32)).bind (fun u5 => ((fX7_isRoof_L79 zF (v.1, v.2.1, v.2.2.1, v.2.2.2.1, v.2.2.2.2.1, u5.2, x4.2.1, v.2.2.2.2.2.2.2.1, v.2.2.2.2.2.2.2.2.1, x4.2.2, v.2.2.2.2.2.2.2.2.2.2) u5.1 u5.2 x4.2.1 x4.2.2) : Option ((Int32 × Int32 × Int32 × zAI) ⊕ (Int32 × Int32 × zAI))).bind (fun u6 => zrt u6 (fun r => some r) (fun x7 => ((fX7_peek (v.1, v.2.1, v.2.2.1, v.2.2.2.1, v.2.2.2.2.1, x7.1, x7.2.1, v.2.2.2.2.2.2.2.1, v.2.2.2.2.2.2.2.2.1, x7.2.2, v.2.2.2.2.2.2.2.2.2.2)) : Option (Int32 × Int32)).bind (fun u8 => if u8.1 = 0 then (some (1, u8.2, x7.2.1, x7.2.2)) else (some (0, u8.2, x7.2.1, x7.2.2))))))))))
set_option maxRecDepth 100000 in
set_option maxHeartbeats 4000000 in
theorem tX7_isRoof (l : Launch) (G : va_G) (ca : Nat → ClassId) (ad : Nat → Nat) (v : MV)  {o : (Int32 × Int32 × Int32 × zAI)} (hf : fX7_isRoof v = some o) : zMi l yX7_isRoof wsX7_isRoof rX7_isRoof G ca [.ref (ad 0)] (wM ca ad v) o.1 (wM ca ad (v.1, v.2.1, v.2.2.1, v.2.2.2.1, v.2.2.2.2.1, o.2.1, o.2.2.1, v.2.2.2.2.2.2.2.1, v.2.2.2.2.2.2.2.2.1, o.2.2.2, v.2.2.2.2.2.2.2.2.2.2)) := by
  refine zMi.of (cc := cX7_isRoof) (nL := 2) (own := RX7) (ty := .boolean) (by decide) rfl rfl (Nat.le_of_ble_eq_true rfl) (fun X h hE => ?_)
  show V X G 2 0 0 (wM ca ad v) 0 [(0, .ref (ad 0))] []
  unfold fX7_isRoof at hf
  refine v_aload_n h dX7_isRoof_0 0 rfl 1 rfl ?_
  refine v_iconst h dX7_isRoof_1 1 rfl 2 rfl ?_
  refine v_bipush h dX7_isRoof_2 99 rfl 4 rfl ?_
  obtain ⟨u1, hu1, hf⟩ := zb hf
  refine v_wcallVi h (rest := []) dX7_isRoof_4 (tX7_isNumber l G ca ad v 1 99 hu1) gX7_isRoof_X7_isNumber rfl rfl ⟨rfl, rfl⟩ nX7_isNumber ⟨Nat.le_of_ble_eq_true rfl, Nat.le_of_ble_eq_true rfl⟩ 0 rfl rfl rfl rfl (Nat.le_of_ble_eq_true rfl) ⟨Nat.zero_le _, Nat.zero_le _⟩ (wM_adr _ _ _ _) 7 rfl ?_
  refine v_if_ne h dX7_isRoof_7 12 (by decide) 10 rfl (fun c2 => ?_) (fun c2 => ?_)
  · replace hf := zf c2 hf
    refine v_aload_n h dX7_isRoof_12 0 rfl 13 rfl ?_
    refine v_get h (v := .ref (ad 7)) dX7_isRoof_13 iX7_isRoof_X7 0 rfl rfl 9 (by decide) (zwi 1 rfl) rfl 16 rfl ?_
    refine v_bipush h dX7_isRoof_16 44 rfl 18 rfl ?_
    refine v_iconst h dX7_isRoof_18 2 rfl 19 rfl ?_
    refine v_aload_n h dX7_isRoof_19 0 rfl 20 rfl ?_
    refine v_get h (v := .int u1.2.2) dX7_isRoof_20 iX7_isRoof_X7 0 rfl rfl 6 (by decide) (zwi 2 rfl) rfl 23 rfl ?_
    refine v_imul h dX7_isRoof_23 24 rfl ?_
    refine v_iast h (f := v.2.2.2.2.2.2.2.2.2.1) dX7_isRoof_24 7 0 rfl rfl zi_44_407 (wM ca ad (v.1, v.2.1, v.2.2.1, v.2.2.2.1, v.2.2.2.2.1, u1.2.1, u1.2.2, v.2.2.2.2.2.2.2.1, v.2.2.2.2.2.2.2.2.1, (zpt v.2.2.2.2.2.2.2.2.2.1 44 (2 * u1.2.2)), v.2.2.2.2.2.2.2.2.2.2)) rfl 25 rfl ?_
    obtain ⟨u3, hu3, hf⟩ := zb hf
    refine v_sub [0] rfl ?_
    refine tX7_isRoof_l25 h zF (v.1, v.2.1, v.2.2.1, v.2.2.2.1, v.2.2.2.2.1, u1.2.1, u1.2.2, v.2.2.2.2.2.2.2.1, v.2.2.2.2.2.2.2.2.1, (zpt v.2.2.2.2.2.2.2.2.2.1 44 (2 * u1.2.2)), v.2.2.2.2.2.2.2.2.2.2) u1.2.1 u1.2.2 (zpt v.2.2.2.2.2.2.2.2.2.1 44 (2 * u1.2.2)) _ hu3 (fun x4 ex => ?_) (fun x4 ex => ?_)
    · subst ex
      replace hf := hf
      refine v_aload_n h dX7_isRoof_72 0 rfl 73 rfl ?_
      refine v_bipush h dX7_isRoof_73 59 rfl 75 rfl ?_
      obtain ⟨u5, hu5, hf⟩ := zb hf
      refine v_wcallVi h (rest := []) dX7_isRoof_75 (tX7_isSign l G ca ad (v.1, v.2.1, v.2.2.1, v.2.2.2.1, v.2.2.2.2.1, x4.1, x4.2.1, v.2.2.2.2.2.2.2.1, v.2.2.2.2.2.2.2.2.1, x4.2.2, v.2.2.2.2.2.2.2.2.2.2) 59 hu5) gX7_isRoof_X7_isSign rfl rfl ⟨rfl, rfl⟩ nX7_isSign ⟨Nat.le_of_ble_eq_true rfl, Nat.le_of_ble_eq_true rfl⟩ 0 rfl rfl rfl rfl (Nat.le_of_ble_eq_true rfl) ⟨Nat.zero_le _, Nat.zero_le _⟩ (wM_adr _ _ _ _) 78 rfl ?_
      refine v_istore_n h dX7_isRoof_78 (Nat.le_of_ble_eq_true rfl) rfl rfl [(0, .ref (ad 0)), (1, .int u5.1)] rfl 79 rfl ?_
      obtain ⟨u6, hu6, hf⟩ := zb hf
      refine v_sub [0, 1] rfl ?_
      refine tX7_isRoof_l79 h zF (v.1, v.2.1, v.2.2.1, v.2.2.2.1, v.2.2.2.2.1, u5.2, x4.2.1, v.2.2.2.2.2.2.2.1, v.2.2.2.2.2.2.2.2.1, x4.2.2, v.2.2.2.2.2.2.2.2.2.2) u5.1 u5.2 x4.2.1 x4.2.2 _ hu6 (fun x7 ex => ?_) (fun x7 ex => ?_)
      · subst ex
        replace hf := hf
        refine v_aload_n h dX7_isRoof_121 0 rfl 122 rfl ?_
        obtain ⟨u8, hu8, hf⟩ := zb hf
        refine v_wcallVi h (rest := []) dX7_isRoof_122 (tX7_peek l G ca ad (v.1, v.2.1, v.2.2.1, v.2.2.2.1, v.2.2.2.2.1, x7.1, x7.2.1, v.2.2.2.2.2.2.2.1, v.2.2.2.2.2.2.2.2.1, x7.2.2, v.2.2.2.2.2.2.2.2.2.2)  hu8) gX7_isRoof_X7_peek rfl rfl ⟨rfl, rfl⟩ nX7_peek ⟨Nat.le_of_ble_eq_true rfl, Nat.le_of_ble_eq_true rfl⟩ 0 rfl rfl rfl rfl (Nat.le_of_ble_eq_true rfl) ⟨Nat.zero_le _, Nat.zero_le _⟩ (wM_adr _ _ _ _) 125 rfl ?_
        refine v_if_ne h dX7_isRoof_125 132 (by decide) 128 rfl (fun c9 => ?_) (fun c9 => ?_)
        · replace hf := zf c9 hf
          refine v_iconst h dX7_isRoof_132 0 rfl 133 rfl ?_
          cases (Option.some.inj hf)
          exact hE 133 _ znar0 dX7_isRoof_133
        · replace hf := zt c9 hf
          refine v_iconst h dX7_isRoof_128 1 rfl 129 rfl ?_
          refine v_goto h dX7_isRoof_129 133 (by decide) ?_
          cases (Option.some.inj hf)
          exact hE 133 _ znar1 dX7_isRoof_133
      · subst ex
        cases (Option.some.inj hf)
        exact hE
    · subst ex
      cases (Option.some.inj hf)
      exact hE
  · replace hf := zt c2 hf
    refine v_iconst h dX7_isRoof_10 0 rfl 11 rfl ?_
    cases (Option.some.inj hf)
    exact hE 11 _ znar0 dX7_isRoof_11
abbrev rX7_roof : Room := { frames := 5, cells := 0, slots := 0, locals := 111 }
theorem nX7_roof : zNoMH yX7_roof 0 := ⟨by decide +kernel, by decide +kernel, by decide +kernel⟩
theorem iX7_roof_X7 : ∀ w ∈ wsX70, w ∈ wsX7_roof := fun _ h => (List.mem_cons_of_mem _ (List.mem_append_right _ h))
def fX7_roof_L2 : Nat → MV → Int32 → zAI → Option zAI
  | 0, _, _, _ => none
  | n + 1, v, x1, m9 => if 407 ≤ x1 then (some m9) else (zgrd (zix x1 407) (fX7_roof_L2 n v (x1 + 1) (zpt m9 x1 0)))
set_option maxRecDepth 100000 in
set_option maxHeartbeats 4000000 in
theorem tX7_roof_l2 {X : zX} {l : Launch} {G : va_G} {ca : Nat → ClassId} {ad : Nat → Nat} (h : zOk X l G ca cX7_roof RX7 wsX7_roof 2 rX7_roof) : ∀ (n : Nat) (v : MV) (x1 : Int32) (m9 : zAI) (out : zAI), fX7_roof_L2 n v x1 m9 = some out → (V X G 2 0 0 (wM ca ad (v.1, v.2.1, v.2.2.1, v.2.2.2.1, v.2.2.2.2.1, v.2.2.2.2.2.1, v.2.2.2.2.2.2.1, v.2.2.2.2.2.2.2.1, v.2.2.2.2.2.2.2.2.1, out, v.2.2.2.2.2.2.2.2.2.2)) 22 [(0, .ref (ad 0))] []) → V X G 2 0 0 (wM ca ad (v.1, v.2.1, v.2.2.1, v.2.2.2.1, v.2.2.2.2.1, v.2.2.2.2.2.1, v.2.2.2.2.2.2.1, v.2.2.2.2.2.2.2.1, v.2.2.2.2.2.2.2.2.1, m9, v.2.2.2.2.2.2.2.2.2.2)) 2 [(0, .ref (ad 0)), (1, .int x1)] [] := by
  intro n
  induction n with
  | zero => intro v x1 m9 out hf; rw [fX7_roof_L2] at hf; cases hf
  | succ n ih =>
    intro v x1 m9 out hf kx
    rw [fX7_roof_L2] at hf
    refine v_iload_n h dX7_roof_2 1 rfl 3 rfl ?_
    refine v_sipush h dX7_roof_3 407 rfl 6 rfl ?_
    refine v_icmp_ge h dX7_roof_6 22 (by decide) 9 rfl (fun c1 => ?_) (fun c1 => ?_)
    · replace hf := zt c1 hf
      cases (Option.some.inj hf)
      exact v_sub [0] rfl (kx)
    · replace hf := zf c1 hf
      refine v_aload_n h dX7_roof_9 0 rfl 10 rfl ?_
      refine v_get h (v := .ref (ad 7)) dX7_roof_10 iX7_roof_X7 0 rfl rfl 9 (by decide) (zwi 1 rfl) rfl 13 rfl ?_
      refine v_iload_n h dX7_roof_13 1 rfl 14 rfl ?_
      refine v_iconst h dX7_roof_14 0 rfl 15 rfl ?_
      obtain ⟨g2, hf⟩ := zg hf
      refine v_iast h (f := m9) dX7_roof_15 7 0 rfl rfl (zix_in g2) (wM ca ad (v.1, v.2.1, v.2.2.1, v.2.2.2.1, v.2.2.2.2.1, v.2.2.2.2.2.1, v.2.2.2.2.2.2.1, v.2.2.2.2.2.2.2.1, v.2.2.2.2.2.2.2.2.1, (zpt m9 x1 0), v.2.2.2.2.2.2.2.2.2.2)) rfl 16 rfl ?_
      refine v_iinc h dX7_roof_16 1 rfl (x1 + 1) rfl (Nat.le_of_ble_eq_true rfl) rfl rfl [(0, .ref (ad 0)), (1, .int (x1 + 1))] rfl 19 rfl ?_
      refine v_goto h dX7_roof_19 2 (by decide) ?_
      exact v_sub [0, 1] rfl (ih v (x1 + 1) (zpt m9 x1 0) _ hf kx)
def fX7_roof (v : MV) : Option (Int32 × Int32 × Int32 × Int32 × zAI × zAI) := ((fX7_roof_L2 zF v 0 v.2.2.2.2.2.2.2.2.2.1) : Option zAI).bind (fun u1 => ((fX7_isRoof (v.1, v.2.1, v.2.2.1, v.2.2.2.1, v.2.2.2.2.1, 0, v.2.2.2.2.2.2.1, v.2.2.2.2.2.2.2.1, v.2.2.2.2.2.2.2.2.1, (zpt u1 1 (zgt v.2.2.2.2.2.2.2.1 1)), v.2.2.2.2.2.2.2.2.2.2)) : Option (Int32 × Int32 × Int32 × zAI)).bind (fun u2 => if u2.1 = 0 then (some (((-20) - u2.2.1), 0, u2.2.1, u2.2.2.1, v.2.2.2.2.2.2.2.1, u2.2.2.2)) else (((fX7_bring u2.2.2.2 v.2.2.2.2.2.2.2.1 0 0 407) : Option zAI).bind (fun u4 => some ((zgt u4 3), 0, u2.2.1, u2.2.2.1, u4, u2.2.2.2)))))
set_option maxRecDepth 100000 in
set_option maxHeartbeats 4000000 in
theorem tX7_roof (l : Launch) (G : va_G) (ca : Nat → ClassId) (ad : Nat → Nat) (v : MV)  {o : (Int32 × Int32 × Int32 × Int32 × zAI × zAI)} (hf : fX7_roof v = some o) : zMi l yX7_roof wsX7_roof rX7_roof G ca [.ref (ad 0)] (wM ca ad v) o.1 (wM ca ad (v.1, v.2.1, v.2.2.1, o.2.1, v.2.2.2.2.1, o.2.2.1, o.2.2.2.1, o.2.2.2.2.1, v.2.2.2.2.2.2.2.2.1, o.2.2.2.2.2, v.2.2.2.2.2.2.2.2.2.2)) := by
  refine zMi.of (cc := cX7_roof) (nL := 2) (own := RX7) (ty := .int) (by decide) rfl rfl (Nat.le_of_ble_eq_true rfl) (fun X h hE => ?_)
  show V X G 2 0 0 (wM ca ad v) 0 [(0, .ref (ad 0))] []
  unfold fX7_roof at hf
  refine v_iconst h dX7_roof_0 0 rfl 1 rfl ?_
  refine v_istore_n h dX7_roof_1 (Nat.le_of_ble_eq_true rfl) rfl rfl [(0, .ref (ad 0)), (1, .int 0)] rfl 2 rfl ?_
  obtain ⟨u1, hu1, hf⟩ := zb hf
  refine v_sub [0, 1] rfl ?_
  refine tX7_roof_l2 h zF v 0 v.2.2.2.2.2.2.2.2.2.1 _ hu1 ?_
  refine v_aload_n h dX7_roof_22 0 rfl 23 rfl ?_
  refine v_get h (v := .ref (ad 7)) dX7_roof_23 iX7_roof_X7 0 rfl rfl 9 (by decide) (zwi 1 rfl) rfl 26 rfl ?_
  refine v_iconst h dX7_roof_26 1 rfl 27 rfl ?_
  refine v_aload_n h dX7_roof_27 0 rfl 28 rfl ?_
  refine v_get h (v := .ref (ad 5)) dX7_roof_28 iX7_roof_X7 0 rfl rfl 7 (by decide) (zwi 2 rfl) rfl 31 rfl ?_
  refine v_iconst h dX7_roof_31 1 rfl 32 rfl ?_
  refine v_iald h (f := v.2.2.2.2.2.2.2.1) dX7_roof_32 5 0 rfl rfl zi_1_407 33 rfl ?_
  refine v_iast h (f := u1) dX7_roof_33 7 0 rfl rfl zi_1_407 (wM ca ad (v.1, v.2.1, v.2.2.1, v.2.2.2.1, v.2.2.2.2.1, v.2.2.2.2.2.1, v.2.2.2.2.2.2.1, v.2.2.2.2.2.2.2.1, v.2.2.2.2.2.2.2.2.1, (zpt u1 1 (zgt v.2.2.2.2.2.2.2.1 1)), v.2.2.2.2.2.2.2.2.2.2)) rfl 34 rfl ?_
  refine v_aload_n h dX7_roof_34 0 rfl 35 rfl ?_
  refine v_iconst h dX7_roof_35 0 rfl 36 rfl ?_
  refine v_put h dX7_roof_36 iX7_roof_X7 tyX7 tyX7_ok nmX7 0 rfl rfl 5 (by decide) (zwi 3 rfl) rfl rfl rfl (Nat.le_of_ble_eq_true rfl) (wM ca ad (v.1, v.2.1, v.2.2.1, v.2.2.2.1, v.2.2.2.2.1, 0, v.2.2.2.2.2.2.1, v.2.2.2.2.2.2.2.1, v.2.2.2.2.2.2.2.2.1, (zpt u1 1 (zgt v.2.2.2.2.2.2.2.1 1)), v.2.2.2.2.2.2.2.2.2.2)) rfl 39 rfl ?_
  refine v_aload_n h dX7_roof_39 0 rfl 40 rfl ?_
  obtain ⟨u2, hu2, hf⟩ := zb hf
  refine v_wcallVi h (rest := []) dX7_roof_40 (tX7_isRoof l G ca ad (v.1, v.2.1, v.2.2.1, v.2.2.2.1, v.2.2.2.2.1, 0, v.2.2.2.2.2.2.1, v.2.2.2.2.2.2.2.1, v.2.2.2.2.2.2.2.2.1, (zpt u1 1 (zgt v.2.2.2.2.2.2.2.1 1)), v.2.2.2.2.2.2.2.2.2.2)  hu2) gX7_roof_X7_isRoof rfl rfl ⟨rfl, rfl⟩ nX7_isRoof ⟨Nat.le_of_ble_eq_true rfl, Nat.le_of_ble_eq_true rfl⟩ 0 rfl rfl rfl rfl (Nat.le_of_ble_eq_true rfl) ⟨Nat.zero_le _, Nat.zero_le _⟩ (wM_adr _ _ _ _) 43 rfl ?_
  refine v_istore_n h dX7_roof_43 (Nat.le_of_ble_eq_true rfl) rfl rfl [(0, .ref (ad 0)), (1, .int u2.1)] rfl 44 rfl ?_
  refine v_aload_n h dX7_roof_44 0 rfl 45 rfl ?_
  refine v_iconst h dX7_roof_45 0 rfl 46 rfl ?_
  refine v_put h dX7_roof_46 iX7_roof_X7 tyX7 tyX7_ok nmX7 0 rfl rfl 3 (by decide) (zwi 4 rfl) rfl rfl rfl (Nat.le_of_ble_eq_true rfl) (wM ca ad (v.1, v.2.1, v.2.2.1, 0, v.2.2.2.2.1, u2.2.1, u2.2.2.1, v.2.2.2.2.2.2.2.1, v.2.2.2.2.2.2.2.2.1, u2.2.2.2, v.2.2.2.2.2.2.2.2.2.2)) rfl 49 rfl ?_
  refine v_iload_n h dX7_roof_49 1 rfl 50 rfl ?_
  refine v_if_ne h dX7_roof_50 61 (by decide) 53 rfl (fun c3 => ?_) (fun c3 => ?_)
  · replace hf := zf c3 hf
    refine v_aload_n h dX7_roof_61 0 rfl 62 rfl ?_
    refine v_get h (v := .ref (ad 7)) dX7_roof_62 iX7_roof_X7 0 rfl rfl 9 (by decide) (zwi 1 rfl) rfl 65 rfl ?_
    refine v_iconst h dX7_roof_65 0 rfl 66 rfl ?_
    refine v_aload_n h dX7_roof_66 0 rfl 67 rfl ?_
    refine v_get h (v := .ref (ad 5)) dX7_roof_67 iX7_roof_X7 0 rfl rfl 7 (by decide) (zwi 2 rfl) rfl 70 rfl ?_
    refine v_iconst h dX7_roof_70 0 rfl 71 rfl ?_
    refine v_sipush h dX7_roof_71 407 rfl 74 rfl ?_
    obtain ⟨u4, hu4, hf⟩ := zb hf
    refine v_callSv h (rest := []) dX7_roof_74 (tX7_bring l G ca (ad 7) (ad 5) u2.2.2.2 v.2.2.2.2.2.2.2.1 0 0 407 hu4) gX7_roof_X7_bring rfl ⟨rfl, rfl⟩ nX7_bring ⟨Nat.le_of_ble_eq_true rfl, Nat.le_of_ble_eq_true rfl⟩ [7, 5] rfl rfl rfl rfl (Nat.le_of_ble_eq_true rfl) ⟨Nat.zero_le _, Nat.zero_le _⟩ rfl (wM ca ad (v.1, v.2.1, v.2.2.1, 0, v.2.2.2.2.1, u2.2.1, u2.2.2.1, u4, v.2.2.2.2.2.2.2.2.1, u2.2.2.2, v.2.2.2.2.2.2.2.2.2.2)) rfl (wM_adr _ _ _ _) 77 rfl ?_
    refine v_aload_n h dX7_roof_77 0 rfl 78 rfl ?_
    refine v_get h (v := .ref (ad 5)) dX7_roof_78 iX7_roof_X7 0 rfl rfl 7 (by decide) (zwi 2 rfl) rfl 81 rfl ?_
    refine v_iconst h dX7_roof_81 3 rfl 82 rfl ?_
    refine v_iald h (f := u4) dX7_roof_82 5 0 rfl rfl zi_3_407 83 rfl ?_
    cases (Option.some.inj hf)
    exact hE 83 _ rfl dX7_roof_83
  · replace hf := zt c3 hf
    refine v_bipush h dX7_roof_53 (-20) rfl 55 rfl ?_
    refine v_aload_n h dX7_roof_55 0 rfl 56 rfl ?_
    refine v_get h (v := .int u2.2.1) dX7_roof_56 iX7_roof_X7 0 rfl rfl 5 (by decide) (zwi 3 rfl) rfl 59 rfl ?_
    refine v_isub h dX7_roof_59 60 rfl ?_
    cases (Option.some.inj hf)
    exact hE 60 _ rfl dX7_roof_60
abbrev rX7_count : Room := { frames := 2, cells := 0, slots := 0, locals := 43 }
theorem nX7_count : zNoMH yX7_count 1 := ⟨by decide +kernel, by decide +kernel, by decide +kernel⟩
theorem iX7_count_X7 : ∀ w ∈ wsX70, w ∈ wsX7_count := fun _ h => (List.mem_cons_of_mem _ (List.mem_append_right _ h))
def fX7_count (v : MV) (x1 : Int32) : Option Int32 := if x1 = 0 then (some (zgt v.2.2.2.2.2.2.2.1 3)) else (if x1 = 1 then (some (zgt v.2.2.2.2.2.2.2.1 44)) else (if x1 = 2 then (some (zgt v.2.2.2.2.2.2.2.1 45)) else (if x1 = 3 then (some (zgt v.2.2.2.2.2.2.2.1 0)) else (if x1 = 4 then (some (zgt v.2.2.2.2.2.2.2.1 2)) else (if x1 = 5 then (((fX7_heavy v.2.2.2.2.2.2.2.1) : Option Int32).bind (fun u7 => some u7)) else (if x1 = 6 then (((fX7_sumOf v.2.2.2.2.2.2.2.1 14) : Option Int32).bind (fun u9 => some u9)) else (if x1 = 7 then (((fX7_heavy v.2.2.2.2.2.2.2.1) : Option Int32).bind (fun u11 => if (zgt v.2.2.2.2.2.2.2.1 44) < u11 then (some 0) else (some 1))) else (if x1 = 8 then (some (zgt v.2.2.2.2.2.2.2.1 54)) else (some (-1))))))))))
set_option maxRecDepth 100000 in
set_option maxHeartbeats 4000000 in
theorem tX7_count (l : Launch) (G : va_G) (ca : Nat → ClassId) (ad : Nat → Nat) (v : MV) (x1 : Int32) {o : Int32} (hf : fX7_count v x1 = some o) : zMi l yX7_count wsX7_count rX7_count G ca [.ref (ad 0), .int x1] (wM ca ad v) o (wM ca ad v) := by
  refine zMi.of (cc := cX7_count) (nL := 2) (own := RX7) (ty := .int) (by decide) rfl rfl (Nat.le_of_ble_eq_true rfl) (fun X h hE => ?_)
  show V X G 2 0 0 (wM ca ad v) 0 [(0, .ref (ad 0)), (1, .int x1)] []
  unfold fX7_count at hf
  refine v_iload_n h dX7_count_0 1 rfl 1 rfl ?_
  by_cases c1 : x1 = 0
  · replace hf := zt c1 hf
    refine v_tsIn h dX7_count_1 c1 (by decide) (by decide) rfl 52 (by decide) ?_
    refine v_aload_n h dX7_count_52 0 rfl 53 rfl ?_
    refine v_get h (v := .ref (ad 5)) dX7_count_53 iX7_count_X7 0 rfl rfl 7 (by decide) (zwi 1 rfl) rfl 56 rfl ?_
    refine v_iconst h dX7_count_56 3 rfl 57 rfl ?_
    refine v_iald h (f := v.2.2.2.2.2.2.2.1) dX7_count_57 5 0 rfl rfl zi_3_407 58 rfl ?_
    cases (Option.some.inj hf)
    exact hE 58 _ rfl dX7_count_58
  · replace hf := zf c1 hf
    by_cases c2 : x1 = 1
    · replace hf := zt c2 hf
      refine v_tsIn h dX7_count_1 c2 (by decide) (by decide) rfl 59 (by decide) ?_
      refine v_aload_n h dX7_count_59 0 rfl 60 rfl ?_
      refine v_get h (v := .ref (ad 5)) dX7_count_60 iX7_count_X7 0 rfl rfl 7 (by decide) (zwi 1 rfl) rfl 63 rfl ?_
      refine v_bipush h dX7_count_63 44 rfl 65 rfl ?_
      refine v_iald h (f := v.2.2.2.2.2.2.2.1) dX7_count_65 5 0 rfl rfl zi_44_407 66 rfl ?_
      cases (Option.some.inj hf)
      exact hE 66 _ rfl dX7_count_66
    · replace hf := zf c2 hf
      by_cases c3 : x1 = 2
      · replace hf := zt c3 hf
        refine v_tsIn h dX7_count_1 c3 (by decide) (by decide) rfl 67 (by decide) ?_
        refine v_aload_n h dX7_count_67 0 rfl 68 rfl ?_
        refine v_get h (v := .ref (ad 5)) dX7_count_68 iX7_count_X7 0 rfl rfl 7 (by decide) (zwi 1 rfl) rfl 71 rfl ?_
        refine v_bipush h dX7_count_71 45 rfl 73 rfl ?_
        refine v_iald h (f := v.2.2.2.2.2.2.2.1) dX7_count_73 5 0 rfl rfl zi_45_407 74 rfl ?_
        cases (Option.some.inj hf)
        exact hE 74 _ rfl dX7_count_74
      · replace hf := zf c3 hf
        by_cases c4 : x1 = 3
        · replace hf := zt c4 hf
          refine v_tsIn h dX7_count_1 c4 (by decide) (by decide) rfl 75 (by decide) ?_
          refine v_aload_n h dX7_count_75 0 rfl 76 rfl ?_
          refine v_get h (v := .ref (ad 5)) dX7_count_76 iX7_count_X7 0 rfl rfl 7 (by decide) (zwi 1 rfl) rfl 79 rfl ?_
          refine v_iconst h dX7_count_79 0 rfl 80 rfl ?_
          refine v_iald h (f := v.2.2.2.2.2.2.2.1) dX7_count_80 5 0 rfl rfl zi_0_407 81 rfl ?_
          cases (Option.some.inj hf)
          exact hE 81 _ rfl dX7_count_81
        · replace hf := zf c4 hf
          by_cases c5 : x1 = 4
          · replace hf := zt c5 hf
            refine v_tsIn h dX7_count_1 c5 (by decide) (by decide) rfl 82 (by decide) ?_
            refine v_aload_n h dX7_count_82 0 rfl 83 rfl ?_
            refine v_get h (v := .ref (ad 5)) dX7_count_83 iX7_count_X7 0 rfl rfl 7 (by decide) (zwi 1 rfl) rfl 86 rfl ?_
            refine v_iconst h dX7_count_86 2 rfl 87 rfl ?_
            refine v_iald h (f := v.2.2.2.2.2.2.2.1) dX7_count_87 5 0 rfl rfl zi_2_407 88 rfl ?_
            cases (Option.some.inj hf)
            exact hE 88 _ rfl dX7_count_88
          · replace hf := zf c5 hf
            by_cases c6 : x1 = 5
            · replace hf := zt c6 hf
              refine v_tsIn h dX7_count_1 c6 (by decide) (by decide) rfl 89 (by decide) ?_
              refine v_aload_n h dX7_count_89 0 rfl 90 rfl ?_
              refine v_get h (v := .ref (ad 5)) dX7_count_90 iX7_count_X7 0 rfl rfl 7 (by decide) (zwi 1 rfl) rfl 93 rfl ?_
              obtain ⟨u7, hu7, hf⟩ := zb hf
              refine v_callSi h (rest := []) dX7_count_93 (tX7_heavy l G ca (ad 5) v.2.2.2.2.2.2.2.1  hu7) gX7_count_X7_heavy rfl ⟨rfl, rfl⟩ nX7_heavy ⟨Nat.le_of_ble_eq_true rfl, Nat.le_of_ble_eq_true rfl⟩ [5] rfl rfl rfl rfl (Nat.le_of_ble_eq_true rfl) ⟨Nat.zero_le _, Nat.zero_le _⟩ rfl (wM ca ad v) rfl (wM_adr _ _ _ _) 96 rfl ?_
              cases (Option.some.inj hf)
              exact hE 96 _ rfl dX7_count_96
            · replace hf := zf c6 hf
              by_cases c8 : x1 = 6
              · replace hf := zt c8 hf
                refine v_tsIn h dX7_count_1 c8 (by decide) (by decide) rfl 97 (by decide) ?_
                refine v_aload_n h dX7_count_97 0 rfl 98 rfl ?_
                refine v_get h (v := .ref (ad 5)) dX7_count_98 iX7_count_X7 0 rfl rfl 7 (by decide) (zwi 1 rfl) rfl 101 rfl ?_
                refine v_bipush h dX7_count_101 14 rfl 103 rfl ?_
                obtain ⟨u9, hu9, hf⟩ := zb hf
                refine v_callSi h (rest := []) dX7_count_103 (tX7_sumOf l G ca (ad 5) v.2.2.2.2.2.2.2.1 14 hu9) gX7_count_X7_sumOf rfl ⟨rfl, rfl⟩ nX7_sumOf ⟨Nat.le_of_ble_eq_true rfl, Nat.le_of_ble_eq_true rfl⟩ [5] rfl rfl rfl rfl (Nat.le_of_ble_eq_true rfl) ⟨Nat.zero_le _, Nat.zero_le _⟩ rfl (wM ca ad v) rfl (wM_adr _ _ _ _) 106 rfl ?_
                cases (Option.some.inj hf)
                exact hE 106 _ rfl dX7_count_106
              · replace hf := zf c8 hf
                by_cases c10 : x1 = 7
                · replace hf := zt c10 hf
                  refine v_tsIn h dX7_count_1 c10 (by decide) (by decide) rfl 107 (by decide) ?_
                  refine v_aload_n h dX7_count_107 0 rfl 108 rfl ?_
                  refine v_get h (v := .ref (ad 5)) dX7_count_108 iX7_count_X7 0 rfl rfl 7 (by decide) (zwi 1 rfl) rfl 111 rfl ?_
                  obtain ⟨u11, hu11, hf⟩ := zb hf
                  refine v_callSi h (rest := []) dX7_count_111 (tX7_heavy l G ca (ad 5) v.2.2.2.2.2.2.2.1  hu11) gX7_count_X7_heavy rfl ⟨rfl, rfl⟩ nX7_heavy ⟨Nat.le_of_ble_eq_true rfl, Nat.le_of_ble_eq_true rfl⟩ [5] rfl rfl rfl rfl (Nat.le_of_ble_eq_true rfl) ⟨Nat.zero_le _, Nat.zero_le _⟩ rfl (wM ca ad v) rfl (wM_adr _ _ _ _) 114 rfl ?_
                  refine v_aload_n h dX7_count_114 0 rfl 115 rfl ?_
                  refine v_get h (v := .ref (ad 5)) dX7_count_115 iX7_count_X7 0 rfl rfl 7 (by decide) (zwi 1 rfl) rfl 118 rfl ?_
                  refine v_bipush h dX7_count_118 44 rfl 120 rfl ?_
                  refine v_iald h (f := v.2.2.2.2.2.2.2.1) dX7_count_120 5 0 rfl rfl zi_44_407 121 rfl ?_
                  refine v_icmp_gt h dX7_count_121 128 (by decide) 124 rfl (fun c12 => ?_) (fun c12 => ?_)
                  · replace hf := zt c12 hf
                    refine v_iconst h dX7_count_128 0 rfl 129 rfl ?_
                    cases (Option.some.inj hf)
                    exact hE 129 _ rfl dX7_count_129
                  · replace hf := zf c12 hf
                    refine v_iconst h dX7_count_124 1 rfl 125 rfl ?_
                    refine v_goto h dX7_count_125 129 (by decide) ?_
                    cases (Option.some.inj hf)
                    exact hE 129 _ rfl dX7_count_129
                · replace hf := zf c10 hf
                  by_cases c13 : x1 = 8
                  · replace hf := zt c13 hf
                    refine v_tsIn h dX7_count_1 c13 (by decide) (by decide) rfl 130 (by decide) ?_
                    refine v_aload_n h dX7_count_130 0 rfl 131 rfl ?_
                    refine v_get h (v := .ref (ad 5)) dX7_count_131 iX7_count_X7 0 rfl rfl 7 (by decide) (zwi 1 rfl) rfl 134 rfl ?_
                    refine v_bipush h dX7_count_134 54 rfl 136 rfl ?_
                    refine v_iald h (f := v.2.2.2.2.2.2.2.1) dX7_count_136 5 0 rfl rfl zi_54_407 137 rfl ?_
                    cases (Option.some.inj hf)
                    exact hE 137 _ rfl dX7_count_137
                  · replace hf := zf c13 hf
                    refine v_tsOut h dX7_count_1 (by have := lv_neT c1 (a := 0) (by decide); have := lv_neT c2 (a := 1) (by decide); have := lv_neT c3 (a := 2) (by decide); have := lv_neT c4 (a := 3) (by decide); have := lv_neT c5 (a := 4) (by decide); have := lv_neT c6 (a := 5) (by decide); have := lv_neT c8 (a := 6) (by decide); have := lv_neT c10 (a := 7) (by decide); have := lv_neT c13 (a := 8) (by decide); omega) 138 (by decide) ?_
                    refine v_iconst h dX7_count_138 (-1) rfl 139 rfl ?_
                    cases (Option.some.inj hf)
                    exact hE 139 _ rfl dX7_count_139
abbrev rX7_note : Room := { frames := 1, cells := 0, slots := 0, locals := 25 }
theorem nX7_note : zNoMH yX7_note 0 := ⟨by decide +kernel, by decide +kernel, by decide +kernel⟩
theorem iX7_note_X7 : ∀ w ∈ wsX70, w ∈ wsX7_note := fun _ h => (List.mem_cons_of_mem _ (List.mem_append_right _ h))
def fX7_note (v : MV) : Option zAI := if (zgt v.2.2.2.2.2.2.2.1 54) = 8 then (((fX7_bringS v.2.2.2.2.2.2.2.1 99 55 308) : Option zAI).bind (fun u3 => ((fX7_bringS (zpt u3 54 ((zgt u3 54) - 1)) 0 (55 + (44 * (zgt (zpt u3 54 ((zgt u3 54) - 1)) 54))) 44) : Option zAI).bind (fun u4 => some (zpt u4 54 ((zgt u4 54) + 1))))) else (((fX7_bringS v.2.2.2.2.2.2.2.1 0 (55 + (44 * (zgt v.2.2.2.2.2.2.2.1 54))) 44) : Option zAI).bind (fun u2 => some (zpt u2 54 ((zgt u2 54) + 1))))
set_option maxRecDepth 100000 in
set_option maxHeartbeats 4000000 in
theorem tX7_note (l : Launch) (G : va_G) (ca : Nat → ClassId) (ad : Nat → Nat) (v : MV)  {o : zAI} (hf : fX7_note v = some o) : zMv l yX7_note wsX7_note rX7_note G ca [.ref (ad 0)] (wM ca ad v) (wM ca ad (v.1, v.2.1, v.2.2.1, v.2.2.2.1, v.2.2.2.2.1, v.2.2.2.2.2.1, v.2.2.2.2.2.2.1, o, v.2.2.2.2.2.2.2.2)) := by
  refine zMv.of (cc := cX7_note) (nL := 1) (own := RX7) (by decide) rfl rfl (Nat.le_of_ble_eq_true rfl) (fun X h hE => ?_)
  show V X G 1 0 0 (wM ca ad v) 0 [(0, .ref (ad 0))] []
  unfold fX7_note at hf
  refine v_aload_n h dX7_note_0 0 rfl 1 rfl ?_
  refine v_get h (v := .ref (ad 5)) dX7_note_1 iX7_note_X7 0 rfl rfl 7 (by decide) (zwi 1 rfl) rfl 4 rfl ?_
  refine v_bipush h dX7_note_4 54 rfl 6 rfl ?_
  refine v_iald h (f := v.2.2.2.2.2.2.2.1) dX7_note_6 5 0 rfl rfl zi_54_407 7 rfl ?_
  refine v_bipush h dX7_note_7 8 rfl 9 rfl ?_
  refine v_icmp_ne h dX7_note_9 41 (by decide) 12 rfl (fun c1 => ?_) (fun c1 => ?_)
  · replace hf := zf c1 hf
    refine v_aload_n h dX7_note_41 0 rfl 42 rfl ?_
    refine v_get h (v := .ref (ad 5)) dX7_note_42 iX7_note_X7 0 rfl rfl 7 (by decide) (zwi 1 rfl) rfl 45 rfl ?_
    refine v_iconst h dX7_note_45 0 rfl 46 rfl ?_
    refine v_aload_n h dX7_note_46 0 rfl 47 rfl ?_
    refine v_get h (v := .ref (ad 5)) dX7_note_47 iX7_note_X7 0 rfl rfl 7 (by decide) (zwi 1 rfl) rfl 50 rfl ?_
    refine v_bipush h dX7_note_50 55 rfl 52 rfl ?_
    refine v_bipush h dX7_note_52 44 rfl 54 rfl ?_
    refine v_aload_n h dX7_note_54 0 rfl 55 rfl ?_
    refine v_get h (v := .ref (ad 5)) dX7_note_55 iX7_note_X7 0 rfl rfl 7 (by decide) (zwi 1 rfl) rfl 58 rfl ?_
    refine v_bipush h dX7_note_58 54 rfl 60 rfl ?_
    refine v_iald h (f := v.2.2.2.2.2.2.2.1) dX7_note_60 5 0 rfl rfl zi_54_407 61 rfl ?_
    refine v_imul h dX7_note_61 62 rfl ?_
    refine v_iadd h dX7_note_62 63 rfl ?_
    refine v_bipush h dX7_note_63 44 rfl 65 rfl ?_
    obtain ⟨u2, hu2, hf⟩ := zb hf
    refine v_callSv h (rest := []) dX7_note_65 (tX7_bringS l G ca (ad 5) v.2.2.2.2.2.2.2.1 0 (55 + (44 * (zgt v.2.2.2.2.2.2.2.1 54))) 44 hu2) gX7_note_X7_bring rfl ⟨rfl, rfl⟩ nX7_bring ⟨Nat.le_of_ble_eq_true rfl, Nat.le_of_ble_eq_true rfl⟩ [5] rfl rfl rfl rfl (Nat.le_of_ble_eq_true rfl) ⟨Nat.zero_le _, Nat.zero_le _⟩ rfl (wM ca ad (v.1, v.2.1, v.2.2.1, v.2.2.2.1, v.2.2.2.2.1, v.2.2.2.2.2.1, v.2.2.2.2.2.2.1, u2, v.2.2.2.2.2.2.2.2)) rfl (wM_adr _ _ _ _) 68 rfl ?_
    refine v_aload_n h dX7_note_68 0 rfl 69 rfl ?_
    refine v_get h (v := .ref (ad 5)) dX7_note_69 iX7_note_X7 0 rfl rfl 7 (by decide) (zwi 1 rfl) rfl 72 rfl ?_
    refine v_bipush h dX7_note_72 54 rfl 74 rfl ?_
    refine v_dup2 h dX7_note_74 rfl rfl 75 rfl ?_
    refine v_iald h (f := u2) dX7_note_75 5 0 rfl rfl zi_54_407 76 rfl ?_
    refine v_iconst h dX7_note_76 1 rfl 77 rfl ?_
    refine v_iadd h dX7_note_77 78 rfl ?_
    refine v_iast h (f := u2) dX7_note_78 5 0 rfl rfl zi_54_407 (wM ca ad (v.1, v.2.1, v.2.2.1, v.2.2.2.1, v.2.2.2.2.1, v.2.2.2.2.2.1, v.2.2.2.2.2.2.1, (zpt u2 54 ((zgt u2 54) + 1)), v.2.2.2.2.2.2.2.2)) rfl 79 rfl ?_
    cases (Option.some.inj hf)
    exact hE 79 _ dX7_note_79
  · replace hf := zt c1 hf
    refine v_aload_n h dX7_note_12 0 rfl 13 rfl ?_
    refine v_get h (v := .ref (ad 5)) dX7_note_13 iX7_note_X7 0 rfl rfl 7 (by decide) (zwi 1 rfl) rfl 16 rfl ?_
    refine v_bipush h dX7_note_16 99 rfl 18 rfl ?_
    refine v_aload_n h dX7_note_18 0 rfl 19 rfl ?_
    refine v_get h (v := .ref (ad 5)) dX7_note_19 iX7_note_X7 0 rfl rfl 7 (by decide) (zwi 1 rfl) rfl 22 rfl ?_
    refine v_bipush h dX7_note_22 55 rfl 24 rfl ?_
    refine v_sipush h dX7_note_24 308 rfl 27 rfl ?_
    obtain ⟨u3, hu3, hf⟩ := zb hf
    refine v_callSv h (rest := []) dX7_note_27 (tX7_bringS l G ca (ad 5) v.2.2.2.2.2.2.2.1 99 55 308 hu3) gX7_note_X7_bring rfl ⟨rfl, rfl⟩ nX7_bring ⟨Nat.le_of_ble_eq_true rfl, Nat.le_of_ble_eq_true rfl⟩ [5] rfl rfl rfl rfl (Nat.le_of_ble_eq_true rfl) ⟨Nat.zero_le _, Nat.zero_le _⟩ rfl (wM ca ad (v.1, v.2.1, v.2.2.1, v.2.2.2.1, v.2.2.2.2.1, v.2.2.2.2.2.1, v.2.2.2.2.2.2.1, u3, v.2.2.2.2.2.2.2.2)) rfl (wM_adr _ _ _ _) 30 rfl ?_
    refine v_aload_n h dX7_note_30 0 rfl 31 rfl ?_
    refine v_get h (v := .ref (ad 5)) dX7_note_31 iX7_note_X7 0 rfl rfl 7 (by decide) (zwi 1 rfl) rfl 34 rfl ?_
    refine v_bipush h dX7_note_34 54 rfl 36 rfl ?_
    refine v_dup2 h dX7_note_36 rfl rfl 37 rfl ?_
    refine v_iald h (f := u3) dX7_note_37 5 0 rfl rfl zi_54_407 38 rfl ?_
    refine v_iconst h dX7_note_38 1 rfl 39 rfl ?_
    refine v_isub h dX7_note_39 40 rfl ?_
    refine v_iast h (f := u3) dX7_note_40 5 0 rfl rfl zi_54_407 (wM ca ad (v.1, v.2.1, v.2.2.1, v.2.2.2.1, v.2.2.2.2.1, v.2.2.2.2.2.1, v.2.2.2.2.2.2.1, (zpt u3 54 ((zgt u3 54) - 1)), v.2.2.2.2.2.2.2.2)) rfl 41 rfl ?_
    refine v_aload_n h dX7_note_41 0 rfl 42 rfl ?_
    refine v_get h (v := .ref (ad 5)) dX7_note_42 iX7_note_X7 0 rfl rfl 7 (by decide) (zwi 1 rfl) rfl 45 rfl ?_
    refine v_iconst h dX7_note_45 0 rfl 46 rfl ?_
    refine v_aload_n h dX7_note_46 0 rfl 47 rfl ?_
    refine v_get h (v := .ref (ad 5)) dX7_note_47 iX7_note_X7 0 rfl rfl 7 (by decide) (zwi 1 rfl) rfl 50 rfl ?_
    refine v_bipush h dX7_note_50 55 rfl 52 rfl ?_
    refine v_bipush h dX7_note_52 44 rfl 54 rfl ?_
    refine v_aload_n h dX7_note_54 0 rfl 55 rfl ?_
    refine v_get h (v := .ref (ad 5)) dX7_note_55 iX7_note_X7 0 rfl rfl 7 (by decide) (zwi 1 rfl) rfl 58 rfl ?_
    refine v_bipush h dX7_note_58 54 rfl 60 rfl ?_
    refine v_iald h (f := (zpt u3 54 ((zgt u3 54) - 1))) dX7_note_60 5 0 rfl rfl zi_54_407 61 rfl ?_
    refine v_imul h dX7_note_61 62 rfl ?_
    refine v_iadd h dX7_note_62 63 rfl ?_
    refine v_bipush h dX7_note_63 44 rfl 65 rfl ?_
    obtain ⟨u4, hu4, hf⟩ := zb hf
    refine v_callSv h (rest := []) dX7_note_65 (tX7_bringS l G ca (ad 5) (zpt u3 54 ((zgt u3 54) - 1)) 0 (55 + (44 * (zgt (zpt u3 54 ((zgt u3 54) - 1)) 54))) 44 hu4) gX7_note_X7_bring rfl ⟨rfl, rfl⟩ nX7_bring ⟨Nat.le_of_ble_eq_true rfl, Nat.le_of_ble_eq_true rfl⟩ [5] rfl rfl rfl rfl (Nat.le_of_ble_eq_true rfl) ⟨Nat.zero_le _, Nat.zero_le _⟩ rfl (wM ca ad (v.1, v.2.1, v.2.2.1, v.2.2.2.1, v.2.2.2.2.1, v.2.2.2.2.2.1, v.2.2.2.2.2.2.1, u4, v.2.2.2.2.2.2.2.2)) rfl (wM_adr _ _ _ _) 68 rfl ?_
    refine v_aload_n h dX7_note_68 0 rfl 69 rfl ?_
    refine v_get h (v := .ref (ad 5)) dX7_note_69 iX7_note_X7 0 rfl rfl 7 (by decide) (zwi 1 rfl) rfl 72 rfl ?_
    refine v_bipush h dX7_note_72 54 rfl 74 rfl ?_
    refine v_dup2 h dX7_note_74 rfl rfl 75 rfl ?_
    refine v_iald h (f := u4) dX7_note_75 5 0 rfl rfl zi_54_407 76 rfl ?_
    refine v_iconst h dX7_note_76 1 rfl 77 rfl ?_
    refine v_iadd h dX7_note_77 78 rfl ?_
    refine v_iast h (f := u4) dX7_note_78 5 0 rfl rfl zi_54_407 (wM ca ad (v.1, v.2.1, v.2.2.1, v.2.2.2.1, v.2.2.2.2.1, v.2.2.2.2.2.1, v.2.2.2.2.2.2.1, (zpt u4 54 ((zgt u4 54) + 1)), v.2.2.2.2.2.2.2.2)) rfl 79 rfl ?_
    cases (Option.some.inj hf)
    exact hE 79 _ dX7_note_79
abbrev rX7_years : Room := { frames := 4, cells := 0, slots := 0, locals := 94 }
theorem nX7_years : zNoMH yX7_years 1 := ⟨by decide +kernel, by decide +kernel, by decide +kernel⟩
theorem iX7_years_X7 : ∀ w ∈ wsX70, w ∈ wsX7_years := fun _ h => (List.mem_cons_of_mem _ (List.mem_append_right _ h))
def fX7_years_L33 : Nat → MV → Int32 → Int32 → Int32 → zAI → zAI → Option (Int32 × zAI × zAI)
  | 0, _, _, _, _, _, _ => none
  | n + 1, v, x1, x2, x3, m7, m12 => if x1 ≤ x3 then (some (x2, m7, m12)) else (((fX7_note (v.1, v.2.1, v.2.2.1, v.2.2.2.1, v.2.2.2.2.1, v.2.2.2.2.2.1, v.2.2.2.2.2.2.1, m7, v.2.2.2.2.2.2.2.2.1, v.2.2.2.2.2.2.2.2.2.1, v.2.2.2.2.2.2.2.2.2.2.1, v.2.2.2.2.2.2.2.2.2.2.2.1, m12, v.2.2.2.2.2.2.2.2.2.2.2.2.2)) : Option zAI).bind (fun u2 => ((fX7_yearIn m12 u2) : Option (Int32 × zAI × zAI)).bind (fun u3 => fX7_years_L33 n v x1 (x2 + u3.1) (x3 + 1) u3.2.2 u3.2.1)))
set_option maxRecDepth 100000 in
set_option maxHeartbeats 4000000 in
theorem tX7_years_l33 {X : zX} {l : Launch} {G : va_G} {ca : Nat → ClassId} {ad : Nat → Nat} (h : zOk X l G ca cX7_years RX7 wsX7_years 4 rX7_years) : ∀ (n : Nat) (v : MV) (x1 : Int32) (x2 : Int32) (x3 : Int32) (m7 : zAI) (m12 : zAI) (out : (Int32 × zAI × zAI)), fX7_years_L33 n v x1 x2 x3 m7 m12 = some out → (V X G 4 0 0 (wM ca ad (v.1, v.2.1, v.2.2.1, v.2.2.2.1, v.2.2.2.2.1, v.2.2.2.2.2.1, v.2.2.2.2.2.2.1, out.2.1, v.2.2.2.2.2.2.2.2.1, v.2.2.2.2.2.2.2.2.2.1, v.2.2.2.2.2.2.2.2.2.2.1, v.2.2.2.2.2.2.2.2.2.2.2.1, out.2.2, v.2.2.2.2.2.2.2.2.2.2.2.2.2)) 59 [(2, .int out.1)] []) → V X G 4 0 0 (wM ca ad (v.1, v.2.1, v.2.2.1, v.2.2.2.1, v.2.2.2.2.1, v.2.2.2.2.2.1, v.2.2.2.2.2.2.1, m7, v.2.2.2.2.2.2.2.2.1, v.2.2.2.2.2.2.2.2.2.1, v.2.2.2.2.2.2.2.2.2.2.1, v.2.2.2.2.2.2.2.2.2.2.2.1, m12, v.2.2.2.2.2.2.2.2.2.2.2.2.2)) 33 [(0, .ref (ad 0)), (1, .int x1), (2, .int x2), (3, .int x3)] [] := by
  intro n
  induction n with
  | zero => intro v x1 x2 x3 m7 m12 out hf; rw [fX7_years_L33] at hf; cases hf
  | succ n ih =>
    intro v x1 x2 x3 m7 m12 out hf kx
    rw [fX7_years_L33] at hf
    refine v_iload_n h dX7_years_33 3 rfl 34 rfl ?_
    refine v_iload_n h dX7_years_34 1 rfl 35 rfl ?_
    refine v_icmp_ge h dX7_years_35 59 (by decide) 38 rfl (fun c1 => ?_) (fun c1 => ?_)
    · replace hf := zt c1 hf
      cases (Option.some.inj hf)
      exact v_sub [2] rfl (kx)
    · replace hf := zf c1 hf
      refine v_aload_n h dX7_years_38 0 rfl 39 rfl ?_
      obtain ⟨u2, hu2, hf⟩ := zb hf
      refine v_wcallVv h (rest := []) dX7_years_39 (tX7_note l G ca ad (v.1, v.2.1, v.2.2.1, v.2.2.2.1, v.2.2.2.2.1, v.2.2.2.2.2.1, v.2.2.2.2.2.2.1, m7, v.2.2.2.2.2.2.2.2.1, v.2.2.2.2.2.2.2.2.2.1, v.2.2.2.2.2.2.2.2.2.2.1, v.2.2.2.2.2.2.2.2.2.2.2.1, m12, v.2.2.2.2.2.2.2.2.2.2.2.2.2)  hu2) gX7_years_X7_note rfl rfl ⟨rfl, rfl⟩ nX7_note ⟨Nat.le_of_ble_eq_true rfl, Nat.le_of_ble_eq_true rfl⟩ 0 rfl rfl rfl rfl (Nat.le_of_ble_eq_true rfl) ⟨Nat.zero_le _, Nat.zero_le _⟩ (wM_adr _ _ _ _) 42 rfl ?_
      refine v_iload_n h dX7_years_42 2 rfl 43 rfl ?_
      refine v_aload_n h dX7_years_43 0 rfl 44 rfl ?_
      refine v_aload_n h dX7_years_44 0 rfl 45 rfl ?_
      refine v_get h (v := .ref (ad 5)) dX7_years_45 iX7_years_X7 0 rfl rfl 7 (by decide) (zwi 1 rfl) rfl 48 rfl ?_
      obtain ⟨u3, hu3, hf⟩ := zb hf
      refine v_callVi h (rest := [.int x2]) dX7_years_48 (tX7_yearIn l G ca ad (ad 5) (v.1, v.2.1, v.2.2.1, v.2.2.2.1, v.2.2.2.2.1, v.2.2.2.2.2.1, v.2.2.2.2.2.2.1, u2, v.2.2.2.2.2.2.2.2.1, v.2.2.2.2.2.2.2.2.2.1, v.2.2.2.2.2.2.2.2.2.2.1, v.2.2.2.2.2.2.2.2.2.2.2.1, m12, v.2.2.2.2.2.2.2.2.2.2.2.2.2) m12 u2  hu3) gX7_years_X7_yearIn rfl rfl ⟨rfl, rfl⟩ nX7_yearIn ⟨Nat.le_of_ble_eq_true rfl, Nat.le_of_ble_eq_true rfl⟩ [0, 9, 5] rfl rfl 0 rfl rfl rfl rfl (Nat.le_of_ble_eq_true rfl) ⟨Nat.zero_le _, Nat.zero_le _⟩ rfl (wM ca ad (v.1, v.2.1, v.2.2.1, v.2.2.2.1, v.2.2.2.2.1, v.2.2.2.2.2.1, v.2.2.2.2.2.2.1, u3.2.2, v.2.2.2.2.2.2.2.2.1, v.2.2.2.2.2.2.2.2.2.1, v.2.2.2.2.2.2.2.2.2.2.1, v.2.2.2.2.2.2.2.2.2.2.2.1, u3.2.1, v.2.2.2.2.2.2.2.2.2.2.2.2.2)) rfl (wM_adr _ _ _ _) 51 rfl ?_
      refine v_iadd h dX7_years_51 52 rfl ?_
      refine v_istore_n h dX7_years_52 (Nat.le_of_ble_eq_true rfl) rfl rfl [(0, .ref (ad 0)), (1, .int x1), (2, .int (x2 + u3.1)), (3, .int x3)] rfl 53 rfl ?_
      refine v_iinc h dX7_years_53 3 rfl (x3 + 1) rfl (Nat.le_of_ble_eq_true rfl) rfl rfl [(0, .ref (ad 0)), (1, .int x1), (2, .int (x2 + u3.1)), (3, .int (x3 + 1))] rfl 56 rfl ?_
      refine v_goto h dX7_years_56 33 (by decide) ?_
      exact v_sub [0, 1, 2, 3] rfl (ih v x1 (x2 + u3.1) (x3 + 1) u3.2.2 u3.2.1 _ hf kx)
def fX7_years (v : MV) (x1 : Int32) : Option (Int32 × zAI × zAI) := ((fX7_in x1 1 40) : Option Int32).bind (fun u1 => if u1 = 0 then (some ((-1), v.2.2.2.2.2.2.2.1, v.2.2.2.2.2.2.2.2.2.2.2.2.1)) else (if ((zgt v.2.2.2.2.2.2.2.1 0) + x1) ≤ 9999 then (((fX7_years_L33 zF v x1 0 0 v.2.2.2.2.2.2.2.1 v.2.2.2.2.2.2.2.2.2.2.2.2.1) : Option (Int32 × zAI × zAI)).bind (fun u4 => some (u4.1, u4.2.1, u4.2.2))) else (some ((-3), v.2.2.2.2.2.2.2.1, v.2.2.2.2.2.2.2.2.2.2.2.2.1))))
set_option maxRecDepth 100000 in
set_option maxHeartbeats 4000000 in
theorem tX7_years (l : Launch) (G : va_G) (ca : Nat → ClassId) (ad : Nat → Nat) (v : MV) (x1 : Int32) {o : (Int32 × zAI × zAI)} (hf : fX7_years v x1 = some o) : zMi l yX7_years wsX7_years rX7_years G ca [.ref (ad 0), .int x1] (wM ca ad v) o.1 (wM ca ad (v.1, v.2.1, v.2.2.1, v.2.2.2.1, v.2.2.2.2.1, v.2.2.2.2.2.1, v.2.2.2.2.2.2.1, o.2.1, v.2.2.2.2.2.2.2.2.1, v.2.2.2.2.2.2.2.2.2.1, v.2.2.2.2.2.2.2.2.2.2.1, v.2.2.2.2.2.2.2.2.2.2.2.1, o.2.2, v.2.2.2.2.2.2.2.2.2.2.2.2.2)) := by
  refine zMi.of (cc := cX7_years) (nL := 4) (own := RX7) (ty := .int) (by decide) rfl rfl (Nat.le_of_ble_eq_true rfl) (fun X h hE => ?_)
  show V X G 4 0 0 (wM ca ad v) 0 [(0, .ref (ad 0)), (1, .int x1)] []
  unfold fX7_years at hf
  refine v_iload_n h dX7_years_0 1 rfl 1 rfl ?_
  refine v_iconst h dX7_years_1 1 rfl 2 rfl ?_
  refine v_bipush h dX7_years_2 40 rfl 4 rfl ?_
  obtain ⟨u1, hu1, hf⟩ := zb hf
  refine v_callSi h (rest := []) dX7_years_4 (tX7_in l G ca   x1 1 40 hu1) gX7_years_X7_in rfl ⟨rfl, rfl⟩ nX7_in ⟨Nat.le_of_ble_eq_true rfl, Nat.le_of_ble_eq_true rfl⟩ [] rfl rfl rfl rfl (Nat.le_of_ble_eq_true rfl) ⟨Nat.zero_le _, Nat.zero_le _⟩ rfl (wM ca ad v) rfl (wM_adr _ _ _ _) 7 rfl ?_
  refine v_if_ne h dX7_years_7 12 (by decide) 10 rfl (fun c2 => ?_) (fun c2 => ?_)
  · replace hf := zf c2 hf
    refine v_aload_n h dX7_years_12 0 rfl 13 rfl ?_
    refine v_get h (v := .ref (ad 5)) dX7_years_13 iX7_years_X7 0 rfl rfl 7 (by decide) (zwi 1 rfl) rfl 16 rfl ?_
    refine v_iconst h dX7_years_16 0 rfl 17 rfl ?_
    refine v_iald h (f := v.2.2.2.2.2.2.2.1) dX7_years_17 5 0 rfl rfl zi_0_407 18 rfl ?_
    refine v_iload_n h dX7_years_18 1 rfl 19 rfl ?_
    refine v_iadd h dX7_years_19 20 rfl ?_
    refine v_sipush h dX7_years_20 9999 rfl 23 rfl ?_
    refine v_icmp_le h dX7_years_23 29 (by decide) 26 rfl (fun c3 => ?_) (fun c3 => ?_)
    · replace hf := zt c3 hf
      refine v_iconst h dX7_years_29 0 rfl 30 rfl ?_
      refine v_istore_n h dX7_years_30 (Nat.le_of_ble_eq_true rfl) rfl rfl [(0, .ref (ad 0)), (1, .int x1), (2, .int 0)] rfl 31 rfl ?_
      refine v_iconst h dX7_years_31 0 rfl 32 rfl ?_
      refine v_istore_n h dX7_years_32 (Nat.le_of_ble_eq_true rfl) rfl rfl [(0, .ref (ad 0)), (1, .int x1), (2, .int 0), (3, .int 0)] rfl 33 rfl ?_
      obtain ⟨u4, hu4, hf⟩ := zb hf
      refine v_sub [0, 1, 2, 3] rfl ?_
      refine tX7_years_l33 h zF v x1 0 0 v.2.2.2.2.2.2.2.1 v.2.2.2.2.2.2.2.2.2.2.2.2.1 _ hu4 ?_
      refine v_iload_n h dX7_years_59 0 rfl 60 rfl ?_
      cases (Option.some.inj hf)
      exact hE 60 _ rfl dX7_years_60
    · replace hf := zf c3 hf
      refine v_bipush h dX7_years_26 (-3) rfl 28 rfl ?_
      cases (Option.some.inj hf)
      exact hE 28 _ rfl dX7_years_28
  · replace hf := zt c2 hf
    refine v_iconst h dX7_years_10 (-1) rfl 11 rfl ?_
    cases (Option.some.inj hf)
    exact hE 11 _ rfl dX7_years_11
abbrev rX7_lay : Room := { frames := 2, cells := 0, slots := 0, locals := 45 }
theorem nX7_lay : zNoMH yX7_lay 2 := ⟨by decide +kernel, by decide +kernel, by decide +kernel⟩
theorem iX7_lay_X7 : ∀ w ∈ wsX70, w ∈ wsX7_lay := fun _ h => (List.mem_cons_of_mem _ (List.mem_append_right _ h))
def fX7_lay (v : MV) (x1 : Int32) (x2 : Int32) : Option (Int32 × zAI) := ((fX7_in x1 0 4) : Option Int32).bind (fun u1 => if u1 = 0 then (some ((-1), v.2.2.2.2.2.2.2.1)) else (((fX7_in x2 1 20) : Option Int32).bind (fun u3 => if u3 = 0 then (some ((-1), v.2.2.2.2.2.2.2.1)) else (if (zgt v.2.2.2.2.2.2.2.1 3) = 10 then (some ((-3), v.2.2.2.2.2.2.2.1)) else (((fX7_heavy v.2.2.2.2.2.2.2.1) : Option Int32).bind (fun u6 => if (u6 + x2) ≤ (zgt v.2.2.2.2.2.2.2.1 44) then (((fX7_note v) : Option zAI).bind (fun u8 => ((fX7_addCoat u8 x1 x2 0) : Option (Int32 × zAI)).bind (fun u9 => some (u9.1, u9.2)))) else (some ((-2), v.2.2.2.2.2.2.2.1))))))))
set_option maxRecDepth 100000 in
set_option maxHeartbeats 4000000 in
theorem tX7_lay (l : Launch) (G : va_G) (ca : Nat → ClassId) (ad : Nat → Nat) (v : MV) (x1 : Int32) (x2 : Int32) {o : (Int32 × zAI)} (hf : fX7_lay v x1 x2 = some o) : zMi l yX7_lay wsX7_lay rX7_lay G ca [.ref (ad 0), .int x1, .int x2] (wM ca ad v) o.1 (wM ca ad (v.1, v.2.1, v.2.2.1, v.2.2.2.1, v.2.2.2.2.1, v.2.2.2.2.2.1, v.2.2.2.2.2.2.1, o.2, v.2.2.2.2.2.2.2.2)) := by
  refine zMi.of (cc := cX7_lay) (nL := 3) (own := RX7) (ty := .int) (by decide) rfl rfl (Nat.le_of_ble_eq_true rfl) (fun X h hE => ?_)
  show V X G 3 0 0 (wM ca ad v) 0 [(0, .ref (ad 0)), (1, .int x1), (2, .int x2)] []
  unfold fX7_lay at hf
  refine v_iload_n h dX7_lay_0 1 rfl 1 rfl ?_
  refine v_iconst h dX7_lay_1 0 rfl 2 rfl ?_
  refine v_iconst h dX7_lay_2 4 rfl 3 rfl ?_
  obtain ⟨u1, hu1, hf⟩ := zb hf
  refine v_callSi h (rest := []) dX7_lay_3 (tX7_in l G ca   x1 0 4 hu1) gX7_lay_X7_in rfl ⟨rfl, rfl⟩ nX7_in ⟨Nat.le_of_ble_eq_true rfl, Nat.le_of_ble_eq_true rfl⟩ [] rfl rfl rfl rfl (Nat.le_of_ble_eq_true rfl) ⟨Nat.zero_le _, Nat.zero_le _⟩ rfl (wM ca ad v) rfl (wM_adr _ _ _ _) 6 rfl ?_
  refine v_if_eq h dX7_lay_6 19 (by decide) 9 rfl (fun c2 => ?_) (fun c2 => ?_)
  · replace hf := zt c2 hf
    refine v_iconst h dX7_lay_19 (-1) rfl 20 rfl ?_
    cases (Option.some.inj hf)
    exact hE 20 _ rfl dX7_lay_20
  · replace hf := zf c2 hf
    refine v_iload_n h dX7_lay_9 2 rfl 10 rfl ?_
    refine v_iconst h dX7_lay_10 1 rfl 11 rfl ?_
    refine v_bipush h dX7_lay_11 20 rfl 13 rfl ?_
    obtain ⟨u3, hu3, hf⟩ := zb hf
    refine v_callSi h (rest := []) dX7_lay_13 (tX7_in l G ca   x2 1 20 hu3) gX7_lay_X7_in rfl ⟨rfl, rfl⟩ nX7_in ⟨Nat.le_of_ble_eq_true rfl, Nat.le_of_ble_eq_true rfl⟩ [] rfl rfl rfl rfl (Nat.le_of_ble_eq_true rfl) ⟨Nat.zero_le _, Nat.zero_le _⟩ rfl (wM ca ad v) rfl (wM_adr _ _ _ _) 16 rfl ?_
    refine v_if_ne h dX7_lay_16 21 (by decide) 19 rfl (fun c4 => ?_) (fun c4 => ?_)
    · replace hf := zf c4 hf
      refine v_aload_n h dX7_lay_21 0 rfl 22 rfl ?_
      refine v_get h (v := .ref (ad 5)) dX7_lay_22 iX7_lay_X7 0 rfl rfl 7 (by decide) (zwi 1 rfl) rfl 25 rfl ?_
      refine v_iconst h dX7_lay_25 3 rfl 26 rfl ?_
      refine v_iald h (f := v.2.2.2.2.2.2.2.1) dX7_lay_26 5 0 rfl rfl zi_3_407 27 rfl ?_
      refine v_bipush h dX7_lay_27 10 rfl 29 rfl ?_
      refine v_icmp_ne h dX7_lay_29 35 (by decide) 32 rfl (fun c5 => ?_) (fun c5 => ?_)
      · replace hf := zf c5 hf
        refine v_aload_n h dX7_lay_35 0 rfl 36 rfl ?_
        refine v_get h (v := .ref (ad 5)) dX7_lay_36 iX7_lay_X7 0 rfl rfl 7 (by decide) (zwi 1 rfl) rfl 39 rfl ?_
        obtain ⟨u6, hu6, hf⟩ := zb hf
        refine v_callSi h (rest := []) dX7_lay_39 (tX7_heavy l G ca (ad 5) v.2.2.2.2.2.2.2.1  hu6) gX7_lay_X7_heavy rfl ⟨rfl, rfl⟩ nX7_heavy ⟨Nat.le_of_ble_eq_true rfl, Nat.le_of_ble_eq_true rfl⟩ [5] rfl rfl rfl rfl (Nat.le_of_ble_eq_true rfl) ⟨Nat.zero_le _, Nat.zero_le _⟩ rfl (wM ca ad v) rfl (wM_adr _ _ _ _) 42 rfl ?_
        refine v_iload_n h dX7_lay_42 2 rfl 43 rfl ?_
        refine v_iadd h dX7_lay_43 44 rfl ?_
        refine v_aload_n h dX7_lay_44 0 rfl 45 rfl ?_
        refine v_get h (v := .ref (ad 5)) dX7_lay_45 iX7_lay_X7 0 rfl rfl 7 (by decide) (zwi 1 rfl) rfl 48 rfl ?_
        refine v_bipush h dX7_lay_48 44 rfl 50 rfl ?_
        refine v_iald h (f := v.2.2.2.2.2.2.2.1) dX7_lay_50 5 0 rfl rfl zi_44_407 51 rfl ?_
        refine v_icmp_le h dX7_lay_51 57 (by decide) 54 rfl (fun c7 => ?_) (fun c7 => ?_)
        · replace hf := zt c7 hf
          refine v_aload_n h dX7_lay_57 0 rfl 58 rfl ?_
          obtain ⟨u8, hu8, hf⟩ := zb hf
          refine v_wcallVv h (rest := []) dX7_lay_58 (tX7_note l G ca ad v  hu8) gX7_lay_X7_note rfl rfl ⟨rfl, rfl⟩ nX7_note ⟨Nat.le_of_ble_eq_true rfl, Nat.le_of_ble_eq_true rfl⟩ 0 rfl rfl rfl rfl (Nat.le_of_ble_eq_true rfl) ⟨Nat.zero_le _, Nat.zero_le _⟩ (wM_adr _ _ _ _) 61 rfl ?_
          refine v_aload_n h dX7_lay_61 0 rfl 62 rfl ?_
          refine v_get h (v := .ref (ad 5)) dX7_lay_62 iX7_lay_X7 0 rfl rfl 7 (by decide) (zwi 1 rfl) rfl 65 rfl ?_
          refine v_iload_n h dX7_lay_65 1 rfl 66 rfl ?_
          refine v_iload_n h dX7_lay_66 2 rfl 67 rfl ?_
          refine v_iconst h dX7_lay_67 0 rfl 68 rfl ?_
          obtain ⟨u9, hu9, hf⟩ := zb hf
          refine v_callSi h (rest := []) dX7_lay_68 (tX7_addCoat l G ca (ad 5) u8 x1 x2 0 hu9) gX7_lay_X7_addCoat rfl ⟨rfl, rfl⟩ nX7_addCoat ⟨Nat.le_of_ble_eq_true rfl, Nat.le_of_ble_eq_true rfl⟩ [5] rfl rfl rfl rfl (Nat.le_of_ble_eq_true rfl) ⟨Nat.zero_le _, Nat.zero_le _⟩ rfl (wM ca ad (v.1, v.2.1, v.2.2.1, v.2.2.2.1, v.2.2.2.2.1, v.2.2.2.2.2.1, v.2.2.2.2.2.2.1, u9.2, v.2.2.2.2.2.2.2.2)) rfl (wM_adr _ _ _ _) 71 rfl ?_
          cases (Option.some.inj hf)
          exact hE 71 _ rfl dX7_lay_71
        · replace hf := zf c7 hf
          refine v_bipush h dX7_lay_54 (-2) rfl 56 rfl ?_
          cases (Option.some.inj hf)
          exact hE 56 _ rfl dX7_lay_56
      · replace hf := zt c5 hf
        refine v_bipush h dX7_lay_32 (-3) rfl 34 rfl ?_
        cases (Option.some.inj hf)
        exact hE 34 _ rfl dX7_lay_34
    · replace hf := zt c4 hf
      refine v_iconst h dX7_lay_19 (-1) rfl 20 rfl ?_
      cases (Option.some.inj hf)
      exact hE 20 _ rfl dX7_lay_20
abbrev rX7_strip : Room := { frames := 2, cells := 0, slots := 0, locals := 45 }
theorem nX7_strip : zNoMH yX7_strip 1 := ⟨by decide +kernel, by decide +kernel, by decide +kernel⟩
theorem iX7_strip_X7 : ∀ w ∈ wsX70, w ∈ wsX7_strip := fun _ h => (List.mem_cons_of_mem _ (List.mem_append_right _ h))
def fX7_strip (v : MV) (x1 : Int32) : Option (Int32 × zAI) := ((fX7_in x1 1 10) : Option Int32).bind (fun u1 => if u1 = 0 then (some ((-1), v.2.2.2.2.2.2.2.1)) else (if x1 ≤ (zgt v.2.2.2.2.2.2.2.1 3) then (((fX7_note v) : Option zAI).bind (fun u4 => some ((zgt (zpt u4 3 ((zgt u4 3) - x1)) 3), (zpt u4 3 ((zgt u4 3) - x1))))) else (some ((-2), v.2.2.2.2.2.2.2.1))))
set_option maxRecDepth 100000 in
set_option maxHeartbeats 4000000 in
theorem tX7_strip (l : Launch) (G : va_G) (ca : Nat → ClassId) (ad : Nat → Nat) (v : MV) (x1 : Int32) {o : (Int32 × zAI)} (hf : fX7_strip v x1 = some o) : zMi l yX7_strip wsX7_strip rX7_strip G ca [.ref (ad 0), .int x1] (wM ca ad v) o.1 (wM ca ad (v.1, v.2.1, v.2.2.1, v.2.2.2.1, v.2.2.2.2.1, v.2.2.2.2.2.1, v.2.2.2.2.2.2.1, o.2, v.2.2.2.2.2.2.2.2)) := by
  refine zMi.of (cc := cX7_strip) (nL := 2) (own := RX7) (ty := .int) (by decide) rfl rfl (Nat.le_of_ble_eq_true rfl) (fun X h hE => ?_)
  show V X G 2 0 0 (wM ca ad v) 0 [(0, .ref (ad 0)), (1, .int x1)] []
  unfold fX7_strip at hf
  refine v_iload_n h dX7_strip_0 1 rfl 1 rfl ?_
  refine v_iconst h dX7_strip_1 1 rfl 2 rfl ?_
  refine v_bipush h dX7_strip_2 10 rfl 4 rfl ?_
  obtain ⟨u1, hu1, hf⟩ := zb hf
  refine v_callSi h (rest := []) dX7_strip_4 (tX7_in l G ca   x1 1 10 hu1) gX7_strip_X7_in rfl ⟨rfl, rfl⟩ nX7_in ⟨Nat.le_of_ble_eq_true rfl, Nat.le_of_ble_eq_true rfl⟩ [] rfl rfl rfl rfl (Nat.le_of_ble_eq_true rfl) ⟨Nat.zero_le _, Nat.zero_le _⟩ rfl (wM ca ad v) rfl (wM_adr _ _ _ _) 7 rfl ?_
  refine v_if_ne h dX7_strip_7 12 (by decide) 10 rfl (fun c2 => ?_) (fun c2 => ?_)
  · replace hf := zf c2 hf
    refine v_aload_n h dX7_strip_12 0 rfl 13 rfl ?_
    refine v_get h (v := .ref (ad 5)) dX7_strip_13 iX7_strip_X7 0 rfl rfl 7 (by decide) (zwi 1 rfl) rfl 16 rfl ?_
    refine v_iconst h dX7_strip_16 3 rfl 17 rfl ?_
    refine v_iald h (f := v.2.2.2.2.2.2.2.1) dX7_strip_17 5 0 rfl rfl zi_3_407 18 rfl ?_
    refine v_iload_n h dX7_strip_18 1 rfl 19 rfl ?_
    refine v_icmp_ge h dX7_strip_19 25 (by decide) 22 rfl (fun c3 => ?_) (fun c3 => ?_)
    · replace hf := zt c3 hf
      refine v_aload_n h dX7_strip_25 0 rfl 26 rfl ?_
      obtain ⟨u4, hu4, hf⟩ := zb hf
      refine v_wcallVv h (rest := []) dX7_strip_26 (tX7_note l G ca ad v  hu4) gX7_strip_X7_note rfl rfl ⟨rfl, rfl⟩ nX7_note ⟨Nat.le_of_ble_eq_true rfl, Nat.le_of_ble_eq_true rfl⟩ 0 rfl rfl rfl rfl (Nat.le_of_ble_eq_true rfl) ⟨Nat.zero_le _, Nat.zero_le _⟩ (wM_adr _ _ _ _) 29 rfl ?_
      refine v_aload_n h dX7_strip_29 0 rfl 30 rfl ?_
      refine v_get h (v := .ref (ad 5)) dX7_strip_30 iX7_strip_X7 0 rfl rfl 7 (by decide) (zwi 1 rfl) rfl 33 rfl ?_
      refine v_iconst h dX7_strip_33 3 rfl 34 rfl ?_
      refine v_dup2 h dX7_strip_34 rfl rfl 35 rfl ?_
      refine v_iald h (f := u4) dX7_strip_35 5 0 rfl rfl zi_3_407 36 rfl ?_
      refine v_iload_n h dX7_strip_36 1 rfl 37 rfl ?_
      refine v_isub h dX7_strip_37 38 rfl ?_
      refine v_iast h (f := u4) dX7_strip_38 5 0 rfl rfl zi_3_407 (wM ca ad (v.1, v.2.1, v.2.2.1, v.2.2.2.1, v.2.2.2.2.1, v.2.2.2.2.2.1, v.2.2.2.2.2.2.1, (zpt u4 3 ((zgt u4 3) - x1)), v.2.2.2.2.2.2.2.2)) rfl 39 rfl ?_
      refine v_aload_n h dX7_strip_39 0 rfl 40 rfl ?_
      refine v_get h (v := .ref (ad 5)) dX7_strip_40 iX7_strip_X7 0 rfl rfl 7 (by decide) (zwi 1 rfl) rfl 43 rfl ?_
      refine v_iconst h dX7_strip_43 3 rfl 44 rfl ?_
      refine v_iald h (f := (zpt u4 3 ((zgt u4 3) - x1))) dX7_strip_44 5 0 rfl rfl zi_3_407 45 rfl ?_
      cases (Option.some.inj hf)
      exact hE 45 _ rfl dX7_strip_45
    · replace hf := zf c3 hf
      refine v_bipush h dX7_strip_22 (-2) rfl 24 rfl ?_
      cases (Option.some.inj hf)
      exact hE 24 _ rfl dX7_strip_24
  · replace hf := zt c2 hf
    refine v_iconst h dX7_strip_10 (-1) rfl 11 rfl ?_
    cases (Option.some.inj hf)
    exact hE 11 _ rfl dX7_strip_11
abbrev rX7_pull : Room := { frames := 2, cells := 0, slots := 0, locals := 45 }
theorem nX7_pull : zNoMH yX7_pull 2 := ⟨by decide +kernel, by decide +kernel, by decide +kernel⟩
theorem iX7_pull_X7 : ∀ w ∈ wsX70, w ∈ wsX7_pull := fun _ h => (List.mem_cons_of_mem _ (List.mem_append_right _ h))
def fX7_pull (v : MV) (x1 : Int32) (x2 : Int32) : Option (Int32 × zAI) := ((fX7_isCoat v x1) : Option Int32).bind (fun u1 => if u1 = 0 then (some ((-1), v.2.2.2.2.2.2.2.1)) else (((fX7_in x2 1 20) : Option Int32).bind (fun u3 => if u3 = 0 then (some ((-1), v.2.2.2.2.2.2.2.1)) else (zgrd (zix (14 + x1) 407) (if (zgt v.2.2.2.2.2.2.2.1 (14 + x1)) = 1 then (some ((-2), v.2.2.2.2.2.2.2.1)) else (((fX7_note v) : Option zAI).bind (fun u7 => ((fX7_pulls u7 x1 x2) : Option zAI).bind (fun u8 => some ((zgt u8 (14 + x1)), u8)))))))))
set_option maxRecDepth 100000 in
set_option maxHeartbeats 4000000 in
theorem tX7_pull (l : Launch) (G : va_G) (ca : Nat → ClassId) (ad : Nat → Nat) (v : MV) (x1 : Int32) (x2 : Int32) {o : (Int32 × zAI)} (hf : fX7_pull v x1 x2 = some o) : zMi l yX7_pull wsX7_pull rX7_pull G ca [.ref (ad 0), .int x1, .int x2] (wM ca ad v) o.1 (wM ca ad (v.1, v.2.1, v.2.2.1, v.2.2.2.1, v.2.2.2.2.1, v.2.2.2.2.2.1, v.2.2.2.2.2.2.1, o.2, v.2.2.2.2.2.2.2.2)) := by
  refine zMi.of (cc := cX7_pull) (nL := 3) (own := RX7) (ty := .int) (by decide) rfl rfl (Nat.le_of_ble_eq_true rfl) (fun X h hE => ?_)
  show V X G 3 0 0 (wM ca ad v) 0 [(0, .ref (ad 0)), (1, .int x1), (2, .int x2)] []
  unfold fX7_pull at hf
  refine v_aload_n h dX7_pull_0 0 rfl 1 rfl ?_
  refine v_iload_n h dX7_pull_1 1 rfl 2 rfl ?_
  obtain ⟨u1, hu1, hf⟩ := zb hf
  refine v_wcallVi h (rest := []) dX7_pull_2 (tX7_isCoat l G ca ad v x1 hu1) gX7_pull_X7_isCoat rfl rfl ⟨rfl, rfl⟩ nX7_isCoat ⟨Nat.le_of_ble_eq_true rfl, Nat.le_of_ble_eq_true rfl⟩ 0 rfl rfl rfl rfl (Nat.le_of_ble_eq_true rfl) ⟨Nat.zero_le _, Nat.zero_le _⟩ (wM_adr _ _ _ _) 5 rfl ?_
  refine v_if_eq h dX7_pull_5 18 (by decide) 8 rfl (fun c2 => ?_) (fun c2 => ?_)
  · replace hf := zt c2 hf
    refine v_iconst h dX7_pull_18 (-1) rfl 19 rfl ?_
    cases (Option.some.inj hf)
    exact hE 19 _ rfl dX7_pull_19
  · replace hf := zf c2 hf
    refine v_iload_n h dX7_pull_8 2 rfl 9 rfl ?_
    refine v_iconst h dX7_pull_9 1 rfl 10 rfl ?_
    refine v_bipush h dX7_pull_10 20 rfl 12 rfl ?_
    obtain ⟨u3, hu3, hf⟩ := zb hf
    refine v_callSi h (rest := []) dX7_pull_12 (tX7_in l G ca   x2 1 20 hu3) gX7_pull_X7_in rfl ⟨rfl, rfl⟩ nX7_in ⟨Nat.le_of_ble_eq_true rfl, Nat.le_of_ble_eq_true rfl⟩ [] rfl rfl rfl rfl (Nat.le_of_ble_eq_true rfl) ⟨Nat.zero_le _, Nat.zero_le _⟩ rfl (wM ca ad v) rfl (wM_adr _ _ _ _) 15 rfl ?_
    refine v_if_ne h dX7_pull_15 20 (by decide) 18 rfl (fun c4 => ?_) (fun c4 => ?_)
    · replace hf := zf c4 hf
      refine v_aload_n h dX7_pull_20 0 rfl 21 rfl ?_
      refine v_get h (v := .ref (ad 5)) dX7_pull_21 iX7_pull_X7 0 rfl rfl 7 (by decide) (zwi 1 rfl) rfl 24 rfl ?_
      refine v_bipush h dX7_pull_24 14 rfl 26 rfl ?_
      refine v_iload_n h dX7_pull_26 1 rfl 27 rfl ?_
      refine v_iadd h dX7_pull_27 28 rfl ?_
      obtain ⟨g5, hf⟩ := zg hf
      refine v_iald h (f := v.2.2.2.2.2.2.2.1) dX7_pull_28 5 0 rfl rfl (zix_in g5) 29 rfl ?_
      refine v_iconst h dX7_pull_29 1 rfl 30 rfl ?_
      refine v_icmp_ne h dX7_pull_30 36 (by decide) 33 rfl (fun c6 => ?_) (fun c6 => ?_)
      · replace hf := zf c6 hf
        refine v_aload_n h dX7_pull_36 0 rfl 37 rfl ?_
        obtain ⟨u7, hu7, hf⟩ := zb hf
        refine v_wcallVv h (rest := []) dX7_pull_37 (tX7_note l G ca ad v  hu7) gX7_pull_X7_note rfl rfl ⟨rfl, rfl⟩ nX7_note ⟨Nat.le_of_ble_eq_true rfl, Nat.le_of_ble_eq_true rfl⟩ 0 rfl rfl rfl rfl (Nat.le_of_ble_eq_true rfl) ⟨Nat.zero_le _, Nat.zero_le _⟩ (wM_adr _ _ _ _) 40 rfl ?_
        refine v_aload_n h dX7_pull_40 0 rfl 41 rfl ?_
        refine v_get h (v := .ref (ad 5)) dX7_pull_41 iX7_pull_X7 0 rfl rfl 7 (by decide) (zwi 1 rfl) rfl 44 rfl ?_
        refine v_iload_n h dX7_pull_44 1 rfl 45 rfl ?_
        refine v_iload_n h dX7_pull_45 2 rfl 46 rfl ?_
        obtain ⟨u8, hu8, hf⟩ := zb hf
        refine v_callSv h (rest := []) dX7_pull_46 (tX7_pulls l G ca (ad 5) u7 x1 x2 hu8) gX7_pull_X7_pulls rfl ⟨rfl, rfl⟩ nX7_pulls ⟨Nat.le_of_ble_eq_true rfl, Nat.le_of_ble_eq_true rfl⟩ [5] rfl rfl rfl rfl (Nat.le_of_ble_eq_true rfl) ⟨Nat.zero_le _, Nat.zero_le _⟩ rfl (wM ca ad (v.1, v.2.1, v.2.2.1, v.2.2.2.1, v.2.2.2.2.1, v.2.2.2.2.2.1, v.2.2.2.2.2.2.1, u8, v.2.2.2.2.2.2.2.2)) rfl (wM_adr _ _ _ _) 49 rfl ?_
        refine v_aload_n h dX7_pull_49 0 rfl 50 rfl ?_
        refine v_get h (v := .ref (ad 5)) dX7_pull_50 iX7_pull_X7 0 rfl rfl 7 (by decide) (zwi 1 rfl) rfl 53 rfl ?_
        refine v_bipush h dX7_pull_53 14 rfl 55 rfl ?_
        refine v_iload_n h dX7_pull_55 1 rfl 56 rfl ?_
        refine v_iadd h dX7_pull_56 57 rfl ?_
        refine v_iald h (f := u8) dX7_pull_57 5 0 rfl rfl (zix_in g5) 58 rfl ?_
        cases (Option.some.inj hf)
        exact hE 58 _ rfl dX7_pull_58
      · replace hf := zt c6 hf
        refine v_bipush h dX7_pull_33 (-2) rfl 35 rfl ?_
        cases (Option.some.inj hf)
        exact hE 35 _ rfl dX7_pull_35
    · replace hf := zt c4 hf
      refine v_iconst h dX7_pull_18 (-1) rfl 19 rfl ?_
      cases (Option.some.inj hf)
      exact hE 19 _ rfl dX7_pull_19
abbrev rX7_fire : Room := { frames := 2, cells := 0, slots := 0, locals := 45 }
theorem nX7_fire : zNoMH yX7_fire 1 := ⟨by decide +kernel, by decide +kernel, by decide +kernel⟩
theorem iX7_fire_X7 : ∀ w ∈ wsX70, w ∈ wsX7_fire := fun _ h => (List.mem_cons_of_mem _ (List.mem_append_right _ h))
def fX7_fire_L42 : Nat → MV → Int32 → Int32 → Int32 → zAI → Option zAI
  | 0, _, _, _, _, _ => none
  | n + 1, v, x2, x3, x4, m7 => if x4 = 0 then (some m7) else (zgrd (zix (14 + ((zgt m7 3) - 1)) 407) (zgrd (zix (24 + ((zgt m7 3) - 1)) 407) (if 7 ≤ (zgt m7 (24 + ((zgt m7 3) - 1))) then (fX7_fire_L42 n v x2 x3 0 m7) else (if x3 < ((zgt m7 (14 + ((zgt m7 3) - 1))) + (zgt m7 (24 + ((zgt m7 3) - 1)))) then (fX7_fire_L42 n v x2 x3 0 m7) else (if (zgt (zpt m7 3 ((zgt m7 3) - 1)) 3) ≤ 0 then (fX7_fire_L42 n v x2 (x3 - ((zgt m7 (14 + ((zgt m7 3) - 1))) + (zgt m7 (24 + ((zgt m7 3) - 1))))) 0 (zpt m7 3 ((zgt m7 3) - 1))) else (fX7_fire_L42 n v x2 (x3 - ((zgt m7 (14 + ((zgt m7 3) - 1))) + (zgt m7 (24 + ((zgt m7 3) - 1))))) 1 (zpt m7 3 ((zgt m7 3) - 1))))))))
set_option maxRecDepth 100000 in
set_option maxHeartbeats 4000000 in
theorem tX7_fire_l42 {X : zX} {l : Launch} {G : va_G} {ca : Nat → ClassId} {ad : Nat → Nat} (h : zOk X l G ca cX7_fire RX7 wsX7_fire 7 rX7_fire) : ∀ (n : Nat) (v : MV) (x2 : Int32) (x3 : Int32) (x4 : Int32) (m7 : zAI) (out : zAI), fX7_fire_L42 n v x2 x3 x4 m7 = some out → (V X G 7 0 0 (wM ca ad (v.1, v.2.1, v.2.2.1, v.2.2.2.1, v.2.2.2.2.1, v.2.2.2.2.2.1, v.2.2.2.2.2.2.1, out, v.2.2.2.2.2.2.2.2)) 147 [(0, .ref (ad 0)), (2, .int x2)] []) → V X G 7 0 0 (wM ca ad (v.1, v.2.1, v.2.2.1, v.2.2.2.1, v.2.2.2.2.1, v.2.2.2.2.2.1, v.2.2.2.2.2.2.1, m7, v.2.2.2.2.2.2.2.2)) 42 [(0, .ref (ad 0)), (2, .int x2), (3, .int x3), (4, .int x4)] [] := by
  intro n
  induction n with
  | zero => intro v x2 x3 x4 m7 out hf; rw [fX7_fire_L42] at hf; cases hf
  | succ n ih =>
    intro v x2 x3 x4 m7 out hf kx
    rw [fX7_fire_L42] at hf
    refine v_iload h dX7_fire_42 3 rfl 44 rfl ?_
    refine v_if_eq h dX7_fire_44 147 (by decide) 47 rfl (fun c1 => ?_) (fun c1 => ?_)
    · replace hf := zt c1 hf
      cases (Option.some.inj hf)
      exact v_sub [0, 1] rfl (kx)
    · replace hf := zf c1 hf
      refine v_aload_n h dX7_fire_47 0 rfl 48 rfl ?_
      refine v_get h (v := .ref (ad 5)) dX7_fire_48 iX7_fire_X7 0 rfl rfl 7 (by decide) (zwi 1 rfl) rfl 51 rfl ?_
      refine v_iconst h dX7_fire_51 3 rfl 52 rfl ?_
      refine v_iald h (f := m7) dX7_fire_52 5 0 rfl rfl zi_3_407 53 rfl ?_
      refine v_iconst h dX7_fire_53 1 rfl 54 rfl ?_
      refine v_isub h dX7_fire_54 55 rfl ?_
      refine v_istore h dX7_fire_55 (Nat.le_of_ble_eq_true rfl) rfl rfl [(0, .ref (ad 0)), (2, .int x2), (3, .int x3), (4, .int x4), (5, .int ((zgt m7 3) - 1))] rfl 57 rfl ?_
      refine v_aload_n h dX7_fire_57 0 rfl 58 rfl ?_
      refine v_get h (v := .ref (ad 5)) dX7_fire_58 iX7_fire_X7 0 rfl rfl 7 (by decide) (zwi 1 rfl) rfl 61 rfl ?_
      refine v_bipush h dX7_fire_61 14 rfl 63 rfl ?_
      refine v_iload h dX7_fire_63 4 rfl 65 rfl ?_
      refine v_iadd h dX7_fire_65 66 rfl ?_
      obtain ⟨g2, hf⟩ := zg hf
      refine v_iald h (f := m7) dX7_fire_66 5 0 rfl rfl (zix_in g2) 67 rfl ?_
      refine v_aload_n h dX7_fire_67 0 rfl 68 rfl ?_
      refine v_get h (v := .ref (ad 5)) dX7_fire_68 iX7_fire_X7 0 rfl rfl 7 (by decide) (zwi 1 rfl) rfl 71 rfl ?_
      refine v_bipush h dX7_fire_71 24 rfl 73 rfl ?_
      refine v_iload h dX7_fire_73 4 rfl 75 rfl ?_
      refine v_iadd h dX7_fire_75 76 rfl ?_
      obtain ⟨g3, hf⟩ := zg hf
      refine v_iald h (f := m7) dX7_fire_76 5 0 rfl rfl (zix_in g3) 77 rfl ?_
      refine v_iadd h dX7_fire_77 78 rfl ?_
      refine v_istore h dX7_fire_78 (Nat.le_of_ble_eq_true rfl) rfl rfl [(0, .ref (ad 0)), (2, .int x2), (3, .int x3), (4, .int x4), (5, .int ((zgt m7 3) - 1)), (6, .int ((zgt m7 (14 + ((zgt m7 3) - 1))) + (zgt m7 (24 + ((zgt m7 3) - 1)))))] rfl 80 rfl ?_
      refine v_aload_n h dX7_fire_80 0 rfl 81 rfl ?_
      refine v_get h (v := .ref (ad 5)) dX7_fire_81 iX7_fire_X7 0 rfl rfl 7 (by decide) (zwi 1 rfl) rfl 84 rfl ?_
      refine v_bipush h dX7_fire_84 24 rfl 86 rfl ?_
      refine v_iload h dX7_fire_86 4 rfl 88 rfl ?_
      refine v_iadd h dX7_fire_88 89 rfl ?_
      refine v_iald h (f := m7) dX7_fire_89 5 0 rfl rfl (zix_in g3) 90 rfl ?_
      refine v_bipush h dX7_fire_90 7 rfl 92 rfl ?_
      refine v_icmp_ge h dX7_fire_92 105 (by decide) 95 rfl (fun c4 => ?_) (fun c4 => ?_)
      · replace hf := zt c4 hf
        refine v_iconst h dX7_fire_105 0 rfl 106 rfl ?_
        refine v_istore h dX7_fire_106 (Nat.le_of_ble_eq_true rfl) rfl rfl [(0, .ref (ad 0)), (2, .int x2), (3, .int x3), (4, .int 0), (5, .int ((zgt m7 3) - 1)), (6, .int ((zgt m7 (14 + ((zgt m7 3) - 1))) + (zgt m7 (24 + ((zgt m7 3) - 1)))))] rfl 108 rfl ?_
        refine v_iload h dX7_fire_108 3 rfl 110 rfl ?_
        refine v_if_eq h dX7_fire_110 144 (by decide) 113 rfl (fun _ => ?_) (fun c => absurd c (by decide))
        refine v_goto h dX7_fire_144 42 (by decide) ?_
        exact v_sub [0, 1, 2, 3] rfl (ih v x2 x3 0 m7 _ hf kx)
      · replace hf := zf c4 hf
        refine v_iload_n h dX7_fire_95 2 rfl 96 rfl ?_
        refine v_iload h dX7_fire_96 5 rfl 98 rfl ?_
        refine v_icmp_lt h dX7_fire_98 105 (by decide) 101 rfl (fun c5 => ?_) (fun c5 => ?_)
        · replace hf := zt c5 hf
          refine v_iconst h dX7_fire_105 0 rfl 106 rfl ?_
          refine v_istore h dX7_fire_106 (Nat.le_of_ble_eq_true rfl) rfl rfl [(0, .ref (ad 0)), (2, .int x2), (3, .int x3), (4, .int 0), (5, .int ((zgt m7 3) - 1)), (6, .int ((zgt m7 (14 + ((zgt m7 3) - 1))) + (zgt m7 (24 + ((zgt m7 3) - 1)))))] rfl 108 rfl ?_
          refine v_iload h dX7_fire_108 3 rfl 110 rfl ?_
          refine v_if_eq h dX7_fire_110 144 (by decide) 113 rfl (fun _ => ?_) (fun c => absurd c (by decide))
          refine v_goto h dX7_fire_144 42 (by decide) ?_
          exact v_sub [0, 1, 2, 3] rfl (ih v x2 x3 0 m7 _ hf kx)
        · replace hf := zf c5 hf
          refine v_iconst h dX7_fire_101 1 rfl 102 rfl ?_
          refine v_goto h dX7_fire_102 106 (by decide) ?_
          refine v_istore h dX7_fire_106 (Nat.le_of_ble_eq_true rfl) rfl rfl [(0, .ref (ad 0)), (2, .int x2), (3, .int x3), (4, .int 1), (5, .int ((zgt m7 3) - 1)), (6, .int ((zgt m7 (14 + ((zgt m7 3) - 1))) + (zgt m7 (24 + ((zgt m7 3) - 1)))))] rfl 108 rfl ?_
          refine v_iload h dX7_fire_108 3 rfl 110 rfl ?_
          refine v_if_eq h dX7_fire_110 144 (by decide) 113 rfl (fun c => absurd c (by decide)) (fun _ => ?_)
          refine v_iload_n h dX7_fire_113 2 rfl 114 rfl ?_
          refine v_iload h dX7_fire_114 5 rfl 116 rfl ?_
          refine v_isub h dX7_fire_116 117 rfl ?_
          refine v_istore_n h dX7_fire_117 (Nat.le_of_ble_eq_true rfl) rfl rfl [(0, .ref (ad 0)), (2, .int x2), (3, .int (x3 - ((zgt m7 (14 + ((zgt m7 3) - 1))) + (zgt m7 (24 + ((zgt m7 3) - 1)))))), (4, .int 1), (5, .int ((zgt m7 3) - 1)), (6, .int ((zgt m7 (14 + ((zgt m7 3) - 1))) + (zgt m7 (24 + ((zgt m7 3) - 1)))))] rfl 118 rfl ?_
          refine v_aload_n h dX7_fire_118 0 rfl 119 rfl ?_
          refine v_get h (v := .ref (ad 5)) dX7_fire_119 iX7_fire_X7 0 rfl rfl 7 (by decide) (zwi 1 rfl) rfl 122 rfl ?_
          refine v_iconst h dX7_fire_122 3 rfl 123 rfl ?_
          refine v_dup2 h dX7_fire_123 rfl rfl 124 rfl ?_
          refine v_iald h (f := m7) dX7_fire_124 5 0 rfl rfl zi_3_407 125 rfl ?_
          refine v_iconst h dX7_fire_125 1 rfl 126 rfl ?_
          refine v_isub h dX7_fire_126 127 rfl ?_
          refine v_iast h (f := m7) dX7_fire_127 5 0 rfl rfl zi_3_407 (wM ca ad (v.1, v.2.1, v.2.2.1, v.2.2.2.1, v.2.2.2.2.1, v.2.2.2.2.2.1, v.2.2.2.2.2.2.1, (zpt m7 3 ((zgt m7 3) - 1)), v.2.2.2.2.2.2.2.2)) rfl 128 rfl ?_
          refine v_aload_n h dX7_fire_128 0 rfl 129 rfl ?_
          refine v_get h (v := .ref (ad 5)) dX7_fire_129 iX7_fire_X7 0 rfl rfl 7 (by decide) (zwi 1 rfl) rfl 132 rfl ?_
          refine v_iconst h dX7_fire_132 3 rfl 133 rfl ?_
          refine v_iald h (f := (zpt m7 3 ((zgt m7 3) - 1))) dX7_fire_133 5 0 rfl rfl zi_3_407 134 rfl ?_
          refine v_if_le h dX7_fire_134 141 (by decide) 137 rfl (fun c6 => ?_) (fun c6 => ?_)
          · replace hf := zt c6 hf
            refine v_iconst h dX7_fire_141 0 rfl 142 rfl ?_
            refine v_istore h dX7_fire_142 (Nat.le_of_ble_eq_true rfl) rfl rfl [(0, .ref (ad 0)), (2, .int x2), (3, .int (x3 - ((zgt m7 (14 + ((zgt m7 3) - 1))) + (zgt m7 (24 + ((zgt m7 3) - 1)))))), (4, .int 0), (5, .int ((zgt m7 3) - 1)), (6, .int ((zgt m7 (14 + ((zgt m7 3) - 1))) + (zgt m7 (24 + ((zgt m7 3) - 1)))))] rfl 144 rfl ?_
            refine v_goto h dX7_fire_144 42 (by decide) ?_
            exact v_sub [0, 1, 2, 3] rfl (ih v x2 (x3 - ((zgt m7 (14 + ((zgt m7 3) - 1))) + (zgt m7 (24 + ((zgt m7 3) - 1))))) 0 (zpt m7 3 ((zgt m7 3) - 1)) _ hf kx)
          · replace hf := zf c6 hf
            refine v_iconst h dX7_fire_137 1 rfl 138 rfl ?_
            refine v_goto h dX7_fire_138 142 (by decide) ?_
            refine v_istore h dX7_fire_142 (Nat.le_of_ble_eq_true rfl) rfl rfl [(0, .ref (ad 0)), (2, .int x2), (3, .int (x3 - ((zgt m7 (14 + ((zgt m7 3) - 1))) + (zgt m7 (24 + ((zgt m7 3) - 1)))))), (4, .int 1), (5, .int ((zgt m7 3) - 1)), (6, .int ((zgt m7 (14 + ((zgt m7 3) - 1))) + (zgt m7 (24 + ((zgt m7 3) - 1)))))] rfl 144 rfl ?_
            refine v_goto h dX7_fire_144 42 (by decide) ?_
            exact v_sub [0, 1, 2, 3] rfl (ih v x2 (x3 - ((zgt m7 (14 + ((zgt m7 3) - 1))) + (zgt m7 (24 + ((zgt m7 3) - 1))))) 1 (zpt m7 3 ((zgt m7 3) - 1)) _ hf kx)
def fX7_fire (v : MV) (x1 : Int32) : Option (Int32 × zAI) := ((fX7_in x1 0 999) : Option Int32).bind (fun u1 => if u1 = 0 then (some ((-1), v.2.2.2.2.2.2.2.1)) else (((fX7_note v) : Option zAI).bind (fun u3 => if (zgt u3 3) ≤ 0 then (((fX7_fire_L42 zF (v.1, v.2.1, v.2.2.1, v.2.2.2.1, v.2.2.2.2.1, v.2.2.2.2.2.1, v.2.2.2.2.2.2.1, u3, v.2.2.2.2.2.2.2.2) (zgt u3 3) x1 0 u3) : Option zAI).bind (fun u5 => some (((zgt u3 3) - (zgt u5 3)), u5))) else (((fX7_fire_L42 zF (v.1, v.2.1, v.2.2.1, v.2.2.2.1, v.2.2.2.2.1, v.2.2.2.2.2.1, v.2.2.2.2.2.2.1, u3, v.2.2.2.2.2.2.2.2) (zgt u3 3) x1 1 u3) : Option zAI).bind (fun u6 => some (((zgt u3 3) - (zgt u6 3)), u6))))))
set_option maxRecDepth 100000 in
set_option maxHeartbeats 4000000 in
theorem tX7_fire (l : Launch) (G : va_G) (ca : Nat → ClassId) (ad : Nat → Nat) (v : MV) (x1 : Int32) {o : (Int32 × zAI)} (hf : fX7_fire v x1 = some o) : zMi l yX7_fire wsX7_fire rX7_fire G ca [.ref (ad 0), .int x1] (wM ca ad v) o.1 (wM ca ad (v.1, v.2.1, v.2.2.1, v.2.2.2.1, v.2.2.2.2.1, v.2.2.2.2.2.1, v.2.2.2.2.2.2.1, o.2, v.2.2.2.2.2.2.2.2)) := by
  refine zMi.of (cc := cX7_fire) (nL := 7) (own := RX7) (ty := .int) (by decide) rfl rfl (Nat.le_of_ble_eq_true rfl) (fun X h hE => ?_)
  show V X G 7 0 0 (wM ca ad v) 0 [(0, .ref (ad 0)), (1, .int x1)] []
  unfold fX7_fire at hf
  refine v_iload_n h dX7_fire_0 1 rfl 1 rfl ?_
  refine v_iconst h dX7_fire_1 0 rfl 2 rfl ?_
  refine v_sipush h dX7_fire_2 999 rfl 5 rfl ?_
  obtain ⟨u1, hu1, hf⟩ := zb hf
  refine v_callSi h (rest := []) dX7_fire_5 (tX7_in l G ca   x1 0 999 hu1) gX7_fire_X7_in rfl ⟨rfl, rfl⟩ nX7_in ⟨Nat.le_of_ble_eq_true rfl, Nat.le_of_ble_eq_true rfl⟩ [] rfl rfl rfl rfl (Nat.le_of_ble_eq_true rfl) ⟨Nat.zero_le _, Nat.zero_le _⟩ rfl (wM ca ad v) rfl (wM_adr _ _ _ _) 8 rfl ?_
  refine v_if_ne h dX7_fire_8 13 (by decide) 11 rfl (fun c2 => ?_) (fun c2 => ?_)
  · replace hf := zf c2 hf
    refine v_aload_n h dX7_fire_13 0 rfl 14 rfl ?_
    obtain ⟨u3, hu3, hf⟩ := zb hf
    refine v_wcallVv h (rest := []) dX7_fire_14 (tX7_note l G ca ad v  hu3) gX7_fire_X7_note rfl rfl ⟨rfl, rfl⟩ nX7_note ⟨Nat.le_of_ble_eq_true rfl, Nat.le_of_ble_eq_true rfl⟩ 0 rfl rfl rfl rfl (Nat.le_of_ble_eq_true rfl) ⟨Nat.zero_le _, Nat.zero_le _⟩ (wM_adr _ _ _ _) 17 rfl ?_
    refine v_aload_n h dX7_fire_17 0 rfl 18 rfl ?_
    refine v_get h (v := .ref (ad 5)) dX7_fire_18 iX7_fire_X7 0 rfl rfl 7 (by decide) (zwi 1 rfl) rfl 21 rfl ?_
    refine v_iconst h dX7_fire_21 3 rfl 22 rfl ?_
    refine v_iald h (f := u3) dX7_fire_22 5 0 rfl rfl zi_3_407 23 rfl ?_
    refine v_istore_n h dX7_fire_23 (Nat.le_of_ble_eq_true rfl) rfl rfl [(0, .ref (ad 0)), (1, .int x1), (2, .int (zgt u3 3))] rfl 24 rfl ?_
    refine v_iload_n h dX7_fire_24 1 rfl 25 rfl ?_
    refine v_istore_n h dX7_fire_25 (Nat.le_of_ble_eq_true rfl) rfl rfl [(0, .ref (ad 0)), (1, .int x1), (2, .int (zgt u3 3)), (3, .int x1)] rfl 26 rfl ?_
    refine v_aload_n h dX7_fire_26 0 rfl 27 rfl ?_
    refine v_get h (v := .ref (ad 5)) dX7_fire_27 iX7_fire_X7 0 rfl rfl 7 (by decide) (zwi 1 rfl) rfl 30 rfl ?_
    refine v_iconst h dX7_fire_30 3 rfl 31 rfl ?_
    refine v_iald h (f := u3) dX7_fire_31 5 0 rfl rfl zi_3_407 32 rfl ?_
    refine v_if_le h dX7_fire_32 39 (by decide) 35 rfl (fun c4 => ?_) (fun c4 => ?_)
    · replace hf := zt c4 hf
      refine v_iconst h dX7_fire_39 0 rfl 40 rfl ?_
      refine v_istore h dX7_fire_40 (Nat.le_of_ble_eq_true rfl) rfl rfl [(0, .ref (ad 0)), (1, .int x1), (2, .int (zgt u3 3)), (3, .int x1), (4, .int 0)] rfl 42 rfl ?_
      obtain ⟨u5, hu5, hf⟩ := zb hf
      refine v_sub [0, 2, 3, 4] rfl ?_
      refine tX7_fire_l42 h zF (v.1, v.2.1, v.2.2.1, v.2.2.2.1, v.2.2.2.2.1, v.2.2.2.2.2.1, v.2.2.2.2.2.2.1, u3, v.2.2.2.2.2.2.2.2) (zgt u3 3) x1 0 u3 _ hu5 ?_
      refine v_iload_n h dX7_fire_147 1 rfl 148 rfl ?_
      refine v_aload_n h dX7_fire_148 0 rfl 149 rfl ?_
      refine v_get h (v := .ref (ad 5)) dX7_fire_149 iX7_fire_X7 0 rfl rfl 7 (by decide) (zwi 1 rfl) rfl 152 rfl ?_
      refine v_iconst h dX7_fire_152 3 rfl 153 rfl ?_
      refine v_iald h (f := u5) dX7_fire_153 5 0 rfl rfl zi_3_407 154 rfl ?_
      refine v_isub h dX7_fire_154 155 rfl ?_
      cases (Option.some.inj hf)
      exact hE 155 _ rfl dX7_fire_155
    · replace hf := zf c4 hf
      refine v_iconst h dX7_fire_35 1 rfl 36 rfl ?_
      refine v_goto h dX7_fire_36 40 (by decide) ?_
      refine v_istore h dX7_fire_40 (Nat.le_of_ble_eq_true rfl) rfl rfl [(0, .ref (ad 0)), (1, .int x1), (2, .int (zgt u3 3)), (3, .int x1), (4, .int 1)] rfl 42 rfl ?_
      obtain ⟨u6, hu6, hf⟩ := zb hf
      refine v_sub [0, 2, 3, 4] rfl ?_
      refine tX7_fire_l42 h zF (v.1, v.2.1, v.2.2.1, v.2.2.2.1, v.2.2.2.2.1, v.2.2.2.2.2.1, v.2.2.2.2.2.2.1, u3, v.2.2.2.2.2.2.2.2) (zgt u3 3) x1 1 u3 _ hu6 ?_
      refine v_iload_n h dX7_fire_147 1 rfl 148 rfl ?_
      refine v_aload_n h dX7_fire_148 0 rfl 149 rfl ?_
      refine v_get h (v := .ref (ad 5)) dX7_fire_149 iX7_fire_X7 0 rfl rfl 7 (by decide) (zwi 1 rfl) rfl 152 rfl ?_
      refine v_iconst h dX7_fire_152 3 rfl 153 rfl ?_
      refine v_iald h (f := u6) dX7_fire_153 5 0 rfl rfl zi_3_407 154 rfl ?_
      refine v_isub h dX7_fire_154 155 rfl ?_
      cases (Option.some.inj hf)
      exact hE 155 _ rfl dX7_fire_155
  · replace hf := zt c2 hf
    refine v_iconst h dX7_fire_11 (-1) rfl 12 rfl ?_
    cases (Option.some.inj hf)
    exact hE 12 _ rfl dX7_fire_12
abbrev rX7_drift : Room := { frames := 4, cells := 0, slots := 0, locals := 94 }
theorem nX7_drift : zNoMH yX7_drift 1 := ⟨by decide +kernel, by decide +kernel, by decide +kernel⟩
theorem iX7_drift_X7 : ∀ w ∈ wsX70, w ∈ wsX7_drift := fun _ h => (List.mem_cons_of_mem _ (List.mem_append_right _ h))
def fX7_drift_L33 : Nat → MV → Int32 → Int32 → Int32 → zAI → zAI → Option (Int32 × zAI × zAI)
  | 0, _, _, _, _, _, _ => none
  | n + 1, v, x1, x2, x3, m7, m12 => if x1 ≤ x3 then (some (x2, m7, m12)) else (((fX7_note (v.1, v.2.1, v.2.2.1, v.2.2.2.1, v.2.2.2.2.1, v.2.2.2.2.2.1, v.2.2.2.2.2.2.1, m7, v.2.2.2.2.2.2.2.2.1, v.2.2.2.2.2.2.2.2.2.1, v.2.2.2.2.2.2.2.2.2.2.1, v.2.2.2.2.2.2.2.2.2.2.2.1, m12, v.2.2.2.2.2.2.2.2.2.2.2.2.2)) : Option zAI).bind (fun u2 => zlet ((((((zgt u2 1).toInt64) * 1103515245) + 12345) - ((((zgt u2 1).toInt64) * 1103515245) + 12345) / 2147483648 * 2147483648).toInt32 : Int32) (fun d3 => if (((zgt (zpt u2 1 d3) 1) / 65536) - ((zgt (zpt u2 1 d3) 1) / 65536) / 3 * 3) = 0 then (if (zgt (zpt u2 1 d3) 3) ≤ 0 then (((fX7_yearIn m12 (zpt u2 1 d3)) : Option (Int32 × zAI × zAI)).bind (fun u7 => fX7_drift_L33 n v x1 (x2 + u7.1) (x3 + 1) u7.2.2 u7.2.1)) else (zgrd (znz (zgt (zpt u2 1 d3) 3)) (((fX7_pulls (zpt u2 1 d3) (((zgt (zpt u2 1 d3) 1) / 128) - ((zgt (zpt u2 1 d3) 1) / 128) / (zgt (zpt u2 1 d3) 3) * (zgt (zpt u2 1 d3) 3)) 1) : Option zAI).bind (fun u9 => ((fX7_yearIn m12 u9) : Option (Int32 × zAI × zAI)).bind (fun u10 => fX7_drift_L33 n v x1 (x2 + u10.1) (x3 + 1) u10.2.2 u10.2.1))))) else (((fX7_yearIn m12 (zpt u2 1 d3)) : Option (Int32 × zAI × zAI)).bind (fun u5 => fX7_drift_L33 n v x1 (x2 + u5.1) (x3 + 1) u5.2.2 u5.2.1)))))
set_option maxRecDepth 100000 in
set_option maxHeartbeats 4000000 in
theorem tX7_drift_l33 {X : zX} {l : Launch} {G : va_G} {ca : Nat → ClassId} {ad : Nat → Nat} (h : zOk X l G ca cX7_drift RX7 wsX7_drift 4 rX7_drift) : ∀ (n : Nat) (v : MV) (x1 : Int32) (x2 : Int32) (x3 : Int32) (m7 : zAI) (m12 : zAI) (out : (Int32 × zAI × zAI)), fX7_drift_L33 n v x1 x2 x3 m7 m12 = some out → (V X G 4 0 0 (wM ca ad (v.1, v.2.1, v.2.2.1, v.2.2.2.1, v.2.2.2.2.1, v.2.2.2.2.2.1, v.2.2.2.2.2.2.1, out.2.1, v.2.2.2.2.2.2.2.2.1, v.2.2.2.2.2.2.2.2.2.1, v.2.2.2.2.2.2.2.2.2.2.1, v.2.2.2.2.2.2.2.2.2.2.2.1, out.2.2, v.2.2.2.2.2.2.2.2.2.2.2.2.2)) 133 [(2, .int out.1)] []) → V X G 4 0 0 (wM ca ad (v.1, v.2.1, v.2.2.1, v.2.2.2.1, v.2.2.2.2.1, v.2.2.2.2.2.1, v.2.2.2.2.2.2.1, m7, v.2.2.2.2.2.2.2.2.1, v.2.2.2.2.2.2.2.2.2.1, v.2.2.2.2.2.2.2.2.2.2.1, v.2.2.2.2.2.2.2.2.2.2.2.1, m12, v.2.2.2.2.2.2.2.2.2.2.2.2.2)) 33 [(0, .ref (ad 0)), (1, .int x1), (2, .int x2), (3, .int x3)] [] := by
  intro n
  induction n with
  | zero => intro v x1 x2 x3 m7 m12 out hf; rw [fX7_drift_L33] at hf; cases hf
  | succ n ih =>
    intro v x1 x2 x3 m7 m12 out hf kx
    rw [fX7_drift_L33] at hf
    refine v_iload_n h dX7_drift_33 3 rfl 34 rfl ?_
    refine v_iload_n h dX7_drift_34 1 rfl 35 rfl ?_
    refine v_icmp_ge h dX7_drift_35 133 (by decide) 38 rfl (fun c1 => ?_) (fun c1 => ?_)
    · replace hf := zt c1 hf
      cases (Option.some.inj hf)
      exact v_sub [2] rfl (kx)
    · replace hf := zf c1 hf
      refine v_aload_n h dX7_drift_38 0 rfl 39 rfl ?_
      obtain ⟨u2, hu2, hf⟩ := zb hf
      refine v_wcallVv h (rest := []) dX7_drift_39 (tX7_note l G ca ad (v.1, v.2.1, v.2.2.1, v.2.2.2.1, v.2.2.2.2.1, v.2.2.2.2.2.1, v.2.2.2.2.2.2.1, m7, v.2.2.2.2.2.2.2.2.1, v.2.2.2.2.2.2.2.2.2.1, v.2.2.2.2.2.2.2.2.2.2.1, v.2.2.2.2.2.2.2.2.2.2.2.1, m12, v.2.2.2.2.2.2.2.2.2.2.2.2.2)  hu2) gX7_drift_X7_note rfl rfl ⟨rfl, rfl⟩ nX7_note ⟨Nat.le_of_ble_eq_true rfl, Nat.le_of_ble_eq_true rfl⟩ 0 rfl rfl rfl rfl (Nat.le_of_ble_eq_true rfl) ⟨Nat.zero_le _, Nat.zero_le _⟩ (wM_adr _ _ _ _) 42 rfl ?_
      refine v_aload_n h dX7_drift_42 0 rfl 43 rfl ?_
      refine v_get h (v := .ref (ad 5)) dX7_drift_43 iX7_drift_X7 0 rfl rfl 7 (by decide) (zwi 1 rfl) rfl 46 rfl ?_
      refine v_iconst h dX7_drift_46 1 rfl 47 rfl ?_
      refine v_aload_n h dX7_drift_47 0 rfl 48 rfl ?_
      refine v_get h (v := .ref (ad 5)) dX7_drift_48 iX7_drift_X7 0 rfl rfl 7 (by decide) (zwi 1 rfl) rfl 51 rfl ?_
      refine v_iconst h dX7_drift_51 1 rfl 52 rfl ?_
      refine v_iald h (f := u2) dX7_drift_52 5 0 rfl rfl zi_1_407 53 rfl ?_
      refine v_i2l h dX7_drift_53 54 rfl ?_
      refine v_ldc2 h dX7_drift_54 1103515245 (zwi 2 rfl) 57 rfl ?_
      refine v_lmul h dX7_drift_57 58 rfl ?_
      refine v_ldc2 h dX7_drift_58 12345 (zwi 3 rfl) 61 rfl ?_
      refine v_ladd h dX7_drift_61 62 rfl ?_
      refine v_ldc2 h dX7_drift_62 2147483648 (zwi 4 rfl) 65 rfl ?_
      refine v_lrem h dX7_drift_65 (by decide) 66 rfl ?_
      refine v_l2i h dX7_drift_66 67 rfl ?_
      obtain ⟨d3, ed3, hf⟩ := zl hf
      refine v_topi ed3 ?_
      refine v_iast h (f := u2) dX7_drift_67 5 0 rfl rfl zi_1_407 (wM ca ad (v.1, v.2.1, v.2.2.1, v.2.2.2.1, v.2.2.2.2.1, v.2.2.2.2.2.1, v.2.2.2.2.2.2.1, (zpt u2 1 d3), v.2.2.2.2.2.2.2.2.1, v.2.2.2.2.2.2.2.2.2.1, v.2.2.2.2.2.2.2.2.2.2.1, v.2.2.2.2.2.2.2.2.2.2.2.1, m12, v.2.2.2.2.2.2.2.2.2.2.2.2.2)) rfl 68 rfl ?_
      refine v_aload_n h dX7_drift_68 0 rfl 69 rfl ?_
      refine v_get h (v := .ref (ad 5)) dX7_drift_69 iX7_drift_X7 0 rfl rfl 7 (by decide) (zwi 1 rfl) rfl 72 rfl ?_
      refine v_iconst h dX7_drift_72 1 rfl 73 rfl ?_
      refine v_iald h (f := (zpt u2 1 d3)) dX7_drift_73 5 0 rfl rfl zi_1_407 74 rfl ?_
      refine v_ldc h dX7_drift_74 65536 (zwi 5 rfl) 76 rfl ?_
      refine v_idiv h dX7_drift_76 (by decide) 77 rfl ?_
      refine v_iconst h dX7_drift_77 3 rfl 78 rfl ?_
      refine v_irem h dX7_drift_78 (by decide) 79 rfl ?_
      refine v_if_ne h dX7_drift_79 116 (by decide) 82 rfl (fun c4 => ?_) (fun c4 => ?_)
      · replace hf := zf c4 hf
        refine v_iload_n h dX7_drift_116 2 rfl 117 rfl ?_
        refine v_aload_n h dX7_drift_117 0 rfl 118 rfl ?_
        refine v_aload_n h dX7_drift_118 0 rfl 119 rfl ?_
        refine v_get h (v := .ref (ad 5)) dX7_drift_119 iX7_drift_X7 0 rfl rfl 7 (by decide) (zwi 1 rfl) rfl 122 rfl ?_
        obtain ⟨u5, hu5, hf⟩ := zb hf
        refine v_callVi h (rest := [.int x2]) dX7_drift_122 (tX7_yearIn l G ca ad (ad 5) (v.1, v.2.1, v.2.2.1, v.2.2.2.1, v.2.2.2.2.1, v.2.2.2.2.2.1, v.2.2.2.2.2.2.1, (zpt u2 1 d3), v.2.2.2.2.2.2.2.2.1, v.2.2.2.2.2.2.2.2.2.1, v.2.2.2.2.2.2.2.2.2.2.1, v.2.2.2.2.2.2.2.2.2.2.2.1, m12, v.2.2.2.2.2.2.2.2.2.2.2.2.2) m12 (zpt u2 1 d3)  hu5) gX7_drift_X7_yearIn rfl rfl ⟨rfl, rfl⟩ nX7_yearIn ⟨Nat.le_of_ble_eq_true rfl, Nat.le_of_ble_eq_true rfl⟩ [0, 9, 5] rfl rfl 0 rfl rfl rfl rfl (Nat.le_of_ble_eq_true rfl) ⟨Nat.zero_le _, Nat.zero_le _⟩ rfl (wM ca ad (v.1, v.2.1, v.2.2.1, v.2.2.2.1, v.2.2.2.2.1, v.2.2.2.2.2.1, v.2.2.2.2.2.2.1, u5.2.2, v.2.2.2.2.2.2.2.2.1, v.2.2.2.2.2.2.2.2.2.1, v.2.2.2.2.2.2.2.2.2.2.1, v.2.2.2.2.2.2.2.2.2.2.2.1, u5.2.1, v.2.2.2.2.2.2.2.2.2.2.2.2.2)) rfl (wM_adr _ _ _ _) 125 rfl ?_
        refine v_iadd h dX7_drift_125 126 rfl ?_
        refine v_istore_n h dX7_drift_126 (Nat.le_of_ble_eq_true rfl) rfl rfl [(0, .ref (ad 0)), (1, .int x1), (2, .int (x2 + u5.1)), (3, .int x3)] rfl 127 rfl ?_
        refine v_iinc h dX7_drift_127 3 rfl (x3 + 1) rfl (Nat.le_of_ble_eq_true rfl) rfl rfl [(0, .ref (ad 0)), (1, .int x1), (2, .int (x2 + u5.1)), (3, .int (x3 + 1))] rfl 130 rfl ?_
        refine v_goto h dX7_drift_130 33 (by decide) ?_
        exact v_sub [0, 1, 2, 3] rfl (ih v x1 (x2 + u5.1) (x3 + 1) u5.2.2 u5.2.1 _ hf kx)
      · replace hf := zt c4 hf
        refine v_aload_n h dX7_drift_82 0 rfl 83 rfl ?_
        refine v_get h (v := .ref (ad 5)) dX7_drift_83 iX7_drift_X7 0 rfl rfl 7 (by decide) (zwi 1 rfl) rfl 86 rfl ?_
        refine v_iconst h dX7_drift_86 3 rfl 87 rfl ?_
        refine v_iald h (f := (zpt u2 1 d3)) dX7_drift_87 5 0 rfl rfl zi_3_407 88 rfl ?_
        refine v_if_le h dX7_drift_88 116 (by decide) 91 rfl (fun c6 => ?_) (fun c6 => ?_)
        · replace hf := zt c6 hf
          refine v_iload_n h dX7_drift_116 2 rfl 117 rfl ?_
          refine v_aload_n h dX7_drift_117 0 rfl 118 rfl ?_
          refine v_aload_n h dX7_drift_118 0 rfl 119 rfl ?_
          refine v_get h (v := .ref (ad 5)) dX7_drift_119 iX7_drift_X7 0 rfl rfl 7 (by decide) (zwi 1 rfl) rfl 122 rfl ?_
          obtain ⟨u7, hu7, hf⟩ := zb hf
          refine v_callVi h (rest := [.int x2]) dX7_drift_122 (tX7_yearIn l G ca ad (ad 5) (v.1, v.2.1, v.2.2.1, v.2.2.2.1, v.2.2.2.2.1, v.2.2.2.2.2.1, v.2.2.2.2.2.2.1, (zpt u2 1 d3), v.2.2.2.2.2.2.2.2.1, v.2.2.2.2.2.2.2.2.2.1, v.2.2.2.2.2.2.2.2.2.2.1, v.2.2.2.2.2.2.2.2.2.2.2.1, m12, v.2.2.2.2.2.2.2.2.2.2.2.2.2) m12 (zpt u2 1 d3)  hu7) gX7_drift_X7_yearIn rfl rfl ⟨rfl, rfl⟩ nX7_yearIn ⟨Nat.le_of_ble_eq_true rfl, Nat.le_of_ble_eq_true rfl⟩ [0, 9, 5] rfl rfl 0 rfl rfl rfl rfl (Nat.le_of_ble_eq_true rfl) ⟨Nat.zero_le _, Nat.zero_le _⟩ rfl (wM ca ad (v.1, v.2.1, v.2.2.1, v.2.2.2.1, v.2.2.2.2.1, v.2.2.2.2.2.1, v.2.2.2.2.2.2.1, u7.2.2, v.2.2.2.2.2.2.2.2.1, v.2.2.2.2.2.2.2.2.2.1, v.2.2.2.2.2.2.2.2.2.2.1, v.2.2.2.2.2.2.2.2.2.2.2.1, u7.2.1, v.2.2.2.2.2.2.2.2.2.2.2.2.2)) rfl (wM_adr _ _ _ _) 125 rfl ?_
          refine v_iadd h dX7_drift_125 126 rfl ?_
          refine v_istore_n h dX7_drift_126 (Nat.le_of_ble_eq_true rfl) rfl rfl [(0, .ref (ad 0)), (1, .int x1), (2, .int (x2 + u7.1)), (3, .int x3)] rfl 127 rfl ?_
          refine v_iinc h dX7_drift_127 3 rfl (x3 + 1) rfl (Nat.le_of_ble_eq_true rfl) rfl rfl [(0, .ref (ad 0)), (1, .int x1), (2, .int (x2 + u7.1)), (3, .int (x3 + 1))] rfl 130 rfl ?_
          refine v_goto h dX7_drift_130 33 (by decide) ?_
          exact v_sub [0, 1, 2, 3] rfl (ih v x1 (x2 + u7.1) (x3 + 1) u7.2.2 u7.2.1 _ hf kx)
        · replace hf := zf c6 hf
          refine v_aload_n h dX7_drift_91 0 rfl 92 rfl ?_
          refine v_get h (v := .ref (ad 5)) dX7_drift_92 iX7_drift_X7 0 rfl rfl 7 (by decide) (zwi 1 rfl) rfl 95 rfl ?_
          refine v_aload_n h dX7_drift_95 0 rfl 96 rfl ?_
          refine v_get h (v := .ref (ad 5)) dX7_drift_96 iX7_drift_X7 0 rfl rfl 7 (by decide) (zwi 1 rfl) rfl 99 rfl ?_
          refine v_iconst h dX7_drift_99 1 rfl 100 rfl ?_
          refine v_iald h (f := (zpt u2 1 d3)) dX7_drift_100 5 0 rfl rfl zi_1_407 101 rfl ?_
          refine v_sipush h dX7_drift_101 128 rfl 104 rfl ?_
          refine v_idiv h dX7_drift_104 (by decide) 105 rfl ?_
          refine v_aload_n h dX7_drift_105 0 rfl 106 rfl ?_
          refine v_get h (v := .ref (ad 5)) dX7_drift_106 iX7_drift_X7 0 rfl rfl 7 (by decide) (zwi 1 rfl) rfl 109 rfl ?_
          refine v_iconst h dX7_drift_109 3 rfl 110 rfl ?_
          refine v_iald h (f := (zpt u2 1 d3)) dX7_drift_110 5 0 rfl rfl zi_3_407 111 rfl ?_
          obtain ⟨g8, hf⟩ := zg hf
          refine v_irem h dX7_drift_111 (znz_ne g8) 112 rfl ?_
          refine v_iconst h dX7_drift_112 1 rfl 113 rfl ?_
          obtain ⟨u9, hu9, hf⟩ := zb hf
          refine v_callSv h (rest := []) dX7_drift_113 (tX7_pulls l G ca (ad 5) (zpt u2 1 d3) (((zgt (zpt u2 1 d3) 1) / 128) - ((zgt (zpt u2 1 d3) 1) / 128) / (zgt (zpt u2 1 d3) 3) * (zgt (zpt u2 1 d3) 3)) 1 hu9) gX7_drift_X7_pulls rfl ⟨rfl, rfl⟩ nX7_pulls ⟨Nat.le_of_ble_eq_true rfl, Nat.le_of_ble_eq_true rfl⟩ [5] rfl rfl rfl rfl (Nat.le_of_ble_eq_true rfl) ⟨Nat.zero_le _, Nat.zero_le _⟩ rfl (wM ca ad (v.1, v.2.1, v.2.2.1, v.2.2.2.1, v.2.2.2.2.1, v.2.2.2.2.2.1, v.2.2.2.2.2.2.1, u9, v.2.2.2.2.2.2.2.2.1, v.2.2.2.2.2.2.2.2.2.1, v.2.2.2.2.2.2.2.2.2.2.1, v.2.2.2.2.2.2.2.2.2.2.2.1, m12, v.2.2.2.2.2.2.2.2.2.2.2.2.2)) rfl (wM_adr _ _ _ _) 116 rfl ?_
          refine v_iload_n h dX7_drift_116 2 rfl 117 rfl ?_
          refine v_aload_n h dX7_drift_117 0 rfl 118 rfl ?_
          refine v_aload_n h dX7_drift_118 0 rfl 119 rfl ?_
          refine v_get h (v := .ref (ad 5)) dX7_drift_119 iX7_drift_X7 0 rfl rfl 7 (by decide) (zwi 1 rfl) rfl 122 rfl ?_
          obtain ⟨u10, hu10, hf⟩ := zb hf
          refine v_callVi h (rest := [.int x2]) dX7_drift_122 (tX7_yearIn l G ca ad (ad 5) (v.1, v.2.1, v.2.2.1, v.2.2.2.1, v.2.2.2.2.1, v.2.2.2.2.2.1, v.2.2.2.2.2.2.1, u9, v.2.2.2.2.2.2.2.2.1, v.2.2.2.2.2.2.2.2.2.1, v.2.2.2.2.2.2.2.2.2.2.1, v.2.2.2.2.2.2.2.2.2.2.2.1, m12, v.2.2.2.2.2.2.2.2.2.2.2.2.2) m12 u9  hu10) gX7_drift_X7_yearIn rfl rfl ⟨rfl, rfl⟩ nX7_yearIn ⟨Nat.le_of_ble_eq_true rfl, Nat.le_of_ble_eq_true rfl⟩ [0, 9, 5] rfl rfl 0 rfl rfl rfl rfl (Nat.le_of_ble_eq_true rfl) ⟨Nat.zero_le _, Nat.zero_le _⟩ rfl (wM ca ad (v.1, v.2.1, v.2.2.1, v.2.2.2.1, v.2.2.2.2.1, v.2.2.2.2.2.1, v.2.2.2.2.2.2.1, u10.2.2, v.2.2.2.2.2.2.2.2.1, v.2.2.2.2.2.2.2.2.2.1, v.2.2.2.2.2.2.2.2.2.2.1, v.2.2.2.2.2.2.2.2.2.2.2.1, u10.2.1, v.2.2.2.2.2.2.2.2.2.2.2.2.2)) rfl (wM_adr _ _ _ _) 125 rfl ?_
          refine v_iadd h dX7_drift_125 126 rfl ?_
          refine v_istore_n h dX7_drift_126 (Nat.le_of_ble_eq_true rfl) rfl rfl [(0, .ref (ad 0)), (1, .int x1), (2, .int (x2 + u10.1)), (3, .int x3)] rfl 127 rfl ?_
          refine v_iinc h dX7_drift_127 3 rfl (x3 + 1) rfl (Nat.le_of_ble_eq_true rfl) rfl rfl [(0, .ref (ad 0)), (1, .int x1), (2, .int (x2 + u10.1)), (3, .int (x3 + 1))] rfl 130 rfl ?_
          refine v_goto h dX7_drift_130 33 (by decide) ?_
          exact v_sub [0, 1, 2, 3] rfl (ih v x1 (x2 + u10.1) (x3 + 1) u10.2.2 u10.2.1 _ hf kx)
def fX7_drift (v : MV) (x1 : Int32) : Option (Int32 × zAI × zAI) := ((fX7_in x1 1 40) : Option Int32).bind (fun u1 => if u1 = 0 then (some ((-1), v.2.2.2.2.2.2.2.1, v.2.2.2.2.2.2.2.2.2.2.2.2.1)) else (if ((zgt v.2.2.2.2.2.2.2.1 0) + x1) ≤ 9999 then (((fX7_drift_L33 zF v x1 0 0 v.2.2.2.2.2.2.2.1 v.2.2.2.2.2.2.2.2.2.2.2.2.1) : Option (Int32 × zAI × zAI)).bind (fun u4 => some (u4.1, u4.2.1, u4.2.2))) else (some ((-3), v.2.2.2.2.2.2.2.1, v.2.2.2.2.2.2.2.2.2.2.2.2.1))))
set_option maxRecDepth 100000 in
set_option maxHeartbeats 4000000 in
theorem tX7_drift (l : Launch) (G : va_G) (ca : Nat → ClassId) (ad : Nat → Nat) (v : MV) (x1 : Int32) {o : (Int32 × zAI × zAI)} (hf : fX7_drift v x1 = some o) : zMi l yX7_drift wsX7_drift rX7_drift G ca [.ref (ad 0), .int x1] (wM ca ad v) o.1 (wM ca ad (v.1, v.2.1, v.2.2.1, v.2.2.2.1, v.2.2.2.2.1, v.2.2.2.2.2.1, v.2.2.2.2.2.2.1, o.2.1, v.2.2.2.2.2.2.2.2.1, v.2.2.2.2.2.2.2.2.2.1, v.2.2.2.2.2.2.2.2.2.2.1, v.2.2.2.2.2.2.2.2.2.2.2.1, o.2.2, v.2.2.2.2.2.2.2.2.2.2.2.2.2)) := by
  refine zMi.of (cc := cX7_drift) (nL := 4) (own := RX7) (ty := .int) (by decide) rfl rfl (Nat.le_of_ble_eq_true rfl) (fun X h hE => ?_)
  show V X G 4 0 0 (wM ca ad v) 0 [(0, .ref (ad 0)), (1, .int x1)] []
  unfold fX7_drift at hf
  refine v_iload_n h dX7_drift_0 1 rfl 1 rfl ?_
  refine v_iconst h dX7_drift_1 1 rfl 2 rfl ?_
  refine v_bipush h dX7_drift_2 40 rfl 4 rfl ?_
  obtain ⟨u1, hu1, hf⟩ := zb hf
  refine v_callSi h (rest := []) dX7_drift_4 (tX7_in l G ca   x1 1 40 hu1) gX7_drift_X7_in rfl ⟨rfl, rfl⟩ nX7_in ⟨Nat.le_of_ble_eq_true rfl, Nat.le_of_ble_eq_true rfl⟩ [] rfl rfl rfl rfl (Nat.le_of_ble_eq_true rfl) ⟨Nat.zero_le _, Nat.zero_le _⟩ rfl (wM ca ad v) rfl (wM_adr _ _ _ _) 7 rfl ?_
  refine v_if_ne h dX7_drift_7 12 (by decide) 10 rfl (fun c2 => ?_) (fun c2 => ?_)
  · replace hf := zf c2 hf
    refine v_aload_n h dX7_drift_12 0 rfl 13 rfl ?_
    refine v_get h (v := .ref (ad 5)) dX7_drift_13 iX7_drift_X7 0 rfl rfl 7 (by decide) (zwi 1 rfl) rfl 16 rfl ?_
    refine v_iconst h dX7_drift_16 0 rfl 17 rfl ?_
    refine v_iald h (f := v.2.2.2.2.2.2.2.1) dX7_drift_17 5 0 rfl rfl zi_0_407 18 rfl ?_
    refine v_iload_n h dX7_drift_18 1 rfl 19 rfl ?_
    refine v_iadd h dX7_drift_19 20 rfl ?_
    refine v_sipush h dX7_drift_20 9999 rfl 23 rfl ?_
    refine v_icmp_le h dX7_drift_23 29 (by decide) 26 rfl (fun c3 => ?_) (fun c3 => ?_)
    · replace hf := zt c3 hf
      refine v_iconst h dX7_drift_29 0 rfl 30 rfl ?_
      refine v_istore_n h dX7_drift_30 (Nat.le_of_ble_eq_true rfl) rfl rfl [(0, .ref (ad 0)), (1, .int x1), (2, .int 0)] rfl 31 rfl ?_
      refine v_iconst h dX7_drift_31 0 rfl 32 rfl ?_
      refine v_istore_n h dX7_drift_32 (Nat.le_of_ble_eq_true rfl) rfl rfl [(0, .ref (ad 0)), (1, .int x1), (2, .int 0), (3, .int 0)] rfl 33 rfl ?_
      obtain ⟨u4, hu4, hf⟩ := zb hf
      refine v_sub [0, 1, 2, 3] rfl ?_
      refine tX7_drift_l33 h zF v x1 0 0 v.2.2.2.2.2.2.2.1 v.2.2.2.2.2.2.2.2.2.2.2.2.1 _ hu4 ?_
      refine v_iload_n h dX7_drift_133 0 rfl 134 rfl ?_
      cases (Option.some.inj hf)
      exact hE 134 _ rfl dX7_drift_134
    · replace hf := zf c3 hf
      refine v_bipush h dX7_drift_26 (-3) rfl 28 rfl ?_
      cases (Option.some.inj hf)
      exact hE 28 _ rfl dX7_drift_28
  · replace hf := zt c2 hf
    refine v_iconst h dX7_drift_10 (-1) rfl 11 rfl ?_
    cases (Option.some.inj hf)
    exact hE 11 _ rfl dX7_drift_11
abbrev rX7_undo : Room := { frames := 1, cells := 0, slots := 0, locals := 25 }
theorem nX7_undo : zNoMH yX7_undo 0 := ⟨by decide +kernel, by decide +kernel, by decide +kernel⟩
theorem iX7_undo_X7 : ∀ w ∈ wsX70, w ∈ wsX7_undo := fun _ h => (List.mem_cons_of_mem _ (List.mem_append_right _ h))
def fX7_undo (v : MV) : Option (Int32 × zAI) := if (zgt v.2.2.2.2.2.2.2.1 54) = 0 then (some ((-4), v.2.2.2.2.2.2.2.1)) else (((fX7_bringS (zpt v.2.2.2.2.2.2.2.1 54 ((zgt v.2.2.2.2.2.2.2.1 54) - 1)) (55 + (44 * (zgt (zpt v.2.2.2.2.2.2.2.1 54 ((zgt v.2.2.2.2.2.2.2.1 54) - 1)) 54))) 0 44) : Option zAI).bind (fun u2 => some ((zgt u2 54), u2)))
set_option maxRecDepth 100000 in
set_option maxHeartbeats 4000000 in
theorem tX7_undo (l : Launch) (G : va_G) (ca : Nat → ClassId) (ad : Nat → Nat) (v : MV)  {o : (Int32 × zAI)} (hf : fX7_undo v = some o) : zMi l yX7_undo wsX7_undo rX7_undo G ca [.ref (ad 0)] (wM ca ad v) o.1 (wM ca ad (v.1, v.2.1, v.2.2.1, v.2.2.2.1, v.2.2.2.2.1, v.2.2.2.2.2.1, v.2.2.2.2.2.2.1, o.2, v.2.2.2.2.2.2.2.2)) := by
  refine zMi.of (cc := cX7_undo) (nL := 1) (own := RX7) (ty := .int) (by decide) rfl rfl (Nat.le_of_ble_eq_true rfl) (fun X h hE => ?_)
  show V X G 1 0 0 (wM ca ad v) 0 [(0, .ref (ad 0))] []
  unfold fX7_undo at hf
  refine v_aload_n h dX7_undo_0 0 rfl 1 rfl ?_
  refine v_get h (v := .ref (ad 5)) dX7_undo_1 iX7_undo_X7 0 rfl rfl 7 (by decide) (zwi 1 rfl) rfl 4 rfl ?_
  refine v_bipush h dX7_undo_4 54 rfl 6 rfl ?_
  refine v_iald h (f := v.2.2.2.2.2.2.2.1) dX7_undo_6 5 0 rfl rfl zi_54_407 7 rfl ?_
  refine v_if_ne h dX7_undo_7 13 (by decide) 10 rfl (fun c1 => ?_) (fun c1 => ?_)
  · replace hf := zf c1 hf
    refine v_aload_n h dX7_undo_13 0 rfl 14 rfl ?_
    refine v_get h (v := .ref (ad 5)) dX7_undo_14 iX7_undo_X7 0 rfl rfl 7 (by decide) (zwi 1 rfl) rfl 17 rfl ?_
    refine v_bipush h dX7_undo_17 54 rfl 19 rfl ?_
    refine v_dup2 h dX7_undo_19 rfl rfl 20 rfl ?_
    refine v_iald h (f := v.2.2.2.2.2.2.2.1) dX7_undo_20 5 0 rfl rfl zi_54_407 21 rfl ?_
    refine v_iconst h dX7_undo_21 1 rfl 22 rfl ?_
    refine v_isub h dX7_undo_22 23 rfl ?_
    refine v_iast h (f := v.2.2.2.2.2.2.2.1) dX7_undo_23 5 0 rfl rfl zi_54_407 (wM ca ad (v.1, v.2.1, v.2.2.1, v.2.2.2.1, v.2.2.2.2.1, v.2.2.2.2.2.1, v.2.2.2.2.2.2.1, (zpt v.2.2.2.2.2.2.2.1 54 ((zgt v.2.2.2.2.2.2.2.1 54) - 1)), v.2.2.2.2.2.2.2.2)) rfl 24 rfl ?_
    refine v_aload_n h dX7_undo_24 0 rfl 25 rfl ?_
    refine v_get h (v := .ref (ad 5)) dX7_undo_25 iX7_undo_X7 0 rfl rfl 7 (by decide) (zwi 1 rfl) rfl 28 rfl ?_
    refine v_bipush h dX7_undo_28 55 rfl 30 rfl ?_
    refine v_bipush h dX7_undo_30 44 rfl 32 rfl ?_
    refine v_aload_n h dX7_undo_32 0 rfl 33 rfl ?_
    refine v_get h (v := .ref (ad 5)) dX7_undo_33 iX7_undo_X7 0 rfl rfl 7 (by decide) (zwi 1 rfl) rfl 36 rfl ?_
    refine v_bipush h dX7_undo_36 54 rfl 38 rfl ?_
    refine v_iald h (f := (zpt v.2.2.2.2.2.2.2.1 54 ((zgt v.2.2.2.2.2.2.2.1 54) - 1))) dX7_undo_38 5 0 rfl rfl zi_54_407 39 rfl ?_
    refine v_imul h dX7_undo_39 40 rfl ?_
    refine v_iadd h dX7_undo_40 41 rfl ?_
    refine v_aload_n h dX7_undo_41 0 rfl 42 rfl ?_
    refine v_get h (v := .ref (ad 5)) dX7_undo_42 iX7_undo_X7 0 rfl rfl 7 (by decide) (zwi 1 rfl) rfl 45 rfl ?_
    refine v_iconst h dX7_undo_45 0 rfl 46 rfl ?_
    refine v_bipush h dX7_undo_46 44 rfl 48 rfl ?_
    obtain ⟨u2, hu2, hf⟩ := zb hf
    refine v_callSv h (rest := []) dX7_undo_48 (tX7_bringS l G ca (ad 5) (zpt v.2.2.2.2.2.2.2.1 54 ((zgt v.2.2.2.2.2.2.2.1 54) - 1)) (55 + (44 * (zgt (zpt v.2.2.2.2.2.2.2.1 54 ((zgt v.2.2.2.2.2.2.2.1 54) - 1)) 54))) 0 44 hu2) gX7_undo_X7_bring rfl ⟨rfl, rfl⟩ nX7_bring ⟨Nat.le_of_ble_eq_true rfl, Nat.le_of_ble_eq_true rfl⟩ [5] rfl rfl rfl rfl (Nat.le_of_ble_eq_true rfl) ⟨Nat.zero_le _, Nat.zero_le _⟩ rfl (wM ca ad (v.1, v.2.1, v.2.2.1, v.2.2.2.1, v.2.2.2.2.1, v.2.2.2.2.2.1, v.2.2.2.2.2.2.1, u2, v.2.2.2.2.2.2.2.2)) rfl (wM_adr _ _ _ _) 51 rfl ?_
    refine v_aload_n h dX7_undo_51 0 rfl 52 rfl ?_
    refine v_get h (v := .ref (ad 5)) dX7_undo_52 iX7_undo_X7 0 rfl rfl 7 (by decide) (zwi 1 rfl) rfl 55 rfl ?_
    refine v_bipush h dX7_undo_55 54 rfl 57 rfl ?_
    refine v_iald h (f := u2) dX7_undo_57 5 0 rfl rfl zi_54_407 58 rfl ?_
    cases (Option.some.inj hf)
    exact hE 58 _ rfl dX7_undo_58
  · replace hf := zt c1 hf
    refine v_bipush h dX7_undo_10 (-4) rfl 12 rfl ?_
    cases (Option.some.inj hf)
    exact hE 12 _ rfl dX7_undo_12
abbrev rX7_seed : Room := { frames := 0, cells := 0, slots := 0, locals := 0 }
theorem nX7_seed : zNoMH yX7_seed 1 := ⟨by decide +kernel, by decide +kernel, by decide +kernel⟩
theorem iX7_seed_X7 : ∀ w ∈ wsX70, w ∈ wsX7_seed := fun _ h => (List.mem_cons_of_mem _ (List.mem_append_right _ h))
def fX7_seed (v : MV) (x1 : Int32) : Option (Int32 × zAI) := if 0 ≤ x1 then (some ((zgt v.2.2.2.2.2.2.2.1 1), (zpt v.2.2.2.2.2.2.2.1 1 x1))) else (some ((-1), v.2.2.2.2.2.2.2.1))
set_option maxRecDepth 100000 in
set_option maxHeartbeats 4000000 in
theorem tX7_seed (l : Launch) (G : va_G) (ca : Nat → ClassId) (ad : Nat → Nat) (v : MV) (x1 : Int32) {o : (Int32 × zAI)} (hf : fX7_seed v x1 = some o) : zMi l yX7_seed wsX7_seed rX7_seed G ca [.ref (ad 0), .int x1] (wM ca ad v) o.1 (wM ca ad (v.1, v.2.1, v.2.2.1, v.2.2.2.1, v.2.2.2.2.1, v.2.2.2.2.2.1, v.2.2.2.2.2.2.1, o.2, v.2.2.2.2.2.2.2.2)) := by
  refine zMi.of (cc := cX7_seed) (nL := 3) (own := RX7) (ty := .int) (by decide) rfl rfl (Nat.le_of_ble_eq_true rfl) (fun X h hE => ?_)
  show V X G 3 0 0 (wM ca ad v) 0 [(0, .ref (ad 0)), (1, .int x1)] []
  unfold fX7_seed at hf
  refine v_iload_n h dX7_seed_0 1 rfl 1 rfl ?_
  refine v_if_ge h dX7_seed_1 6 (by decide) 4 rfl (fun c1 => ?_) (fun c1 => ?_)
  · replace hf := zt c1 hf
    refine v_aload_n h dX7_seed_6 0 rfl 7 rfl ?_
    refine v_get h (v := .ref (ad 5)) dX7_seed_7 iX7_seed_X7 0 rfl rfl 7 (by decide) (zwi 1 rfl) rfl 10 rfl ?_
    refine v_iconst h dX7_seed_10 1 rfl 11 rfl ?_
    refine v_iald h (f := v.2.2.2.2.2.2.2.1) dX7_seed_11 5 0 rfl rfl zi_1_407 12 rfl ?_
    refine v_istore_n h dX7_seed_12 (Nat.le_of_ble_eq_true rfl) rfl rfl [(0, .ref (ad 0)), (1, .int x1), (2, .int (zgt v.2.2.2.2.2.2.2.1 1))] rfl 13 rfl ?_
    refine v_aload_n h dX7_seed_13 0 rfl 14 rfl ?_
    refine v_get h (v := .ref (ad 5)) dX7_seed_14 iX7_seed_X7 0 rfl rfl 7 (by decide) (zwi 1 rfl) rfl 17 rfl ?_
    refine v_iconst h dX7_seed_17 1 rfl 18 rfl ?_
    refine v_iload_n h dX7_seed_18 1 rfl 19 rfl ?_
    refine v_iast h (f := v.2.2.2.2.2.2.2.1) dX7_seed_19 5 0 rfl rfl zi_1_407 (wM ca ad (v.1, v.2.1, v.2.2.1, v.2.2.2.1, v.2.2.2.2.1, v.2.2.2.2.2.1, v.2.2.2.2.2.2.1, (zpt v.2.2.2.2.2.2.2.1 1 x1), v.2.2.2.2.2.2.2.2)) rfl 20 rfl ?_
    refine v_iload_n h dX7_seed_20 2 rfl 21 rfl ?_
    cases (Option.some.inj hf)
    exact hE 21 _ rfl dX7_seed_21
  · replace hf := zf c1 hf
    refine v_iconst h dX7_seed_4 (-1) rfl 5 rfl ?_
    cases (Option.some.inj hf)
    exact hE 5 _ rfl dX7_seed_5
