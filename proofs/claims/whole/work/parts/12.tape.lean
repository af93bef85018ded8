abbrev rX6_outside : Room := { frames := 0, cells := 0, slots := 0, locals := 0 }
theorem nX6_outside : zNoMH yX6_outside 3 := ⟨by decide +kernel, by decide +kernel, by decide +kernel⟩
def fX6_outside (x0 : Int32) (x1 : Int32) (x2 : Int32) : Option Int32 := if x0 < x1 then (some 1) else (if x0 ≤ x2 then (some 0) else (some 1))
set_option maxRecDepth 100000 in
set_option maxHeartbeats 4000000 in
theorem tX6_outside (l : Launch) (G : va_G) (ca : Nat → ClassId)   (x0 : Int32) (x1 : Int32) (x2 : Int32) {o : Int32} (hf : fX6_outside x0 x1 x2 = some o) : zMi l yX6_outside wsX6_outside rX6_outside G ca [.int x0, .int x1, .int x2] ([] : va_W) o ([] : va_W) := by
  refine zMi.of (cc := cX6_outside) (nL := 3) (own := RX6) (ty := .boolean) (by decide) rfl rfl (Nat.le_of_ble_eq_true rfl) (fun X h hE => ?_)
  show V X G 3 0 0 ([] : va_W) 0 [(0, .int x0), (1, .int x1), (2, .int x2)] []
  unfold fX6_outside at hf
  refine v_iload_n h dX6_outside_0 0 rfl 1 rfl ?_
  refine v_iload_n h dX6_outside_1 1 rfl 2 rfl ?_
  refine v_icmp_lt h dX6_outside_2 10 (by decide) 5 rfl (fun c1 => ?_) (fun c1 => ?_)
  · replace hf := zt c1 hf
    refine v_iconst h dX6_outside_10 1 rfl 11 rfl ?_
    refine v_goto h dX6_outside_11 15 (by decide) ?_
    cases (Option.some.inj hf)
    exact hE 15 _ znar1 dX6_outside_15
  · replace hf := zf c1 hf
    refine v_iload_n h dX6_outside_5 0 rfl 6 rfl ?_
    refine v_iload_n h dX6_outside_6 2 rfl 7 rfl ?_
    refine v_icmp_le h dX6_outside_7 14 (by decide) 10 rfl (fun c2 => ?_) (fun c2 => ?_)
    · replace hf := zt c2 hf
      refine v_iconst h dX6_outside_14 0 rfl 15 rfl ?_
      cases (Option.some.inj hf)
      exact hE 15 _ znar0 dX6_outside_15
    · replace hf := zf c2 hf
      refine v_iconst h dX6_outside_10 1 rfl 11 rfl ?_
      refine v_goto h dX6_outside_11 15 (by decide) ?_
      cases (Option.some.inj hf)
      exact hE 15 _ znar1 dX6_outside_15
abbrev rX4_append : Room := { frames := 0, cells := 0, slots := 0, locals := 0 }
theorem nX4_append : zNoMH yX4_append 1 := ⟨by decide +kernel, by decide +kernel, by decide +kernel⟩
theorem iX4_append_X4 : ∀ w ∈ wsX40, w ∈ wsX4_append := fun _ h => (List.mem_cons_of_mem _ (List.mem_append_right _ h))
def fX4_append (v : TV) (x1 : Int32) : Option TV := if 90 ≤ v.2.2.2.1 then (some v) else (zgrd (zix v.2.2.2.1 90) (some ((zptC v.1 v.2.2.2.1 x1), v.2.1, v.2.2.1, (v.2.2.2.1 + 1), v.2.2.2.2)))
set_option maxRecDepth 100000 in
set_option maxHeartbeats 4000000 in
theorem tX4_append (l : Launch) (G : va_G) (ca : Nat → ClassId) (ad : Nat → Nat) (v : TV) (x1 : Int32) {o : TV} (hf : fX4_append v x1 = some o) : zMv l yX4_append wsX4_append rX4_append G ca [.ref (ad 0), .int x1] (wT ca ad v) (wT ca ad o) := by
  refine zMv.of (cc := cX4_append) (nL := 2) (own := RX4) (by decide) rfl rfl (Nat.le_of_ble_eq_true rfl) (fun X h hE => ?_)
  show V X G 2 0 0 (wT ca ad v) 0 [(0, .ref (ad 0)), (1, .int x1)] []
  unfold fX4_append at hf
  refine v_aload_n h dX4_append_0 0 rfl 1 rfl ?_
  refine v_get h (v := .int v.2.2.2.1) dX4_append_1 iX4_append_X4 0 rfl rfl 3 (by decide) (zwi 1 rfl) rfl 4 rfl ?_
  refine v_bipush h dX4_append_4 90 rfl 6 rfl ?_
  refine v_icmp_ge h dX4_append_6 29 (by decide) 9 rfl (fun c1 => ?_) (fun c1 => ?_)
  · replace hf := zt c1 hf
    cases (Option.some.inj hf)
    exact hE 29 _ dX4_append_29
  · replace hf := zf c1 hf
    refine v_aload_n h dX4_append_9 0 rfl 10 rfl ?_
    refine v_get h (v := .ref (ad 1)) dX4_append_10 iX4_append_X4 0 rfl rfl 0 (by decide) (zwi 2 rfl) rfl 13 rfl ?_
    refine v_aload_n h dX4_append_13 0 rfl 14 rfl ?_
    refine v_get h (v := .int v.2.2.2.1) dX4_append_14 iX4_append_X4 0 rfl rfl 3 (by decide) (zwi 1 rfl) rfl 17 rfl ?_
    refine v_iload_n h dX4_append_17 1 rfl 18 rfl ?_
    obtain ⟨g2, hf⟩ := zg hf
    refine v_cast h (f := v.1) dX4_append_18 1 2 rfl rfl (zix_in g2) (wT ca ad ((zptC v.1 v.2.2.2.1 x1), v.2)) rfl 19 rfl ?_
    refine v_aload_n h dX4_append_19 0 rfl 20 rfl ?_
    refine v_dup h dX4_append_20 rfl 21 rfl ?_
    refine v_get h (v := .int v.2.2.2.1) dX4_append_21 iX4_append_X4 0 rfl rfl 3 (by decide) (zwi 1 rfl) rfl 24 rfl ?_
    refine v_iconst h dX4_append_24 1 rfl 25 rfl ?_
    refine v_iadd h dX4_append_25 26 rfl ?_
    refine v_put h dX4_append_26 iX4_append_X4 tyX4 tyX4_ok nmX4 0 rfl rfl 3 (by decide) (zwi 1 rfl) rfl rfl rfl (Nat.le_of_ble_eq_true rfl) (wT ca ad ((zptC v.1 v.2.2.2.1 x1), v.2.1, v.2.2.1, (v.2.2.2.1 + 1), v.2.2.2.2)) rfl 29 rfl ?_
    cases (Option.some.inj hf)
    exact hE 29 _ dX4_append_29
abbrev rX4_skipBlanks : Room := { frames := 0, cells := 0, slots := 0, locals := 0 }
theorem nX4_skipBlanks : zNoMH yX4_skipBlanks 0 := ⟨by decide +kernel, by decide +kernel, by decide +kernel⟩
theorem iX4_skipBlanks_X4 : ∀ w ∈ wsX40, w ∈ wsX4_skipBlanks := fun _ h => (List.mem_cons_of_mem _ (List.mem_append_right _ h))
def fX4_skipBlanks_L0 : Nat → TV → Option TV
  | 0, _ => none
  | n + 1, v => if v.2.2.2.1 ≤ v.2.2.2.2.2.1 then (some v) else (zgrd (zix v.2.2.2.2.2.1 90) (if (zgt v.1 v.2.2.2.2.2.1) = 32 then (fX4_skipBlanks_L0 n (v.1, v.2.1, v.2.2.1, v.2.2.2.1, v.2.2.2.2.1, (v.2.2.2.2.2.1 + 1), v.2.2.2.2.2.2)) else (some v)))
set_option maxRecDepth 100000 in
set_option maxHeartbeats 4000000 in
theorem tX4_skipBlanks_l0 {X : zX} {l : Launch} {G : va_G} {ca : Nat → ClassId} {ad : Nat → Nat} (h : zOk X l G ca cX4_skipBlanks RX4 wsX4_skipBlanks 1 rX4_skipBlanks) : ∀ (n : Nat) (v : TV) (out : TV), fX4_skipBlanks_L0 n v = some out → (V X G 1 0 0 (wT ca ad out) 38 [] []) → V X G 1 0 0 (wT ca ad v) 0 [(0, .ref (ad 0))] [] := by
  intro n
  induction n with
  | zero => intro v out hf; rw [fX4_skipBlanks_L0] at hf; cases hf
  | succ n ih =>
    intro v out hf kx
    rw [fX4_skipBlanks_L0] at hf
    refine v_aload_n h dX4_skipBlanks_0 0 rfl 1 rfl ?_
    refine v_get h (v := .int v.2.2.2.2.2.1) dX4_skipBlanks_1 iX4_skipBlanks_X4 0 rfl rfl 5 (by decide) (zwi 1 rfl) rfl 4 rfl ?_
    refine v_aload_n h dX4_skipBlanks_4 0 rfl 5 rfl ?_
    refine v_get h (v := .int v.2.2.2.1) dX4_skipBlanks_5 iX4_skipBlanks_X4 0 rfl rfl 3 (by decide) (zwi 2 rfl) rfl 8 rfl ?_
    refine v_icmp_ge h dX4_skipBlanks_8 38 (by decide) 11 rfl (fun c1 => ?_) (fun c1 => ?_)
    · replace hf := zt c1 hf
      cases (Option.some.inj hf)
      exact v_sub [] rfl (kx)
    · replace hf := zf c1 hf
      refine v_aload_n h dX4_skipBlanks_11 0 rfl 12 rfl ?_
      refine v_get h (v := .ref (ad 1)) dX4_skipBlanks_12 iX4_skipBlanks_X4 0 rfl rfl 0 (by decide) (zwi 3 rfl) rfl 15 rfl ?_
      refine v_aload_n h dX4_skipBlanks_15 0 rfl 16 rfl ?_
      refine v_get h (v := .int v.2.2.2.2.2.1) dX4_skipBlanks_16 iX4_skipBlanks_X4 0 rfl rfl 5 (by decide) (zwi 1 rfl) rfl 19 rfl ?_
      obtain ⟨g2, hf⟩ := zg hf
      refine v_cald h (f := v.1) dX4_skipBlanks_19 1 2 rfl rfl (zix_in g2) 20 rfl ?_
      refine v_bipush h dX4_skipBlanks_20 32 rfl 22 rfl ?_
      refine v_icmp_ne h dX4_skipBlanks_22 38 (by decide) 25 rfl (fun c3 => ?_) (fun c3 => ?_)
      · replace hf := zf c3 hf
        cases (Option.some.inj hf)
        exact v_sub [] rfl (kx)
      · replace hf := zt c3 hf
        refine v_aload_n h dX4_skipBlanks_25 0 rfl 26 rfl ?_
        refine v_dup h dX4_skipBlanks_26 rfl 27 rfl ?_
        refine v_get h (v := .int v.2.2.2.2.2.1) dX4_skipBlanks_27 iX4_skipBlanks_X4 0 rfl rfl 5 (by decide) (zwi 1 rfl) rfl 30 rfl ?_
        refine v_iconst h dX4_skipBlanks_30 1 rfl 31 rfl ?_
        refine v_iadd h dX4_skipBlanks_31 32 rfl ?_
        refine v_put h dX4_skipBlanks_32 iX4_skipBlanks_X4 tyX4 tyX4_ok nmX4 0 rfl rfl 5 (by decide) (zwi 1 rfl) rfl rfl rfl (Nat.le_of_ble_eq_true rfl) (wT ca ad (v.1, v.2.1, v.2.2.1, v.2.2.2.1, v.2.2.2.2.1, (v.2.2.2.2.2.1 + 1), v.2.2.2.2.2.2)) rfl 35 rfl ?_
        refine v_goto h dX4_skipBlanks_35 0 (by decide) ?_
        exact v_sub [0] rfl (ih (v.1, v.2.1, v.2.2.1, v.2.2.2.1, v.2.2.2.2.1, (v.2.2.2.2.2.1 + 1), v.2.2.2.2.2.2) _ hf kx)
def fX4_skipBlanks (v : TV) : Option TV := ((fX4_skipBlanks_L0 zF v) : Option TV).bind (fun u1 => some u1)
set_option maxRecDepth 100000 in
set_option maxHeartbeats 4000000 in
theorem tX4_skipBlanks (l : Launch) (G : va_G) (ca : Nat → ClassId) (ad : Nat → Nat) (v : TV)  {o : TV} (hf : fX4_skipBlanks v = some o) : zMv l yX4_skipBlanks wsX4_skipBlanks rX4_skipBlanks G ca [.ref (ad 0)] (wT ca ad v) (wT ca ad o) := by
  refine zMv.of (cc := cX4_skipBlanks) (nL := 1) (own := RX4) (by decide) rfl rfl (Nat.le_of_ble_eq_true rfl) (fun X h hE => ?_)
  show V X G 1 0 0 (wT ca ad v) 0 [(0, .ref (ad 0))] []
  unfold fX4_skipBlanks at hf
  obtain ⟨u1, hu1, hf⟩ := zb hf
  refine v_sub [0] rfl ?_
  refine tX4_skipBlanks_l0 h zF v _ hu1 ?_
  cases (Option.some.inj hf)
  exact hE 38 _ dX4_skipBlanks_38
abbrev rX4_digitStandsHere : Room := { frames := 0, cells := 0, slots := 0, locals := 0 }
theorem nX4_digitStandsHere : zNoMH yX4_digitStandsHere 0 := ⟨by decide +kernel, by decide +kernel, by decide +kernel⟩
theorem iX4_digitStandsHere_X4 : ∀ w ∈ wsX40, w ∈ wsX4_digitStandsHere := fun _ h => (List.mem_cons_of_mem _ (List.mem_append_right _ h))
def fX4_digitStandsHere (v : TV) : Option Int32 := if v.2.2.2.1 ≤ v.2.2.2.2.2.1 then (some 0) else (zgrd (zix v.2.2.2.2.2.1 90) (if (zgt v.1 v.2.2.2.2.2.1) < 48 then (some 0) else (if 57 < (zgt v.1 v.2.2.2.2.2.1) then (some 0) else (some 1))))
set_option maxRecDepth 100000 in
set_option maxHeartbeats 4000000 in
theorem tX4_digitStandsHere (l : Launch) (G : va_G) (ca : Nat → ClassId) (ad : Nat → Nat) (v : TV)  {o : Int32} (hf : fX4_digitStandsHere v = some o) : zMi l yX4_digitStandsHere wsX4_digitStandsHere rX4_digitStandsHere G ca [.ref (ad 0)] (wT ca ad v) o (wT ca ad v) := by
  refine zMi.of (cc := cX4_digitStandsHere) (nL := 1) (own := RX4) (ty := .boolean) (by decide) rfl rfl (Nat.le_of_ble_eq_true rfl) (fun X h hE => ?_)
  show V X G 1 0 0 (wT ca ad v) 0 [(0, .ref (ad 0))] []
  unfold fX4_digitStandsHere at hf
  refine v_aload_n h dX4_digitStandsHere_0 0 rfl 1 rfl ?_
  refine v_get h (v := .int v.2.2.2.2.2.1) dX4_digitStandsHere_1 iX4_digitStandsHere_X4 0 rfl rfl 5 (by decide) (zwi 1 rfl) rfl 4 rfl ?_
  refine v_aload_n h dX4_digitStandsHere_4 0 rfl 5 rfl ?_
  refine v_get h (v := .int v.2.2.2.1) dX4_digitStandsHere_5 iX4_digitStandsHere_X4 0 rfl rfl 3 (by decide) (zwi 2 rfl) rfl 8 rfl ?_
  refine v_icmp_ge h dX4_digitStandsHere_8 43 (by decide) 11 rfl (fun c1 => ?_) (fun c1 => ?_)
  · replace hf := zt c1 hf
    refine v_iconst h dX4_digitStandsHere_43 0 rfl 44 rfl ?_
    cases (Option.some.inj hf)
    exact hE 44 _ znar0 dX4_digitStandsHere_44
  · replace hf := zf c1 hf
    refine v_aload_n h dX4_digitStandsHere_11 0 rfl 12 rfl ?_
    refine v_get h (v := .ref (ad 1)) dX4_digitStandsHere_12 iX4_digitStandsHere_X4 0 rfl rfl 0 (by decide) (zwi 3 rfl) rfl 15 rfl ?_
    refine v_aload_n h dX4_digitStandsHere_15 0 rfl 16 rfl ?_
    refine v_get h (v := .int v.2.2.2.2.2.1) dX4_digitStandsHere_16 iX4_digitStandsHere_X4 0 rfl rfl 5 (by decide) (zwi 1 rfl) rfl 19 rfl ?_
    obtain ⟨g2, hf⟩ := zg hf
    refine v_cald h (f := v.1) dX4_digitStandsHere_19 1 2 rfl rfl (zix_in g2) 20 rfl ?_
    refine v_bipush h dX4_digitStandsHere_20 48 rfl 22 rfl ?_
    refine v_icmp_lt h dX4_digitStandsHere_22 43 (by decide) 25 rfl (fun c3 => ?_) (fun c3 => ?_)
    · replace hf := zt c3 hf
      refine v_iconst h dX4_digitStandsHere_43 0 rfl 44 rfl ?_
      cases (Option.some.inj hf)
      exact hE 44 _ znar0 dX4_digitStandsHere_44
    · replace hf := zf c3 hf
      refine v_aload_n h dX4_digitStandsHere_25 0 rfl 26 rfl ?_
      refine v_get h (v := .ref (ad 1)) dX4_digitStandsHere_26 iX4_digitStandsHere_X4 0 rfl rfl 0 (by decide) (zwi 3 rfl) rfl 29 rfl ?_
      refine v_aload_n h dX4_digitStandsHere_29 0 rfl 30 rfl ?_
      refine v_get h (v := .int v.2.2.2.2.2.1) dX4_digitStandsHere_30 iX4_digitStandsHere_X4 0 rfl rfl 5 (by decide) (zwi 1 rfl) rfl 33 rfl ?_
      refine v_cald h (f := v.1) dX4_digitStandsHere_33 1 2 rfl rfl (zix_in g2) 34 rfl ?_
      refine v_bipush h dX4_digitStandsHere_34 57 rfl 36 rfl ?_
      refine v_icmp_gt h dX4_digitStandsHere_36 43 (by decide) 39 rfl (fun c4 => ?_) (fun c4 => ?_)
      · replace hf := zt c4 hf
        refine v_iconst h dX4_digitStandsHere_43 0 rfl 44 rfl ?_
        cases (Option.some.inj hf)
        exact hE 44 _ znar0 dX4_digitStandsHere_44
      · replace hf := zf c4 hf
        refine v_iconst h dX4_digitStandsHere_39 1 rfl 40 rfl ?_
        refine v_goto h dX4_digitStandsHere_40 44 (by decide) ?_
        cases (Option.some.inj hf)
        exact hE 44 _ znar1 dX4_digitStandsHere_44
abbrev rX4_readDigit : Room := { frames := 1, cells := 0, slots := 0, locals := 20 }
theorem nX4_readDigit : zNoMH yX4_readDigit 0 := ⟨by decide +kernel, by decide +kernel, by decide +kernel⟩
theorem iX4_readDigit_X4 : ∀ w ∈ wsX40, w ∈ wsX4_readDigit := fun _ h => (List.mem_cons_of_mem _ (List.mem_append_right _ h))
def fX4_readDigit (v : TV) : Option (Int32 × TV) := ((fX4_skipBlanks v) : Option TV).bind (fun u1 => ((fX4_digitStandsHere u1) : Option Int32).bind (fun u2 => if u2 = 0 then (some (0, (u1.1, u1.2.1, u1.2.2.1, u1.2.2.2.1, u1.2.2.2.2.1, u1.2.2.2.2.2.1, u1.2.2.2.2.2.1))) else (zgrd (zix u1.2.2.2.2.2.1 90) (some (((zgt u1.1 u1.2.2.2.2.2.1) - 48), (u1.1, u1.2.1, u1.2.2.1, u1.2.2.2.1, u1.2.2.2.2.1, (u1.2.2.2.2.2.1 + 1), u1.2.2.2.2.2.2))))))
set_option maxRecDepth 100000 in
set_option maxHeartbeats 4000000 in
theorem tX4_readDigit (l : Launch) (G : va_G) (ca : Nat → ClassId) (ad : Nat → Nat) (v : TV)  {o : (Int32 × TV)} (hf : fX4_readDigit v = some o) : zMi l yX4_readDigit wsX4_readDigit rX4_readDigit G ca [.ref (ad 0)] (wT ca ad v) o.1 (wT ca ad o.2) := by
  refine zMi.of (cc := cX4_readDigit) (nL := 2) (own := RX4) (ty := .int) (by decide) rfl rfl (Nat.le_of_ble_eq_true rfl) (fun X h hE => ?_)
  show V X G 2 0 0 (wT ca ad v) 0 [(0, .ref (ad 0))] []
  unfold fX4_readDigit at hf
  refine v_aload_n h dX4_readDigit_0 0 rfl 1 rfl ?_
  obtain ⟨u1, hu1, hf⟩ := zb hf
  refine v_wcallVv h (rest := []) dX4_readDigit_1 (tX4_skipBlanks l G ca ad v  hu1) gX4_readDigit_X4_skipBlanks rfl rfl ⟨rfl, rfl⟩ nX4_skipBlanks ⟨Nat.le_of_ble_eq_true rfl, Nat.le_of_ble_eq_true rfl⟩ 0 rfl rfl rfl rfl (Nat.le_of_ble_eq_true rfl) ⟨Nat.zero_le _, Nat.zero_le _⟩ (wT_adr _ _ _ _) 4 rfl ?_
  refine v_aload_n h dX4_readDigit_4 0 rfl 5 rfl ?_
  obtain ⟨u2, hu2, hf⟩ := zb hf
  refine v_wcallVi h (rest := []) dX4_readDigit_5 (tX4_digitStandsHere l G ca ad u1  hu2) gX4_readDigit_X4_digitStandsHere rfl rfl ⟨rfl, rfl⟩ nX4_digitStandsHere ⟨Nat.le_of_ble_eq_true rfl, Nat.le_of_ble_eq_true rfl⟩ 0 rfl rfl rfl rfl (Nat.le_of_ble_eq_true rfl) ⟨Nat.zero_le _, Nat.zero_le _⟩ (wT_adr _ _ _ _) 8 rfl ?_
  refine v_if_ne h dX4_readDigit_8 21 (by decide) 11 rfl (fun c3 => ?_) (fun c3 => ?_)
  · replace hf := zf c3 hf
    refine v_aload_n h dX4_readDigit_21 0 rfl 22 rfl ?_
    refine v_get h (v := .ref (ad 1)) dX4_readDigit_22 iX4_readDigit_X4 0 rfl rfl 0 (by decide) (zwi 3 rfl) rfl 25 rfl ?_
    refine v_aload_n h dX4_readDigit_25 0 rfl 26 rfl ?_
    refine v_get h (v := .int u1.2.2.2.2.2.1) dX4_readDigit_26 iX4_readDigit_X4 0 rfl rfl 5 (by decide) (zwi 1 rfl) rfl 29 rfl ?_
    obtain ⟨g4, hf⟩ := zg hf
    refine v_cald h (f := u1.1) dX4_readDigit_29 1 2 rfl rfl (zix_in g4) 30 rfl ?_
    refine v_bipush h dX4_readDigit_30 48 rfl 32 rfl ?_
    refine v_isub h dX4_readDigit_32 33 rfl ?_
    refine v_istore_n h dX4_readDigit_33 (Nat.le_of_ble_eq_true rfl) rfl rfl [(0, .ref (ad 0)), (1, .int ((zgt u1.1 u1.2.2.2.2.2.1) - 48))] rfl 34 rfl ?_
    refine v_aload_n h dX4_readDigit_34 0 rfl 35 rfl ?_
    refine v_dup h dX4_readDigit_35 rfl 36 rfl ?_
    refine v_get h (v := .int u1.2.2.2.2.2.1) dX4_readDigit_36 iX4_readDigit_X4 0 rfl rfl 5 (by decide) (zwi 1 rfl) rfl 39 rfl ?_
    refine v_iconst h dX4_readDigit_39 1 rfl 40 rfl ?_
    refine v_iadd h dX4_readDigit_40 41 rfl ?_
    refine v_put h dX4_readDigit_41 iX4_readDigit_X4 tyX4 tyX4_ok nmX4 0 rfl rfl 5 (by decide) (zwi 1 rfl) rfl rfl rfl (Nat.le_of_ble_eq_true rfl) (wT ca ad (u1.1, u1.2.1, u1.2.2.1, u1.2.2.2.1, u1.2.2.2.2.1, (u1.2.2.2.2.2.1 + 1), u1.2.2.2.2.2.2)) rfl 44 rfl ?_
    refine v_iload_n h dX4_readDigit_44 1 rfl 45 rfl ?_
    cases (Option.some.inj hf)
    exact hE 45 _ rfl dX4_readDigit_45
  · replace hf := zt c3 hf
    refine v_aload_n h dX4_readDigit_11 0 rfl 12 rfl ?_
    refine v_aload_n h dX4_readDigit_12 0 rfl 13 rfl ?_
    refine v_get h (v := .int u1.2.2.2.2.2.1) dX4_readDigit_13 iX4_readDigit_X4 0 rfl rfl 5 (by decide) (zwi 1 rfl) rfl 16 rfl ?_
    refine v_put h dX4_readDigit_16 iX4_readDigit_X4 tyX4 tyX4_ok nmX4 0 rfl rfl 6 (by decide) (zwi 2 rfl) rfl rfl rfl (Nat.le_of_ble_eq_true rfl) (wT ca ad (u1.1, u1.2.1, u1.2.2.1, u1.2.2.2.1, u1.2.2.2.2.1, u1.2.2.2.2.2.1, u1.2.2.2.2.2.1)) rfl 19 rfl ?_
    refine v_iconst h dX4_readDigit_19 0 rfl 20 rfl ?_
    cases (Option.some.inj hf)
    exact hE 20 _ rfl dX4_readDigit_20
abbrev rX4_readNumber : Room := { frames := 2, cells := 0, slots := 0, locals := 41 }
theorem nX4_readNumber : zNoMH yX4_readNumber 2 := ⟨by decide +kernel, by decide +kernel, by decide +kernel⟩
theorem iX4_readNumber_X4 : ∀ w ∈ wsX40, w ∈ wsX4_readNumber := fun _ h => (List.mem_cons_of_mem _ (List.mem_append_right _ h))
def fX4_readNumber (v : TV) (x1 : Int32) (x2 : Int32) : Option (Int32 × TV) := ((fX4_skipBlanks v) : Option TV).bind (fun u1 => ((fX4_readDigit u1) : Option (Int32 × TV)).bind (fun u2 => if 0 ≤ u2.2.2.2.2.2.2.2 then (if 0 ≤ u2.2.2.2.2.2.2.2 then (some (u2.1, u2.2)) else (((fX6_outside u2.1 x1 x2) : Option Int32).bind (fun u5 => if u5 = 0 then (some (u2.1, u2.2)) else (some (u2.1, (u2.2.1, u2.2.2.1, u2.2.2.2.1, u2.2.2.2.2.1, u2.2.2.2.2.2.1, u2.2.2.2.2.2.2.1, u1.2.2.2.2.2.1)))))) else (((fX4_digitStandsHere u2.2) : Option Int32).bind (fun u7 => if u7 = 0 then (if 0 ≤ u2.2.2.2.2.2.2.2 then (some (u2.1, u2.2)) else (((fX6_outside u2.1 x1 x2) : Option Int32).bind (fun u10 => if u10 = 0 then (some (u2.1, u2.2)) else (some (u2.1, (u2.2.1, u2.2.2.1, u2.2.2.2.1, u2.2.2.2.2.1, u2.2.2.2.2.2.1, u2.2.2.2.2.2.2.1, u1.2.2.2.2.2.1)))))) else (((fX4_readDigit u2.2) : Option (Int32 × TV)).bind (fun u12 => if 0 ≤ u12.2.2.2.2.2.2.2 then (some (((10 * u2.1) + u12.1), u12.2)) else (((fX6_outside ((10 * u2.1) + u12.1) x1 x2) : Option Int32).bind (fun u14 => if u14 = 0 then (some (((10 * u2.1) + u12.1), u12.2)) else (some (((10 * u2.1) + u12.1), (u12.2.1, u12.2.2.1, u12.2.2.2.1, u12.2.2.2.2.1, u12.2.2.2.2.2.1, u12.2.2.2.2.2.2.1, u1.2.2.2.2.2.1)))))))))))
set_option maxRecDepth 100000 in
set_option maxHeartbeats 4000000 in
theorem tX4_readNumber (l : Launch) (G : va_G) (ca : Nat → ClassId) (ad : Nat → Nat) (v : TV) (x1 : Int32) (x2 : Int32) {o : (Int32 × TV)} (hf : fX4_readNumber v x1 x2 = some o) : zMi l yX4_readNumber wsX4_readNumber rX4_readNumber G ca [.ref (ad 0), .int x1, .int x2] (wT ca ad v) o.1 (wT ca ad o.2) := by
  refine zMi.of (cc := cX4_readNumber) (nL := 5) (own := RX4) (ty := .int) (by decide) rfl rfl (Nat.le_of_ble_eq_true rfl) (fun X h hE => ?_)
  show V X G 5 0 0 (wT ca ad v) 0 [(0, .ref (ad 0)), (1, .int x1), (2, .int x2)] []
  unfold fX4_readNumber at hf
  refine v_aload_n h dX4_readNumber_0 0 rfl 1 rfl ?_
  obtain ⟨u1, hu1, hf⟩ := zb hf
  refine v_wcallVv h (rest := []) dX4_readNumber_1 (tX4_skipBlanks l G ca ad v  hu1) gX4_readNumber_X4_skipBlanks rfl rfl ⟨rfl, rfl⟩ nX4_skipBlanks ⟨Nat.le_of_ble_eq_true rfl, Nat.le_of_ble_eq_true rfl⟩ 0 rfl rfl rfl rfl (Nat.le_of_ble_eq_true rfl) ⟨Nat.zero_le _, Nat.zero_le _⟩ (wT_adr _ _ _ _) 4 rfl ?_
  refine v_aload_n h dX4_readNumber_4 0 rfl 5 rfl ?_
  refine v_get h (v := .int u1.2.2.2.2.2.1) dX4_readNumber_5 iX4_readNumber_X4 0 rfl rfl 5 (by decide) (zwi 1 rfl) rfl 8 rfl ?_
  refine v_istore_n h dX4_readNumber_8 (Nat.le_of_ble_eq_true rfl) rfl rfl [(0, .ref (ad 0)), (1, .int x1), (2, .int x2), (3, .int u1.2.2.2.2.2.1)] rfl 9 rfl ?_
  refine v_aload_n h dX4_readNumber_9 0 rfl 10 rfl ?_
  obtain ⟨u2, hu2, hf⟩ := zb hf
  refine v_wcallVi h (rest := []) dX4_readNumber_10 (tX4_readDigit l G ca ad u1  hu2) gX4_readNumber_X4_readDigit rfl rfl ⟨rfl, rfl⟩ nX4_readDigit ⟨Nat.le_of_ble_eq_true rfl, Nat.le_of_ble_eq_true rfl⟩ 0 rfl rfl rfl rfl (Nat.le_of_ble_eq_true rfl) ⟨Nat.zero_le _, Nat.zero_le _⟩ (wT_adr _ _ _ _) 13 rfl ?_
  refine v_istore h dX4_readNumber_13 (Nat.le_of_ble_eq_true rfl) rfl rfl [(0, .ref (ad 0)), (1, .int x1), (2, .int x2), (3, .int u1.2.2.2.2.2.1), (4, .int u2.1)] rfl 15 rfl ?_
  refine v_aload_n h dX4_readNumber_15 0 rfl 16 rfl ?_
  refine v_get h (v := .int u2.2.2.2.2.2.2.2) dX4_readNumber_16 iX4_readNumber_X4 0 rfl rfl 6 (by decide) (zwi 2 rfl) rfl 19 rfl ?_
  refine v_if_ge h dX4_readNumber_19 41 (by decide) 22 rfl (fun c3 => ?_) (fun c3 => ?_)
  · replace hf := zt c3 hf
    refine v_aload_n h dX4_readNumber_41 0 rfl 42 rfl ?_
    refine v_get h (v := .int u2.2.2.2.2.2.2.2) dX4_readNumber_42 iX4_readNumber_X4 0 rfl rfl 6 (by decide) (zwi 2 rfl) rfl 45 rfl ?_
    refine v_if_ge h dX4_readNumber_45 63 (by decide) 48 rfl (fun c4 => ?_) (fun c4 => ?_)
    · replace hf := zt c4 hf
      refine v_iload h dX4_readNumber_63 4 rfl 65 rfl ?_
      cases (Option.some.inj hf)
      exact hE 65 _ rfl dX4_readNumber_65
    · replace hf := zf c4 hf
      refine v_iload h dX4_readNumber_48 4 rfl 50 rfl ?_
      refine v_iload_n h dX4_readNumber_50 1 rfl 51 rfl ?_
      refine v_iload_n h dX4_readNumber_51 2 rfl 52 rfl ?_
      obtain ⟨u5, hu5, hf⟩ := zb hf
      refine v_callNi h (rest := []) dX4_readNumber_52 (tX6_outside l G ca   u2.1 x1 x2 hu5) gX4_readNumber_X6_outside_n80 (host := "ThatchCoats") (List.mem_of_getElem? (i := 8) rfl) (zwi 18 rfl) (zwi 19 rfl) rfl ⟨rfl, rfl⟩ nX6_outside ⟨Nat.le_of_ble_eq_true rfl, Nat.le_of_ble_eq_true rfl⟩ [] rfl rfl rfl rfl (Nat.le_of_ble_eq_true rfl) ⟨Nat.zero_le _, Nat.zero_le _⟩ rfl (wT ca ad u2.2) rfl (wT_adr _ _ _ _) 55 rfl ?_
      refine v_if_eq h dX4_readNumber_55 63 (by decide) 58 rfl (fun c6 => ?_) (fun c6 => ?_)
      · replace hf := zt c6 hf
        refine v_iload h dX4_readNumber_63 4 rfl 65 rfl ?_
        cases (Option.some.inj hf)
        exact hE 65 _ rfl dX4_readNumber_65
      · replace hf := zf c6 hf
        refine v_aload_n h dX4_readNumber_58 0 rfl 59 rfl ?_
        refine v_iload_n h dX4_readNumber_59 3 rfl 60 rfl ?_
        refine v_put h dX4_readNumber_60 iX4_readNumber_X4 tyX4 tyX4_ok nmX4 0 rfl rfl 6 (by decide) (zwi 2 rfl) rfl rfl rfl (Nat.le_of_ble_eq_true rfl) (wT ca ad (u2.2.1, u2.2.2.1, u2.2.2.2.1, u2.2.2.2.2.1, u2.2.2.2.2.2.1, u2.2.2.2.2.2.2.1, u1.2.2.2.2.2.1)) rfl 63 rfl ?_
        refine v_iload h dX4_readNumber_63 4 rfl 65 rfl ?_
        cases (Option.some.inj hf)
        exact hE 65 _ rfl dX4_readNumber_65
  · replace hf := zf c3 hf
    refine v_aload_n h dX4_readNumber_22 0 rfl 23 rfl ?_
    obtain ⟨u7, hu7, hf⟩ := zb hf
    refine v_wcallVi h (rest := []) dX4_readNumber_23 (tX4_digitStandsHere l G ca ad u2.2  hu7) gX4_readNumber_X4_digitStandsHere rfl rfl ⟨rfl, rfl⟩ nX4_digitStandsHere ⟨Nat.le_of_ble_eq_true rfl, Nat.le_of_ble_eq_true rfl⟩ 0 rfl rfl rfl rfl (Nat.le_of_ble_eq_true rfl) ⟨Nat.zero_le _, Nat.zero_le _⟩ (wT_adr _ _ _ _) 26 rfl ?_
    refine v_if_eq h dX4_readNumber_26 41 (by decide) 29 rfl (fun c8 => ?_) (fun c8 => ?_)
    · replace hf := zt c8 hf
      refine v_aload_n h dX4_readNumber_41 0 rfl 42 rfl ?_
      refine v_get h (v := .int u2.2.2.2.2.2.2.2) dX4_readNumber_42 iX4_readNumber_X4 0 rfl rfl 6 (by decide) (zwi 2 rfl) rfl 45 rfl ?_
      refine v_if_ge h dX4_readNumber_45 63 (by decide) 48 rfl (fun c9 => ?_) (fun c9 => ?_)
      · replace hf := zt c9 hf
        refine v_iload h dX4_readNumber_63 4 rfl 65 rfl ?_
        cases (Option.some.inj hf)
        exact hE 65 _ rfl dX4_readNumber_65
      · replace hf := zf c9 hf
        refine v_iload h dX4_readNumber_48 4 rfl 50 rfl ?_
        refine v_iload_n h dX4_readNumber_50 1 rfl 51 rfl ?_
        refine v_iload_n h dX4_readNumber_51 2 rfl 52 rfl ?_
        obtain ⟨u10, hu10, hf⟩ := zb hf
        refine v_callNi h (rest := []) dX4_readNumber_52 (tX6_outside l G ca   u2.1 x1 x2 hu10) gX4_readNumber_X6_outside_n80 (host := "ThatchCoats") (List.mem_of_getElem? (i := 8) rfl) (zwi 18 rfl) (zwi 19 rfl) rfl ⟨rfl, rfl⟩ nX6_outside ⟨Nat.le_of_ble_eq_true rfl, Nat.le_of_ble_eq_true rfl⟩ [] rfl rfl rfl rfl (Nat.le_of_ble_eq_true rfl) ⟨Nat.zero_le _, Nat.zero_le _⟩ rfl (wT ca ad u2.2) rfl (wT_adr _ _ _ _) 55 rfl ?_
        refine v_if_eq h dX4_readNumber_55 63 (by decide) 58 rfl (fun c11 => ?_) (fun c11 => ?_)
        · replace hf := zt c11 hf
          refine v_iload h dX4_readNumber_63 4 rfl 65 rfl ?_
          cases (Option.some.inj hf)
          exact hE 65 _ rfl dX4_readNumber_65
        · replace hf := zf c11 hf
          refine v_aload_n h dX4_readNumber_58 0 rfl 59 rfl ?_
          refine v_iload_n h dX4_readNumber_59 3 rfl 60 rfl ?_
          refine v_put h dX4_readNumber_60 iX4_readNumber_X4 tyX4 tyX4_ok nmX4 0 rfl rfl 6 (by decide) (zwi 2 rfl) rfl rfl rfl (Nat.le_of_ble_eq_true rfl) (wT ca ad (u2.2.1, u2.2.2.1, u2.2.2.2.1, u2.2.2.2.2.1, u2.2.2.2.2.2.1, u2.2.2.2.2.2.2.1, u1.2.2.2.2.2.1)) rfl 63 rfl ?_
          refine v_iload h dX4_readNumber_63 4 rfl 65 rfl ?_
          cases (Option.some.inj hf)
          exact hE 65 _ rfl dX4_readNumber_65
    · replace hf := zf c8 hf
      refine v_bipush h dX4_readNumber_29 10 rfl 31 rfl ?_
      refine v_iload h dX4_readNumber_31 4 rfl 33 rfl ?_
      refine v_imul h dX4_readNumber_33 34 rfl ?_
      refine v_aload_n h dX4_readNumber_34 0 rfl 35 rfl ?_
      obtain ⟨u12, hu12, hf⟩ := zb hf
      refine v_wcallVi h (rest := [.int (10 * u2.1)]) dX4_readNumber_35 (tX4_readDigit l G ca ad u2.2  hu12) gX4_readNumber_X4_readDigit rfl rfl ⟨rfl, rfl⟩ nX4_readDigit ⟨Nat.le_of_ble_eq_true rfl, Nat.le_of_ble_eq_true rfl⟩ 0 rfl rfl rfl rfl (Nat.le_of_ble_eq_true rfl) ⟨Nat.zero_le _, Nat.zero_le _⟩ (wT_adr _ _ _ _) 38 rfl ?_
      refine v_iadd h dX4_readNumber_38 39 rfl ?_
      refine v_istore h dX4_readNumber_39 (Nat.le_of_ble_eq_true rfl) rfl rfl [(0, .ref (ad 0)), (1, .int x1), (2, .int x2), (3, .int u1.2.2.2.2.2.1), (4, .int ((10 * u2.1) + u12.1))] rfl 41 rfl ?_
      refine v_aload_n h dX4_readNumber_41 0 rfl 42 rfl ?_
      refine v_get h (v := .int u12.2.2.2.2.2.2.2) dX4_readNumber_42 iX4_readNumber_X4 0 rfl rfl 6 (by decide) (zwi 2 rfl) rfl 45 rfl ?_
      refine v_if_ge h dX4_readNumber_45 63 (by decide) 48 rfl (fun c13 => ?_) (fun c13 => ?_)
      · replace hf := zt c13 hf
        refine v_iload h dX4_readNumber_63 4 rfl 65 rfl ?_
        cases (Option.some.inj hf)
        exact hE 65 _ rfl dX4_readNumber_65
      · replace hf := zf c13 hf
        refine v_iload h dX4_readNumber_48 4 rfl 50 rfl ?_
        refine v_iload_n h dX4_readNumber_50 1 rfl 51 rfl ?_
        refine v_iload_n h dX4_readNumber_51 2 rfl 52 rfl ?_
        obtain ⟨u14, hu14, hf⟩ := zb hf
        refine v_callNi h (rest := []) dX4_readNumber_52 (tX6_outside l G ca   ((10 * u2.1) + u12.1) x1 x2 hu14) gX4_readNumber_X6_outside_n80 (host := "ThatchCoats") (List.mem_of_getElem? (i := 8) rfl) (zwi 18 rfl) (zwi 19 rfl) rfl ⟨rfl, rfl⟩ nX6_outside ⟨Nat.le_of_ble_eq_true rfl, Nat.le_of_ble_eq_true rfl⟩ [] rfl rfl rfl rfl (Nat.le_of_ble_eq_true rfl) ⟨Nat.zero_le _, Nat.zero_le _⟩ rfl (wT ca ad u12.2) rfl (wT_adr _ _ _ _) 55 rfl ?_
        refine v_if_eq h dX4_readNumber_55 63 (by decide) 58 rfl (fun c15 => ?_) (fun c15 => ?_)
        · replace hf := zt c15 hf
          refine v_iload h dX4_readNumber_63 4 rfl 65 rfl ?_
          cases (Option.some.inj hf)
          exact hE 65 _ rfl dX4_readNumber_65
        · replace hf := zf c15 hf
          refine v_aload_n h dX4_readNumber_58 0 rfl 59 rfl ?_
          refine v_iload_n h dX4_readNumber_59 3 rfl 60 rfl ?_
          refine v_put h dX4_readNumber_60 iX4_readNumber_X4 tyX4 tyX4_ok nmX4 0 rfl rfl 6 (by decide) (zwi 2 rfl) rfl rfl rfl (Nat.le_of_ble_eq_true rfl) (wT ca ad (u12.2.1, u12.2.2.1, u12.2.2.2.1, u12.2.2.2.2.1, u12.2.2.2.2.2.1, u12.2.2.2.2.2.2.1, u1.2.2.2.2.2.1)) rfl 63 rfl ?_
          refine v_iload h dX4_readNumber_63 4 rfl 65 rfl ?_
          cases (Option.some.inj hf)
          exact hE 65 _ rfl dX4_readNumber_65
abbrev rX4_takeLetter : Room := { frames := 1, cells := 0, slots := 0, locals := 20 }
theorem nX4_takeLetter : zNoMH yX4_takeLetter 1 := ⟨by decide +kernel, by decide +kernel, by decide +kernel⟩
theorem iX4_takeLetter_X4 : ∀ w ∈ wsX40, w ∈ wsX4_takeLetter := fun _ h => (List.mem_cons_of_mem _ (List.mem_append_right _ h))
def fX4_takeLetter (v : TV) (x1 : Int32) : Option (Int32 × TV) := ((fX4_skipBlanks v) : Option TV).bind (fun u1 => if u1.2.2.2.1 ≤ u1.2.2.2.2.2.1 then (some (0, u1)) else (zgrd (zix u1.2.2.2.2.2.1 90) (if (zgt u1.1 u1.2.2.2.2.2.1) = x1 then (some (1, (u1.1, u1.2.1, u1.2.2.1, u1.2.2.2.1, u1.2.2.2.2.1, (u1.2.2.2.2.2.1 + 1), u1.2.2.2.2.2.2))) else (some (0, u1)))))
set_option maxRecDepth 100000 in
set_option maxHeartbeats 4000000 in
theorem tX4_takeLetter (l : Launch) (G : va_G) (ca : Nat → ClassId) (ad : Nat → Nat) (v : TV) (x1 : Int32) {o : (Int32 × TV)} (hf : fX4_takeLetter v x1 = some o) : zMi l yX4_takeLetter wsX4_takeLetter rX4_takeLetter G ca [.ref (ad 0), .int x1] (wT ca ad v) o.1 (wT ca ad o.2) := by
  refine zMi.of (cc := cX4_takeLetter) (nL := 2) (own := RX4) (ty := .boolean) (by decide) rfl rfl (Nat.le_of_ble_eq_true rfl) (fun X h hE => ?_)
  show V X G 2 0 0 (wT ca ad v) 0 [(0, .ref (ad 0)), (1, .int x1)] []
  unfold fX4_takeLetter at hf
  refine v_aload_n h dX4_takeLetter_0 0 rfl 1 rfl ?_
  obtain ⟨u1, hu1, hf⟩ := zb hf
  refine v_wcallVv h (rest := []) dX4_takeLetter_1 (tX4_skipBlanks l G ca ad v  hu1) gX4_takeLetter_X4_skipBlanks rfl rfl ⟨rfl, rfl⟩ nX4_skipBlanks ⟨Nat.le_of_ble_eq_true rfl, Nat.le_of_ble_eq_true rfl⟩ 0 rfl rfl rfl rfl (Nat.le_of_ble_eq_true rfl) ⟨Nat.zero_le _, Nat.zero_le _⟩ (wT_adr _ _ _ _) 4 rfl ?_
  refine v_aload_n h dX4_takeLetter_4 0 rfl 5 rfl ?_
  refine v_get h (v := .int u1.2.2.2.2.2.1) dX4_takeLetter_5 iX4_takeLetter_X4 0 rfl rfl 5 (by decide) (zwi 1 rfl) rfl 8 rfl ?_
  refine v_aload_n h dX4_takeLetter_8 0 rfl 9 rfl ?_
  refine v_get h (v := .int u1.2.2.2.1) dX4_takeLetter_9 iX4_takeLetter_X4 0 rfl rfl 3 (by decide) (zwi 2 rfl) rfl 12 rfl ?_
  refine v_icmp_ge h dX4_takeLetter_12 28 (by decide) 15 rfl (fun c2 => ?_) (fun c2 => ?_)
  · replace hf := zt c2 hf
    refine v_iconst h dX4_takeLetter_28 0 rfl 29 rfl ?_
    cases (Option.some.inj hf)
    exact hE 29 _ znar0 dX4_takeLetter_29
  · replace hf := zf c2 hf
    refine v_aload_n h dX4_takeLetter_15 0 rfl 16 rfl ?_
    refine v_get h (v := .ref (ad 1)) dX4_takeLetter_16 iX4_takeLetter_X4 0 rfl rfl 0 (by decide) (zwi 3 rfl) rfl 19 rfl ?_
    refine v_aload_n h dX4_takeLetter_19 0 rfl 20 rfl ?_
    refine v_get h (v := .int u1.2.2.2.2.2.1) dX4_takeLetter_20 iX4_takeLetter_X4 0 rfl rfl 5 (by decide) (zwi 1 rfl) rfl 23 rfl ?_
    obtain ⟨g3, hf⟩ := zg hf
    refine v_cald h (f := u1.1) dX4_takeLetter_23 1 2 rfl rfl (zix_in g3) 24 rfl ?_
    refine v_iload_n h dX4_takeLetter_24 1 rfl 25 rfl ?_
    refine v_icmp_eq h dX4_takeLetter_25 30 (by decide) 28 rfl (fun c4 => ?_) (fun c4 => ?_)
    · replace hf := zt c4 hf
      refine v_aload_n h dX4_takeLetter_30 0 rfl 31 rfl ?_
      refine v_dup h dX4_takeLetter_31 rfl 32 rfl ?_
      refine v_get h (v := .int u1.2.2.2.2.2.1) dX4_takeLetter_32 iX4_takeLetter_X4 0 rfl rfl 5 (by decide) (zwi 1 rfl) rfl 35 rfl ?_
      refine v_iconst h dX4_takeLetter_35 1 rfl 36 rfl ?_
      refine v_iadd h dX4_takeLetter_36 37 rfl ?_
      refine v_put h dX4_takeLetter_37 iX4_takeLetter_X4 tyX4 tyX4_ok nmX4 0 rfl rfl 5 (by decide) (zwi 1 rfl) rfl rfl rfl (Nat.le_of_ble_eq_true rfl) (wT ca ad (u1.1, u1.2.1, u1.2.2.1, u1.2.2.2.1, u1.2.2.2.2.1, (u1.2.2.2.2.2.1 + 1), u1.2.2.2.2.2.2)) rfl 40 rfl ?_
      refine v_iconst h dX4_takeLetter_40 1 rfl 41 rfl ?_
      cases (Option.some.inj hf)
      exact hE 41 _ znar1 dX4_takeLetter_41
    · replace hf := zf c4 hf
      refine v_iconst h dX4_takeLetter_28 0 rfl 29 rfl ?_
      cases (Option.some.inj hf)
      exact hE 29 _ znar0 dX4_takeLetter_29
abbrev rX4_readKind : Room := { frames := 2, cells := 0, slots := 0, locals := 41 }
theorem nX4_readKind : zNoMH yX4_readKind 0 := ⟨by decide +kernel, by decide +kernel, by decide +kernel⟩
theorem iX4_readKind_X4 : ∀ w ∈ wsX40, w ∈ wsX4_readKind := fun _ h => (List.mem_cons_of_mem _ (List.mem_append_right _ h))
def fX4_readKind (v : TV) : Option (Int32 × TV) := ((fX4_takeLetter v 114) : Option (Int32 × TV)).bind (fun u1 => if u1.1 = 0 then (((fX4_takeLetter u1.2 119) : Option (Int32 × TV)).bind (fun u3 => if u3.1 = 0 then (((fX4_takeLetter u3.2 115) : Option (Int32 × TV)).bind (fun u5 => if u5.1 = 0 then (((fX4_takeLetter u5.2 121) : Option (Int32 × TV)).bind (fun u7 => if u7.1 = 0 then (((fX4_takeLetter u7.2 116) : Option (Int32 × TV)).bind (fun u9 => if u9.1 = 0 then (some (0, (u9.2.1, u9.2.2.1, u9.2.2.2.1, u9.2.2.2.2.1, u9.2.2.2.2.2.1, u9.2.2.2.2.2.2.1, u9.2.2.2.2.2.2.1))) else (some (4, u9.2)))) else (some (3, u7.2)))) else (some (2, u5.2)))) else (some (1, u3.2)))) else (some (0, u1.2)))
set_option maxRecDepth 100000 in
set_option maxHeartbeats 4000000 in
theorem tX4_readKind (l : Launch) (G : va_G) (ca : Nat → ClassId) (ad : Nat → Nat) (v : TV)  {o : (Int32 × TV)} (hf : fX4_readKind v = some o) : zMi l yX4_readKind wsX4_readKind rX4_readKind G ca [.ref (ad 0)] (wT ca ad v) o.1 (wT ca ad o.2) := by
  refine zMi.of (cc := cX4_readKind) (nL := 1) (own := RX4) (ty := .int) (by decide) rfl rfl (Nat.le_of_ble_eq_true rfl) (fun X h hE => ?_)
  show V X G 1 0 0 (wT ca ad v) 0 [(0, .ref (ad 0))] []
  unfold fX4_readKind at hf
  refine v_aload_n h dX4_readKind_0 0 rfl 1 rfl ?_
  refine v_bipush h dX4_readKind_1 114 rfl 3 rfl ?_
  obtain ⟨u1, hu1, hf⟩ := zb hf
  refine v_wcallVi h (rest := []) dX4_readKind_3 (tX4_takeLetter l G ca ad v 114 hu1) gX4_readKind_X4_takeLetter rfl rfl ⟨rfl, rfl⟩ nX4_takeLetter ⟨Nat.le_of_ble_eq_true rfl, Nat.le_of_ble_eq_true rfl⟩ 0 rfl rfl rfl rfl (Nat.le_of_ble_eq_true rfl) ⟨Nat.zero_le _, Nat.zero_le _⟩ (wT_adr _ _ _ _) 6 rfl ?_
  refine v_if_eq h dX4_readKind_6 11 (by decide) 9 rfl (fun c2 => ?_) (fun c2 => ?_)
  · replace hf := zt c2 hf
    refine v_aload_n h dX4_readKind_11 0 rfl 12 rfl ?_
    refine v_bipush h dX4_readKind_12 119 rfl 14 rfl ?_
    obtain ⟨u3, hu3, hf⟩ := zb hf
    refine v_wcallVi h (rest := []) dX4_readKind_14 (tX4_takeLetter l G ca ad u1.2 119 hu3) gX4_readKind_X4_takeLetter rfl rfl ⟨rfl, rfl⟩ nX4_takeLetter ⟨Nat.le_of_ble_eq_true rfl, Nat.le_of_ble_eq_true rfl⟩ 0 rfl rfl rfl rfl (Nat.le_of_ble_eq_true rfl) ⟨Nat.zero_le _, Nat.zero_le _⟩ (wT_adr _ _ _ _) 17 rfl ?_
    refine v_if_eq h dX4_readKind_17 22 (by decide) 20 rfl (fun c4 => ?_) (fun c4 => ?_)
    · replace hf := zt c4 hf
      refine v_aload_n h dX4_readKind_22 0 rfl 23 rfl ?_
      refine v_bipush h dX4_readKind_23 115 rfl 25 rfl ?_
      obtain ⟨u5, hu5, hf⟩ := zb hf
      refine v_wcallVi h (rest := []) dX4_readKind_25 (tX4_takeLetter l G ca ad u3.2 115 hu5) gX4_readKind_X4_takeLetter rfl rfl ⟨rfl, rfl⟩ nX4_takeLetter ⟨Nat.le_of_ble_eq_true rfl, Nat.le_of_ble_eq_true rfl⟩ 0 rfl rfl rfl rfl (Nat.le_of_ble_eq_true rfl) ⟨Nat.zero_le _, Nat.zero_le _⟩ (wT_adr _ _ _ _) 28 rfl ?_
      refine v_if_eq h dX4_readKind_28 33 (by decide) 31 rfl (fun c6 => ?_) (fun c6 => ?_)
      · replace hf := zt c6 hf
        refine v_aload_n h dX4_readKind_33 0 rfl 34 rfl ?_
        refine v_bipush h dX4_readKind_34 121 rfl 36 rfl ?_
        obtain ⟨u7, hu7, hf⟩ := zb hf
        refine v_wcallVi h (rest := []) dX4_readKind_36 (tX4_takeLetter l G ca ad u5.2 121 hu7) gX4_readKind_X4_takeLetter rfl rfl ⟨rfl, rfl⟩ nX4_takeLetter ⟨Nat.le_of_ble_eq_true rfl, Nat.le_of_ble_eq_true rfl⟩ 0 rfl rfl rfl rfl (Nat.le_of_ble_eq_true rfl) ⟨Nat.zero_le _, Nat.zero_le _⟩ (wT_adr _ _ _ _) 39 rfl ?_
        refine v_if_eq h dX4_readKind_39 44 (by decide) 42 rfl (fun c8 => ?_) (fun c8 => ?_)
        · replace hf := zt c8 hf
          refine v_aload_n h dX4_readKind_44 0 rfl 45 rfl ?_
          refine v_bipush h dX4_readKind_45 116 rfl 47 rfl ?_
          obtain ⟨u9, hu9, hf⟩ := zb hf
          refine v_wcallVi h (rest := []) dX4_readKind_47 (tX4_takeLetter l G ca ad u7.2 116 hu9) gX4_readKind_X4_takeLetter rfl rfl ⟨rfl, rfl⟩ nX4_takeLetter ⟨Nat.le_of_ble_eq_true rfl, Nat.le_of_ble_eq_true rfl⟩ 0 rfl rfl rfl rfl (Nat.le_of_ble_eq_true rfl) ⟨Nat.zero_le _, Nat.zero_le _⟩ (wT_adr _ _ _ _) 50 rfl ?_
          refine v_if_eq h dX4_readKind_50 55 (by decide) 53 rfl (fun c10 => ?_) (fun c10 => ?_)
          · replace hf := zt c10 hf
            refine v_aload_n h dX4_readKind_55 0 rfl 56 rfl ?_
            refine v_aload_n h dX4_readKind_56 0 rfl 57 rfl ?_
            refine v_get h (v := .int u9.2.2.2.2.2.2.1) dX4_readKind_57 iX4_readKind_X4 0 rfl rfl 5 (by decide) (zwi 1 rfl) rfl 60 rfl ?_
            refine v_put h dX4_readKind_60 iX4_readKind_X4 tyX4 tyX4_ok nmX4 0 rfl rfl 6 (by decide) (zwi 2 rfl) rfl rfl rfl (Nat.le_of_ble_eq_true rfl) (wT ca ad (u9.2.1, u9.2.2.1, u9.2.2.2.1, u9.2.2.2.2.1, u9.2.2.2.2.2.1, u9.2.2.2.2.2.2.1, u9.2.2.2.2.2.2.1)) rfl 63 rfl ?_
            refine v_iconst h dX4_readKind_63 0 rfl 64 rfl ?_
            cases (Option.some.inj hf)
            exact hE 64 _ rfl dX4_readKind_64
          · replace hf := zf c10 hf
            refine v_iconst h dX4_readKind_53 4 rfl 54 rfl ?_
            cases (Option.some.inj hf)
            exact hE 54 _ rfl dX4_readKind_54
        · replace hf := zf c8 hf
          refine v_iconst h dX4_readKind_42 3 rfl 43 rfl ?_
          cases (Option.some.inj hf)
          exact hE 43 _ rfl dX4_readKind_43
      · replace hf := zf c6 hf
        refine v_iconst h dX4_readKind_31 2 rfl 32 rfl ?_
        cases (Option.some.inj hf)
        exact hE 32 _ rfl dX4_readKind_32
    · replace hf := zf c4 hf
      refine v_iconst h dX4_readKind_20 1 rfl 21 rfl ?_
      cases (Option.some.inj hf)
      exact hE 21 _ rfl dX4_readKind_21
  · replace hf := zf c2 hf
    refine v_iconst h dX4_readKind_9 0 rfl 10 rfl ?_
    cases (Option.some.inj hf)
    exact hE 10 _ rfl dX4_readKind_10
abbrev rX4_readCoat : Room := { frames := 3, cells := 0, slots := 0, locals := 65 }
theorem nX4_readCoat : zNoMH yX4_readCoat 0 := ⟨by decide +kernel, by decide +kernel, by decide +kernel⟩
theorem iX4_readCoat_X4 : ∀ w ∈ wsX40, w ∈ wsX4_readCoat := fun _ h => (List.mem_cons_of_mem _ (List.mem_append_left _ (List.mem_append_right _ h)))
theorem iX4_readCoat_X0 : ∀ w ∈ wsX00, w ∈ wsX4_readCoat := fun _ h => (List.mem_cons_of_mem _ (List.mem_append_right _ h))
def fX4_readCoat (v : TV) : Option TV := ((fX4_readKind v) : Option (Int32 × TV)).bind (fun u1 => if 0 ≤ u1.2.2.2.2.2.2.2 then (if 0 ≤ u1.2.2.2.2.2.2.2 then (if 0 ≤ u1.2.2.2.2.2.2.2 then (some u1.2) else (((fX0_putOver u1.2.2.2.1 u1.1 0 0) : Option CV).bind (fun u5 => some (u1.2.1, u1.2.2.1, u5, u1.2.2.2.2)))) else (((fX4_takeLetter u1.2 126) : Option (Int32 × TV)).bind (fun u6 => if u6.1 = 0 then (if 0 ≤ u6.2.2.2.2.2.2.2 then (some u6.2) else (((fX0_putOver u6.2.2.2.1 u1.1 0 0) : Option CV).bind (fun u9 => some (u6.2.1, u6.2.2.1, u9, u6.2.2.2.2)))) else (((fX4_readDigit u6.2) : Option (Int32 × TV)).bind (fun u10 => if 0 ≤ u10.2.2.2.2.2.2.2 then (some u10.2) else (((fX0_putOver u10.2.2.2.1 u1.1 0 u10.1) : Option CV).bind (fun u12 => some (u10.2.1, u10.2.2.1, u12, u10.2.2.2.2)))))))) else (((fX4_readNumber u1.2 1 20) : Option (Int32 × TV)).bind (fun u13 => if 0 ≤ u13.2.2.2.2.2.2.2 then (if 0 ≤ u13.2.2.2.2.2.2.2 then (some u13.2) else (((fX0_putOver u13.2.2.2.1 u1.1 u13.1 0) : Option CV).bind (fun u16 => some (u13.2.1, u13.2.2.1, u16, u13.2.2.2.2)))) else (((fX4_takeLetter u13.2 126) : Option (Int32 × TV)).bind (fun u17 => if u17.1 = 0 then (if 0 ≤ u17.2.2.2.2.2.2.2 then (some u17.2) else (((fX0_putOver u17.2.2.2.1 u1.1 u13.1 0) : Option CV).bind (fun u20 => some (u17.2.1, u17.2.2.1, u20, u17.2.2.2.2)))) else (((fX4_readDigit u17.2) : Option (Int32 × TV)).bind (fun u21 => if 0 ≤ u21.2.2.2.2.2.2.2 then (some u21.2) else (((fX0_putOver u21.2.2.2.1 u1.1 u13.1 u21.1) : Option CV).bind (fun u23 => some (u21.2.1, u21.2.2.1, u23, u21.2.2.2.2))))))))))
set_option maxRecDepth 100000 in
set_option maxHeartbeats 4000000 in
theorem tX4_readCoat (l : Launch) (G : va_G) (ca : Nat → ClassId) (ad : Nat → Nat) (v : TV)  {o : TV} (hf : fX4_readCoat v = some o) : zMv l yX4_readCoat wsX4_readCoat rX4_readCoat G ca [.ref (ad 0)] (wT ca ad v) (wT ca ad o) := by
  refine zMv.of (cc := cX4_readCoat) (nL := 4) (own := RX4) (by decide) rfl rfl (Nat.le_of_ble_eq_true rfl) (fun X h hE => ?_)
  show V X G 4 0 0 (wT ca ad v) 0 [(0, .ref (ad 0))] []
  unfold fX4_readCoat at hf
  refine v_aload_n h dX4_readCoat_0 0 rfl 1 rfl ?_
  obtain ⟨u1, hu1, hf⟩ := zb hf
  refine v_wcallVi h (rest := []) dX4_readCoat_1 (tX4_readKind l G ca ad v  hu1) gX4_readCoat_X4_readKind rfl rfl ⟨rfl, rfl⟩ nX4_readKind ⟨Nat.le_of_ble_eq_true rfl, Nat.le_of_ble_eq_true rfl⟩ 0 rfl rfl rfl rfl (Nat.le_of_ble_eq_true rfl) ⟨Nat.zero_le _, Nat.zero_le _⟩ (wT_adr _ _ _ _) 4 rfl ?_
  refine v_istore_n h dX4_readCoat_4 (Nat.le_of_ble_eq_true rfl) rfl rfl [(0, .ref (ad 0)), (1, .int u1.1)] rfl 5 rfl ?_
  refine v_aload_n h dX4_readCoat_5 0 rfl 6 rfl ?_
  refine v_get h (v := .int u1.2.2.2.2.2.2.2) dX4_readCoat_6 iX4_readCoat_X4 0 rfl rfl 6 (by decide) (zwi 1 rfl) rfl 9 rfl ?_
  refine v_if_ge h dX4_readCoat_9 22 (by decide) 12 rfl (fun c2 => ?_) (fun c2 => ?_)
  · replace hf := zt c2 hf
    refine v_iconst h dX4_readCoat_22 0 rfl 23 rfl ?_
    refine v_istore_n h dX4_readCoat_23 (Nat.le_of_ble_eq_true rfl) rfl rfl [(0, .ref (ad 0)), (1, .int u1.1), (2, .int 0)] rfl 24 rfl ?_
    refine v_aload_n h dX4_readCoat_24 0 rfl 25 rfl ?_
    refine v_get h (v := .int u1.2.2.2.2.2.2.2) dX4_readCoat_25 iX4_readCoat_X4 0 rfl rfl 6 (by decide) (zwi 1 rfl) rfl 28 rfl ?_
    refine v_if_ge h dX4_readCoat_28 47 (by decide) 31 rfl (fun c3 => ?_) (fun c3 => ?_)
    · replace hf := zt c3 hf
      refine v_iconst h dX4_readCoat_47 0 rfl 48 rfl ?_
      refine v_istore_n h dX4_readCoat_48 (Nat.le_of_ble_eq_true rfl) rfl rfl [(0, .ref (ad 0)), (1, .int u1.1), (2, .int 0), (3, .int 0)] rfl 49 rfl ?_
      refine v_aload_n h dX4_readCoat_49 0 rfl 50 rfl ?_
      refine v_get h (v := .int u1.2.2.2.2.2.2.2) dX4_readCoat_50 iX4_readCoat_X4 0 rfl rfl 6 (by decide) (zwi 1 rfl) rfl 53 rfl ?_
      refine v_if_ge h dX4_readCoat_53 66 (by decide) 56 rfl (fun c4 => ?_) (fun c4 => ?_)
      · replace hf := zt c4 hf
        cases (Option.some.inj hf)
        exact hE 66 _ dX4_readCoat_66
      · replace hf := zf c4 hf
        refine v_aload_n h dX4_readCoat_56 0 rfl 57 rfl ?_
        refine v_get h (v := .ref (ad 4)) dX4_readCoat_57 iX4_readCoat_X4 0 rfl rfl 2 (by decide) (zwi 2 rfl) rfl 60 rfl ?_
        refine v_iload_n h dX4_readCoat_60 1 rfl 61 rfl ?_
        refine v_iload_n h dX4_readCoat_61 2 rfl 62 rfl ?_
        refine v_iload_n h dX4_readCoat_62 3 rfl 63 rfl ?_
        obtain ⟨u5, hu5, hf⟩ := zb hf
        refine v_callVv h (rest := []) dX4_readCoat_63 (tX0_putOver l G ca (fun i => ad (4 + i)) u1.2.2.2.1 u1.1 0 0 hu5) gX4_readCoat_X0_putOver rfl rfl ⟨rfl, rfl⟩ nX0_putOver ⟨Nat.le_of_ble_eq_true rfl, Nat.le_of_ble_eq_true rfl⟩ [4, 5, 6, 7, 8] rfl rfl 0 rfl rfl rfl rfl (Nat.le_of_ble_eq_true rfl) ⟨Nat.zero_le _, Nat.zero_le _⟩ rfl (wT ca ad (u1.2.1, u1.2.2.1, u5, u1.2.2.2.2)) rfl (wT_adr _ _ _ _) 66 rfl ?_
        cases (Option.some.inj hf)
        exact hE 66 _ dX4_readCoat_66
    · replace hf := zf c3 hf
      refine v_aload_n h dX4_readCoat_31 0 rfl 32 rfl ?_
      refine v_bipush h dX4_readCoat_32 126 rfl 34 rfl ?_
      obtain ⟨u6, hu6, hf⟩ := zb hf
      refine v_wcallVi h (rest := []) dX4_readCoat_34 (tX4_takeLetter l G ca ad u1.2 126 hu6) gX4_readCoat_X4_takeLetter rfl rfl ⟨rfl, rfl⟩ nX4_takeLetter ⟨Nat.le_of_ble_eq_true rfl, Nat.le_of_ble_eq_true rfl⟩ 0 rfl rfl rfl rfl (Nat.le_of_ble_eq_true rfl) ⟨Nat.zero_le _, Nat.zero_le _⟩ (wT_adr _ _ _ _) 37 rfl ?_
      refine v_if_eq h dX4_readCoat_37 47 (by decide) 40 rfl (fun c7 => ?_) (fun c7 => ?_)
      · replace hf := zt c7 hf
        refine v_iconst h dX4_readCoat_47 0 rfl 48 rfl ?_
        refine v_istore_n h dX4_readCoat_48 (Nat.le_of_ble_eq_true rfl) rfl rfl [(0, .ref (ad 0)), (1, .int u1.1), (2, .int 0), (3, .int 0)] rfl 49 rfl ?_
        refine v_aload_n h dX4_readCoat_49 0 rfl 50 rfl ?_
        refine v_get h (v := .int u6.2.2.2.2.2.2.2) dX4_readCoat_50 iX4_readCoat_X4 0 rfl rfl 6 (by decide) (zwi 1 rfl) rfl 53 rfl ?_
        refine v_if_ge h dX4_readCoat_53 66 (by decide) 56 rfl (fun c8 => ?_) (fun c8 => ?_)
        · replace hf := zt c8 hf
          cases (Option.some.inj hf)
          exact hE 66 _ dX4_readCoat_66
        · replace hf := zf c8 hf
          refine v_aload_n h dX4_readCoat_56 0 rfl 57 rfl ?_
          refine v_get h (v := .ref (ad 4)) dX4_readCoat_57 iX4_readCoat_X4 0 rfl rfl 2 (by decide) (zwi 2 rfl) rfl 60 rfl ?_
          refine v_iload_n h dX4_readCoat_60 1 rfl 61 rfl ?_
          refine v_iload_n h dX4_readCoat_61 2 rfl 62 rfl ?_
          refine v_iload_n h dX4_readCoat_62 3 rfl 63 rfl ?_
          obtain ⟨u9, hu9, hf⟩ := zb hf
          refine v_callVv h (rest := []) dX4_readCoat_63 (tX0_putOver l G ca (fun i => ad (4 + i)) u6.2.2.2.1 u1.1 0 0 hu9) gX4_readCoat_X0_putOver rfl rfl ⟨rfl, rfl⟩ nX0_putOver ⟨Nat.le_of_ble_eq_true rfl, Nat.le_of_ble_eq_true rfl⟩ [4, 5, 6, 7, 8] rfl rfl 0 rfl rfl rfl rfl (Nat.le_of_ble_eq_true rfl) ⟨Nat.zero_le _, Nat.zero_le _⟩ rfl (wT ca ad (u6.2.1, u6.2.2.1, u9, u6.2.2.2.2)) rfl (wT_adr _ _ _ _) 66 rfl ?_
          cases (Option.some.inj hf)
          exact hE 66 _ dX4_readCoat_66
      · replace hf := zf c7 hf
        refine v_aload_n h dX4_readCoat_40 0 rfl 41 rfl ?_
        obtain ⟨u10, hu10, hf⟩ := zb hf
        refine v_wcallVi h (rest := []) dX4_readCoat_41 (tX4_readDigit l G ca ad u6.2  hu10) gX4_readCoat_X4_readDigit rfl rfl ⟨rfl, rfl⟩ nX4_readDigit ⟨Nat.le_of_ble_eq_true rfl, Nat.le_of_ble_eq_true rfl⟩ 0 rfl rfl rfl rfl (Nat.le_of_ble_eq_true rfl) ⟨Nat.zero_le _, Nat.zero_le _⟩ (wT_adr _ _ _ _) 44 rfl ?_
        refine v_goto h dX4_readCoat_44 48 (by decide) ?_
        refine v_istore_n h dX4_readCoat_48 (Nat.le_of_ble_eq_true rfl) rfl rfl [(0, .ref (ad 0)), (1, .int u1.1), (2, .int 0), (3, .int u10.1)] rfl 49 rfl ?_
        refine v_aload_n h dX4_readCoat_49 0 rfl 50 rfl ?_
        refine v_get h (v := .int u10.2.2.2.2.2.2.2) dX4_readCoat_50 iX4_readCoat_X4 0 rfl rfl 6 (by decide) (zwi 1 rfl) rfl 53 rfl ?_
        refine v_if_ge h dX4_readCoat_53 66 (by decide) 56 rfl (fun c11 => ?_) (fun c11 => ?_)
        · replace hf := zt c11 hf
          cases (Option.some.inj hf)
          exact hE 66 _ dX4_readCoat_66
        · replace hf := zf c11 hf
          refine v_aload_n h dX4_readCoat_56 0 rfl 57 rfl ?_
          refine v_get h (v := .ref (ad 4)) dX4_readCoat_57 iX4_readCoat_X4 0 rfl rfl 2 (by decide) (zwi 2 rfl) rfl 60 rfl ?_
          refine v_iload_n h dX4_readCoat_60 1 rfl 61 rfl ?_
          refine v_iload_n h dX4_readCoat_61 2 rfl 62 rfl ?_
          refine v_iload_n h dX4_readCoat_62 3 rfl 63 rfl ?_
          obtain ⟨u12, hu12, hf⟩ := zb hf
          refine v_callVv h (rest := []) dX4_readCoat_63 (tX0_putOver l G ca (fun i => ad (4 + i)) u10.2.2.2.1 u1.1 0 u10.1 hu12) gX4_readCoat_X0_putOver rfl rfl ⟨rfl, rfl⟩ nX0_putOver ⟨Nat.le_of_ble_eq_true rfl, Nat.le_of_ble_eq_true rfl⟩ [4, 5, 6, 7, 8] rfl rfl 0 rfl rfl rfl rfl (Nat.le_of_ble_eq_true rfl) ⟨Nat.zero_le _, Nat.zero_le _⟩ rfl (wT ca ad (u10.2.1, u10.2.2.1, u12, u10.2.2.2.2)) rfl (wT_adr _ _ _ _) 66 rfl ?_
          cases (Option.some.inj hf)
          exact hE 66 _ dX4_readCoat_66
  · replace hf := zf c2 hf
    refine v_aload_n h dX4_readCoat_12 0 rfl 13 rfl ?_
    refine v_iconst h dX4_readCoat_13 1 rfl 14 rfl ?_
    refine v_bipush h dX4_readCoat_14 20 rfl 16 rfl ?_
    obtain ⟨u13, hu13, hf⟩ := zb hf
    refine v_wcallVi h (rest := []) dX4_readCoat_16 (tX4_readNumber l G ca ad u1.2 1 20 hu13) gX4_readCoat_X4_readNumber rfl rfl ⟨rfl, rfl⟩ nX4_readNumber ⟨Nat.le_of_ble_eq_true rfl, Nat.le_of_ble_eq_true rfl⟩ 0 rfl rfl rfl rfl (Nat.le_of_ble_eq_true rfl) ⟨Nat.zero_le _, Nat.zero_le _⟩ (wT_adr _ _ _ _) 19 rfl ?_
    refine v_goto h dX4_readCoat_19 23 (by decide) ?_
    refine v_istore_n h dX4_readCoat_23 (Nat.le_of_ble_eq_true rfl) rfl rfl [(0, .ref (ad 0)), (1, .int u1.1), (2, .int u13.1)] rfl 24 rfl ?_
    refine v_aload_n h dX4_readCoat_24 0 rfl 25 rfl ?_
    refine v_get h (v := .int u13.2.2.2.2.2.2.2) dX4_readCoat_25 iX4_readCoat_X4 0 rfl rfl 6 (by decide) (zwi 1 rfl) rfl 28 rfl ?_
    refine v_if_ge h dX4_readCoat_28 47 (by decide) 31 rfl (fun c14 => ?_) (fun c14 => ?_)
    · replace hf := zt c14 hf
      refine v_iconst h dX4_readCoat_47 0 rfl 48 rfl ?_
      refine v_istore_n h dX4_readCoat_48 (Nat.le_of_ble_eq_true rfl) rfl rfl [(0, .ref (ad 0)), (1, .int u1.1), (2, .int u13.1), (3, .int 0)] rfl 49 rfl ?_
      refine v_aload_n h dX4_readCoat_49 0 rfl 50 rfl ?_
      refine v_get h (v := .int u13.2.2.2.2.2.2.2) dX4_readCoat_50 iX4_readCoat_X4 0 rfl rfl 6 (by decide) (zwi 1 rfl) rfl 53 rfl ?_
      refine v_if_ge h dX4_readCoat_53 66 (by decide) 56 rfl (fun c15 => ?_) (fun c15 => ?_)
      · replace hf := zt c15 hf
        cases (Option.some.inj hf)
        exact hE 66 _ dX4_readCoat_66
      · replace hf := zf c15 hf
        refine v_aload_n h dX4_readCoat_56 0 rfl 57 rfl ?_
        refine v_get h (v := .ref (ad 4)) dX4_readCoat_57 iX4_readCoat_X4 0 rfl rfl 2 (by decide) (zwi 2 rfl) rfl 60 rfl ?_
        refine v_iload_n h dX4_readCoat_60 1 rfl 61 rfl ?_
        refine v_iload_n h dX4_readCoat_61 2 rfl 62 rfl ?_
        refine v_iload_n h dX4_readCoat_62 3 rfl 63 rfl ?_
        obtain ⟨u16, hu16, hf⟩ := zb hf
        refine v_callVv h (rest := []) dX4_readCoat_63 (tX0_putOver l G ca (fun i => ad (4 + i)) u13.2.2.2.1 u1.1 u13.1 0 hu16) gX4_readCoat_X0_putOver rfl rfl ⟨rfl, rfl⟩ nX0_putOver ⟨Nat.le_of_ble_eq_true rfl, Nat.le_of_ble_eq_true rfl⟩ [4, 5, 6, 7, 8] rfl rfl 0 rfl rfl rfl rfl (Nat.le_of_ble_eq_true rfl) ⟨Nat.zero_le _, Nat.zero_le _⟩ rfl (wT ca ad (u13.2.1, u13.2.2.1, u16, u13.2.2.2.2)) rfl (wT_adr _ _ _ _) 66 rfl ?_
        cases (Option.some.inj hf)
        exact hE 66 _ dX4_readCoat_66
    · replace hf := zf c14 hf
      refine v_aload_n h dX4_readCoat_31 0 rfl 32 rfl ?_
      refine v_bipush h dX4_readCoat_32 126 rfl 34 rfl ?_
      obtain ⟨u17, hu17, hf⟩ := zb hf
      refine v_wcallVi h (rest := []) dX4_readCoat_34 (tX4_takeLetter l G ca ad u13.2 126 hu17) gX4_readCoat_X4_takeLetter rfl rfl ⟨rfl, rfl⟩ nX4_takeLetter ⟨Nat.le_of_ble_eq_true rfl, Nat.le_of_ble_eq_true rfl⟩ 0 rfl rfl rfl rfl (Nat.le_of_ble_eq_true rfl) ⟨Nat.zero_le _, Nat.zero_le _⟩ (wT_adr _ _ _ _) 37 rfl ?_
      refine v_if_eq h dX4_readCoat_37 47 (by decide) 40 rfl (fun c18 => ?_) (fun c18 => ?_)
      · replace hf := zt c18 hf
        refine v_iconst h dX4_readCoat_47 0 rfl 48 rfl ?_
        refine v_istore_n h dX4_readCoat_48 (Nat.le_of_ble_eq_true rfl) rfl rfl [(0, .ref (ad 0)), (1, .int u1.1), (2, .int u13.1), (3, .int 0)] rfl 49 rfl ?_
        refine v_aload_n h dX4_readCoat_49 0 rfl 50 rfl ?_
        refine v_get h (v := .int u17.2.2.2.2.2.2.2) dX4_readCoat_50 iX4_readCoat_X4 0 rfl rfl 6 (by decide) (zwi 1 rfl) rfl 53 rfl ?_
        refine v_if_ge h dX4_readCoat_53 66 (by decide) 56 rfl (fun c19 => ?_) (fun c19 => ?_)
        · replace hf := zt c19 hf
          cases (Option.some.inj hf)
          exact hE 66 _ dX4_readCoat_66
        · replace hf := zf c19 hf
          refine v_aload_n h dX4_readCoat_56 0 rfl 57 rfl ?_
          refine v_get h (v := .ref (ad 4)) dX4_readCoat_57 iX4_readCoat_X4 0 rfl rfl 2 (by decide) (zwi 2 rfl) rfl 60 rfl ?_
          refine v_iload_n h dX4_readCoat_60 1 rfl 61 rfl ?_
          refine v_iload_n h dX4_readCoat_61 2 rfl 62 rfl ?_
          refine v_iload_n h dX4_readCoat_62 3 rfl 63 rfl ?_
          obtain ⟨u20, hu20, hf⟩ := zb hf
          refine v_callVv h (rest := []) dX4_readCoat_63 (tX0_putOver l G ca (fun i => ad (4 + i)) u17.2.2.2.1 u1.1 u13.1 0 hu20) gX4_readCoat_X0_putOver rfl rfl ⟨rfl, rfl⟩ nX0_putOver ⟨Nat.le_of_ble_eq_true rfl, Nat.le_of_ble_eq_true rfl⟩ [4, 5, 6, 7, 8] rfl rfl 0 rfl rfl rfl rfl (Nat.le_of_ble_eq_true rfl) ⟨Nat.zero_le _, Nat.zero_le _⟩ rfl (wT ca ad (u17.2.1, u17.2.2.1, u20, u17.2.2.2.2)) rfl (wT_adr _ _ _ _) 66 rfl ?_
          cases (Option.some.inj hf)
          exact hE 66 _ dX4_readCoat_66
      · replace hf := zf c18 hf
        refine v_aload_n h dX4_readCoat_40 0 rfl 41 rfl ?_
        obtain ⟨u21, hu21, hf⟩ := zb hf
        refine v_wcallVi h (rest := []) dX4_readCoat_41 (tX4_readDigit l G ca ad u17.2  hu21) gX4_readCoat_X4_readDigit rfl rfl ⟨rfl, rfl⟩ nX4_readDigit ⟨Nat.le_of_ble_eq_true rfl, Nat.le_of_ble_eq_true rfl⟩ 0 rfl rfl rfl rfl (Nat.le_of_ble_eq_true rfl) ⟨Nat.zero_le _, Nat.zero_le _⟩ (wT_adr _ _ _ _) 44 rfl ?_
        refine v_goto h dX4_readCoat_44 48 (by decide) ?_
        refine v_istore_n h dX4_readCoat_48 (Nat.le_of_ble_eq_true rfl) rfl rfl [(0, .ref (ad 0)), (1, .int u1.1), (2, .int u13.1), (3, .int u21.1)] rfl 49 rfl ?_
        refine v_aload_n h dX4_readCoat_49 0 rfl 50 rfl ?_
        refine v_get h (v := .int u21.2.2.2.2.2.2.2) dX4_readCoat_50 iX4_readCoat_X4 0 rfl rfl 6 (by decide) (zwi 1 rfl) rfl 53 rfl ?_
        refine v_if_ge h dX4_readCoat_53 66 (by decide) 56 rfl (fun c22 => ?_) (fun c22 => ?_)
        · replace hf := zt c22 hf
          cases (Option.some.inj hf)
          exact hE 66 _ dX4_readCoat_66
        · replace hf := zf c22 hf
          refine v_aload_n h dX4_readCoat_56 0 rfl 57 rfl ?_
          refine v_get h (v := .ref (ad 4)) dX4_readCoat_57 iX4_readCoat_X4 0 rfl rfl 2 (by decide) (zwi 2 rfl) rfl 60 rfl ?_
          refine v_iload_n h dX4_readCoat_60 1 rfl 61 rfl ?_
          refine v_iload_n h dX4_readCoat_61 2 rfl 62 rfl ?_
          refine v_iload_n h dX4_readCoat_62 3 rfl 63 rfl ?_
          obtain ⟨u23, hu23, hf⟩ := zb hf
          refine v_callVv h (rest := []) dX4_readCoat_63 (tX0_putOver l G ca (fun i => ad (4 + i)) u21.2.2.2.1 u1.1 u13.1 u21.1 hu23) gX4_readCoat_X0_putOver rfl rfl ⟨rfl, rfl⟩ nX0_putOver ⟨Nat.le_of_ble_eq_true rfl, Nat.le_of_ble_eq_true rfl⟩ [4, 5, 6, 7, 8] rfl rfl 0 rfl rfl rfl rfl (Nat.le_of_ble_eq_true rfl) ⟨Nat.zero_le _, Nat.zero_le _⟩ rfl (wT ca ad (u21.2.1, u21.2.2.1, u23, u21.2.2.2.2)) rfl (wT_adr _ _ _ _) 66 rfl ?_
          cases (Option.some.inj hf)
          exact hE 66 _ dX4_readCoat_66
abbrev rX4_readCoats : Room := { frames := 4, cells := 0, slots := 0, locals := 88 }
theorem nX4_readCoats : zNoMH yX4_readCoats 0 := ⟨by decide +kernel, by decide +kernel, by decide +kernel⟩
theorem iX4_readCoats_X4 : ∀ w ∈ wsX40, w ∈ wsX4_readCoats := fun _ h => (List.mem_cons_of_mem _ (List.mem_append_left _ (List.mem_append_right _ h)))
theorem iX4_readCoats_X0 : ∀ w ∈ wsX00, w ∈ wsX4_readCoats := fun _ h => (List.mem_cons_of_mem _ (List.mem_append_right _ h))
def fX4_readCoats_L6 : Nat → TV → Int32 → Option TV
  | 0, _, _ => none
  | n + 1, v, x1 => if 10 ≤ x1 then (some v) else (if 0 ≤ v.2.2.2.2.2.2 then (some v) else (((fX4_takeLetter v 44) : Option (Int32 × TV)).bind (fun u3 => if u3.1 = 0 then (some u3.2) else (((fX4_readCoat u3.2) : Option TV).bind (fun u5 => fX4_readCoats_L6 n u5 (x1 + 1))))))
set_option maxRecDepth 100000 in
set_option maxHeartbeats 4000000 in
theorem tX4_readCoats_l6 {X : zX} {l : Launch} {G : va_G} {ca : Nat → ClassId} {ad : Nat → Nat} (h : zOk X l G ca cX4_readCoats RX4 wsX4_readCoats 2 rX4_readCoats) : ∀ (n : Nat) (v : TV) (x1 : Int32) (out : TV), fX4_readCoats_L6 n v x1 = some out → (V X G 2 0 0 (wT ca ad out) 38 [] []) → V X G 2 0 0 (wT ca ad v) 6 [(0, .ref (ad 0)), (1, .int x1)] [] := by
  intro n
  induction n with
  | zero => intro v x1 out hf; rw [fX4_readCoats_L6] at hf; cases hf
  | succ n ih =>
    intro v x1 out hf kx
    rw [fX4_readCoats_L6] at hf
    refine v_iload_n h dX4_readCoats_6 1 rfl 7 rfl ?_
    refine v_bipush h dX4_readCoats_7 10 rfl 9 rfl ?_
    refine v_icmp_ge h dX4_readCoats_9 38 (by decide) 12 rfl (fun c1 => ?_) (fun c1 => ?_)
    · replace hf := zt c1 hf
      cases (Option.some.inj hf)
      exact v_sub [] rfl (kx)
    · replace hf := zf c1 hf
      refine v_aload_n h dX4_readCoats_12 0 rfl 13 rfl ?_
      refine v_get h (v := .int v.2.2.2.2.2.2) dX4_readCoats_13 iX4_readCoats_X4 0 rfl rfl 6 (by decide) (zwi 1 rfl) rfl 16 rfl ?_
      refine v_if_ge h dX4_readCoats_16 38 (by decide) 19 rfl (fun c2 => ?_) (fun c2 => ?_)
      · replace hf := zt c2 hf
        cases (Option.some.inj hf)
        exact v_sub [] rfl (kx)
      · replace hf := zf c2 hf
        refine v_aload_n h dX4_readCoats_19 0 rfl 20 rfl ?_
        refine v_bipush h dX4_readCoats_20 44 rfl 22 rfl ?_
        obtain ⟨u3, hu3, hf⟩ := zb hf
        refine v_wcallVi h (rest := []) dX4_readCoats_22 (tX4_takeLetter l G ca ad v 44 hu3) gX4_readCoats_X4_takeLetter rfl rfl ⟨rfl, rfl⟩ nX4_takeLetter ⟨Nat.le_of_ble_eq_true rfl, Nat.le_of_ble_eq_true rfl⟩ 0 rfl rfl rfl rfl (Nat.le_of_ble_eq_true rfl) ⟨Nat.zero_le _, Nat.zero_le _⟩ (wT_adr _ _ _ _) 25 rfl ?_
        refine v_if_eq h dX4_readCoats_25 38 (by decide) 28 rfl (fun c4 => ?_) (fun c4 => ?_)
        · replace hf := zt c4 hf
          cases (Option.some.inj hf)
          exact v_sub [] rfl (kx)
        · replace hf := zf c4 hf
          refine v_aload_n h dX4_readCoats_28 0 rfl 29 rfl ?_
          obtain ⟨u5, hu5, hf⟩ := zb hf
          refine v_wcallVv h (rest := []) dX4_readCoats_29 (tX4_readCoat l G ca ad u3.2  hu5) gX4_readCoats_X4_readCoat rfl rfl ⟨rfl, rfl⟩ nX4_readCoat ⟨Nat.le_of_ble_eq_true rfl, Nat.le_of_ble_eq_true rfl⟩ 0 rfl rfl rfl rfl (Nat.le_of_ble_eq_true rfl) ⟨Nat.zero_le _, Nat.zero_le _⟩ (wT_adr _ _ _ _) 32 rfl ?_
          refine v_iinc h dX4_readCoats_32 1 rfl (x1 + 1) rfl (Nat.le_of_ble_eq_true rfl) rfl rfl [(0, .ref (ad 0)), (1, .int (x1 + 1))] rfl 35 rfl ?_
          refine v_goto h dX4_readCoats_35 6 (by decide) ?_
          exact v_sub [0, 1] rfl (ih u5 (x1 + 1) _ hf kx)
def fX4_readCoats (v : TV) : Option TV := ((fX4_readCoat v) : Option TV).bind (fun u1 => ((fX4_readCoats_L6 zF u1 1) : Option TV).bind (fun u2 => some u2))
set_option maxRecDepth 100000 in
set_option maxHeartbeats 4000000 in
theorem tX4_readCoats (l : Launch) (G : va_G) (ca : Nat → ClassId) (ad : Nat → Nat) (v : TV)  {o : TV} (hf : fX4_readCoats v = some o) : zMv l yX4_readCoats wsX4_readCoats rX4_readCoats G ca [.ref (ad 0)] (wT ca ad v) (wT ca ad o) := by
  refine zMv.of (cc := cX4_readCoats) (nL := 2) (own := RX4) (by decide) rfl rfl (Nat.le_of_ble_eq_true rfl) (fun X h hE => ?_)
  show V X G 2 0 0 (wT ca ad v) 0 [(0, .ref (ad 0))] []
  unfold fX4_readCoats at hf
  refine v_aload_n h dX4_readCoats_0 0 rfl 1 rfl ?_
  obtain ⟨u1, hu1, hf⟩ := zb hf
  refine v_wcallVv h (rest := []) dX4_readCoats_1 (tX4_readCoat l G ca ad v  hu1) gX4_readCoats_X4_readCoat rfl rfl ⟨rfl, rfl⟩ nX4_readCoat ⟨Nat.le_of_ble_eq_true rfl, Nat.le_of_ble_eq_true rfl⟩ 0 rfl rfl rfl rfl (Nat.le_of_ble_eq_true rfl) ⟨Nat.zero_le _, Nat.zero_le _⟩ (wT_adr _ _ _ _) 4 rfl ?_
  refine v_iconst h dX4_readCoats_4 1 rfl 5 rfl ?_
  refine v_istore_n h dX4_readCoats_5 (Nat.le_of_ble_eq_true rfl) rfl rfl [(0, .ref (ad 0)), (1, .int 1)] rfl 6 rfl ?_
  obtain ⟨u2, hu2, hf⟩ := zb hf
  refine v_sub [0, 1] rfl ?_
  refine tX4_readCoats_l6 h zF u1 1 _ hu2 ?_
  cases (Option.some.inj hf)
  exact hE 38 _ dX4_readCoats_38
abbrev rX4_readRoof : Room := { frames := 5, cells := 0, slots := 0, locals := 109 }
theorem nX4_readRoof : zNoMH yX4_readRoof 0 := ⟨by decide +kernel, by decide +kernel, by decide +kernel⟩
theorem iX4_readRoof_X4 : ∀ w ∈ wsX40, w ∈ wsX4_readRoof := fun _ h => (List.mem_cons_of_mem _ (List.mem_append_left _ (List.mem_append_left _ (List.mem_append_right _ h))))
theorem iX4_readRoof_X5 : ∀ w ∈ wsX50, w ∈ wsX4_readRoof := fun _ h => (List.mem_cons_of_mem _ (List.mem_append_left _ (List.mem_append_right _ h)))
theorem iX4_readRoof_X0 : ∀ w ∈ wsX00, w ∈ wsX4_readRoof := fun _ h => (List.mem_cons_of_mem _ (List.mem_append_right _ h))
def fX4_readRoof_L41 : Nat → TV → Int32 → Option TV
  | 0, _, _ => none
  | n + 1, v, x1 => if 8 ≤ x1 then (some v) else (if 0 ≤ v.2.2.2.2.2.2 then (some v) else (((fX4_takeLetter v 43) : Option (Int32 × TV)).bind (fun u3 => if u3.1 = 0 then (some u3.2) else (((fX4_readNumber u3.2 0 40) : Option (Int32 × TV)).bind (fun u5 => ((fX5_append u5.2.2.1 u5.1) : Option WV).bind (fun u6 => fX4_readRoof_L41 n (u5.2.1, u6, u5.2.2.2) (x1 + 1)))))))
set_option maxRecDepth 100000 in
set_option maxHeartbeats 4000000 in
theorem tX4_readRoof_l41 {X : zX} {l : Launch} {G : va_G} {ca : Nat → ClassId} {ad : Nat → Nat} (h : zOk X l G ca cX4_readRoof RX4 wsX4_readRoof 2 rX4_readRoof) : ∀ (n : Nat) (v : TV) (x1 : Int32) (out : TV), fX4_readRoof_L41 n v x1 = some out → (V X G 2 0 0 (wT ca ad out) 83 [(0, .ref (ad 0))] []) → V X G 2 0 0 (wT ca ad v) 41 [(0, .ref (ad 0)), (1, .int x1)] [] := by
  intro n
  induction n with
  | zero => intro v x1 out hf; rw [fX4_readRoof_L41] at hf; cases hf
  | succ n ih =>
    intro v x1 out hf kx
    rw [fX4_readRoof_L41] at hf
    refine v_iload_n h dX4_readRoof_41 1 rfl 42 rfl ?_
    refine v_bipush h dX4_readRoof_42 8 rfl 44 rfl ?_
    refine v_icmp_ge h dX4_readRoof_44 83 (by decide) 47 rfl (fun c1 => ?_) (fun c1 => ?_)
    · replace hf := zt c1 hf
      cases (Option.some.inj hf)
      exact v_sub [0] rfl (kx)
    · replace hf := zf c1 hf
      refine v_aload_n h dX4_readRoof_47 0 rfl 48 rfl ?_
      refine v_get h (v := .int v.2.2.2.2.2.2) dX4_readRoof_48 iX4_readRoof_X4 0 rfl rfl 6 (by decide) (zwi 2 rfl) rfl 51 rfl ?_
      refine v_if_ge h dX4_readRoof_51 83 (by decide) 54 rfl (fun c2 => ?_) (fun c2 => ?_)
      · replace hf := zt c2 hf
        cases (Option.some.inj hf)
        exact v_sub [0] rfl (kx)
      · replace hf := zf c2 hf
        refine v_aload_n h dX4_readRoof_54 0 rfl 55 rfl ?_
        refine v_bipush h dX4_readRoof_55 43 rfl 57 rfl ?_
        obtain ⟨u3, hu3, hf⟩ := zb hf
        refine v_wcallVi h (rest := []) dX4_readRoof_57 (tX4_takeLetter l G ca ad v 43 hu3) gX4_readRoof_X4_takeLetter rfl rfl ⟨rfl, rfl⟩ nX4_takeLetter ⟨Nat.le_of_ble_eq_true rfl, Nat.le_of_ble_eq_true rfl⟩ 0 rfl rfl rfl rfl (Nat.le_of_ble_eq_true rfl) ⟨Nat.zero_le _, Nat.zero_le _⟩ (wT_adr _ _ _ _) 60 rfl ?_
        refine v_if_eq h dX4_readRoof_60 83 (by decide) 63 rfl (fun c4 => ?_) (fun c4 => ?_)
        · replace hf := zt c4 hf
          cases (Option.some.inj hf)
          exact v_sub [0] rfl (kx)
        · replace hf := zf c4 hf
          refine v_aload_n h dX4_readRoof_63 0 rfl 64 rfl ?_
          refine v_get h (v := .ref (ad 2)) dX4_readRoof_64 iX4_readRoof_X4 0 rfl rfl 1 (by decide) (zwi 3 rfl) rfl 67 rfl ?_
          refine v_aload_n h dX4_readRoof_67 0 rfl 68 rfl ?_
          refine v_iconst h dX4_readRoof_68 0 rfl 69 rfl ?_
          refine v_bipush h dX4_readRoof_69 40 rfl 71 rfl ?_
          obtain ⟨u5, hu5, hf⟩ := zb hf
          refine v_wcallVi h (rest := [.ref (ad 2)]) dX4_readRoof_71 (tX4_readNumber l G ca ad u3.2 0 40 hu5) gX4_readRoof_X4_readNumber rfl rfl ⟨rfl, rfl⟩ nX4_readNumber ⟨Nat.le_of_ble_eq_true rfl, Nat.le_of_ble_eq_true rfl⟩ 0 rfl rfl rfl rfl (Nat.le_of_ble_eq_true rfl) ⟨Nat.zero_le _, Nat.zero_le _⟩ (wT_adr _ _ _ _) 74 rfl ?_
          obtain ⟨u6, hu6, hf⟩ := zb hf
          refine v_callVv h (rest := []) dX4_readRoof_74 (tX5_append l G ca (fun i => ad (2 + i)) u5.2.2.1 u5.1 hu6) gX4_readRoof_X5_append rfl rfl ⟨rfl, rfl⟩ nX5_append ⟨Nat.le_of_ble_eq_true rfl, Nat.le_of_ble_eq_true rfl⟩ [2, 3] rfl rfl 0 rfl rfl rfl rfl (Nat.le_of_ble_eq_true rfl) ⟨Nat.zero_le _, Nat.zero_le _⟩ rfl (wT ca ad (u5.2.1, u6, u5.2.2.2)) rfl (wT_adr _ _ _ _) 77 rfl ?_
          refine v_iinc h dX4_readRoof_77 1 rfl (x1 + 1) rfl (Nat.le_of_ble_eq_true rfl) rfl rfl [(0, .ref (ad 0)), (1, .int (x1 + 1))] rfl 80 rfl ?_
          refine v_goto h dX4_readRoof_80 41 (by decide) ?_
          exact v_sub [0, 1] rfl (ih (u5.2.1, u6, u5.2.2.2) (x1 + 1) _ hf kx)
def fX4_readRoof (v : TV) : Option (Int32 × TV) := ((fX4_readNumber (v.1, (v.2.1.1, 0), (v.2.2.1.1, v.2.2.1.2.1, v.2.2.1.2.2.1, v.2.2.1.2.2.2.1, 0, v.2.2.1.2.2.2.2.2), v.2.2.2.1, v.2.2.2.2.1, 0, (-1)) 1 99) : Option (Int32 × TV)).bind (fun u1 => ((fX4_readRoof_L41 zF (u1.2.1, u1.2.2.1, u1.2.2.2.1, u1.2.2.2.2.1, (2 * u1.1), u1.2.2.2.2.2.2) 0) : Option TV).bind (fun u2 => if 0 ≤ u2.2.2.2.2.2.2 then (((fX4_skipBlanks u2) : Option TV).bind (fun u4 => if 0 ≤ u4.2.2.2.2.2.2 then (some (u4.2.2.2.2.2.2, u4)) else (if u4.2.2.2.1 ≤ u4.2.2.2.2.2.1 then (some (u4.2.2.2.2.2.2, u4)) else (some (u4.2.2.2.2.2.1, (u4.1, u4.2.1, u4.2.2.1, u4.2.2.2.1, u4.2.2.2.2.1, u4.2.2.2.2.2.1, u4.2.2.2.2.2.1)))))) else (((fX4_takeLetter u2 59) : Option (Int32 × TV)).bind (fun u7 => if u7.1 = 0 then (((fX4_skipBlanks u7.2) : Option TV).bind (fun u9 => if 0 ≤ u9.2.2.2.2.2.2 then (some (u9.2.2.2.2.2.2, u9)) else (if u9.2.2.2.1 ≤ u9.2.2.2.2.2.1 then (some (u9.2.2.2.2.2.2, u9)) else (some (u9.2.2.2.2.2.1, (u9.1, u9.2.1, u9.2.2.1, u9.2.2.2.1, u9.2.2.2.2.1, u9.2.2.2.2.2.1, u9.2.2.2.2.2.1)))))) else (((fX4_readCoats u7.2) : Option TV).bind (fun u12 => ((fX4_skipBlanks u12) : Option TV).bind (fun u13 => if 0 ≤ u13.2.2.2.2.2.2 then (some (u13.2.2.2.2.2.2, u13)) else (if u13.2.2.2.1 ≤ u13.2.2.2.2.2.1 then (some (u13.2.2.2.2.2.2, u13)) else (some (u13.2.2.2.2.2.1, (u13.1, u13.2.1, u13.2.2.1, u13.2.2.2.1, u13.2.2.2.2.1, u13.2.2.2.2.2.1, u13.2.2.2.2.2.1)))))))))))
set_option maxRecDepth 100000 in
set_option maxHeartbeats 4000000 in
theorem tX4_readRoof (l : Launch) (G : va_G) (ca : Nat → ClassId) (ad : Nat → Nat) (v : TV)  {o : (Int32 × TV)} (hf : fX4_readRoof v = some o) : zMi l yX4_readRoof wsX4_readRoof rX4_readRoof G ca [.ref (ad 0)] (wT ca ad v) o.1 (wT ca ad o.2) := by
  refine zMi.of (cc := cX4_readRoof) (nL := 2) (own := RX4) (ty := .int) (by decide) rfl rfl (Nat.le_of_ble_eq_true rfl) (fun X h hE => ?_)
  show V X G 2 0 0 (wT ca ad v) 0 [(0, .ref (ad 0))] []
  unfold fX4_readRoof at hf
  refine v_aload_n h dX4_readRoof_0 0 rfl 1 rfl ?_
  refine v_iconst h dX4_readRoof_1 0 rfl 2 rfl ?_
  refine v_put h dX4_readRoof_2 iX4_readRoof_X4 tyX4 tyX4_ok nmX4 0 rfl rfl 5 (by decide) (zwi 1 rfl) rfl rfl rfl (Nat.le_of_ble_eq_true rfl) (wT ca ad (v.1, v.2.1, v.2.2.1, v.2.2.2.1, v.2.2.2.2.1, 0, v.2.2.2.2.2.2)) rfl 5 rfl ?_
  refine v_aload_n h dX4_readRoof_5 0 rfl 6 rfl ?_
  refine v_iconst h dX4_readRoof_6 (-1) rfl 7 rfl ?_
  refine v_put h dX4_readRoof_7 iX4_readRoof_X4 tyX4 tyX4_ok nmX4 0 rfl rfl 6 (by decide) (zwi 2 rfl) rfl rfl rfl (Nat.le_of_ble_eq_true rfl) (wT ca ad (v.1, v.2.1, v.2.2.1, v.2.2.2.1, v.2.2.2.2.1, 0, (-1))) rfl 10 rfl ?_
  refine v_aload_n h dX4_readRoof_10 0 rfl 11 rfl ?_
  refine v_get h (v := .ref (ad 2)) dX4_readRoof_11 iX4_readRoof_X4 0 rfl rfl 1 (by decide) (zwi 3 rfl) rfl 14 rfl ?_
  refine v_iconst h dX4_readRoof_14 0 rfl 15 rfl ?_
  refine v_put h dX4_readRoof_15 iX4_readRoof_X5 tyX5 tyX5_ok nmX5 2 rfl rfl 1 (by decide) (zwi 4 rfl) rfl rfl rfl (Nat.le_of_ble_eq_true rfl) (wT ca ad (v.1, (v.2.1.1, 0), v.2.2.1, v.2.2.2.1, v.2.2.2.2.1, 0, (-1))) rfl 18 rfl ?_
  refine v_aload_n h dX4_readRoof_18 0 rfl 19 rfl ?_
  refine v_get h (v := .ref (ad 4)) dX4_readRoof_19 iX4_readRoof_X4 0 rfl rfl 2 (by decide) (zwi 5 rfl) rfl 22 rfl ?_
  refine v_iconst h dX4_readRoof_22 0 rfl 23 rfl ?_
  refine v_put h dX4_readRoof_23 iX4_readRoof_X0 tyX0 tyX0_ok nmX0 4 rfl rfl 4 (by decide) (zwi 6 rfl) rfl rfl rfl (Nat.le_of_ble_eq_true rfl) (wT ca ad (v.1, (v.2.1.1, 0), (v.2.2.1.1, v.2.2.1.2.1, v.2.2.1.2.2.1, v.2.2.1.2.2.2.1, 0, v.2.2.1.2.2.2.2.2), v.2.2.2.1, v.2.2.2.2.1, 0, (-1))) rfl 26 rfl ?_
  refine v_aload_n h dX4_readRoof_26 0 rfl 27 rfl ?_
  refine v_iconst h dX4_readRoof_27 2 rfl 28 rfl ?_
  refine v_aload_n h dX4_readRoof_28 0 rfl 29 rfl ?_
  refine v_iconst h dX4_readRoof_29 1 rfl 30 rfl ?_
  refine v_bipush h dX4_readRoof_30 99 rfl 32 rfl ?_
  obtain ⟨u1, hu1, hf⟩ := zb hf
  refine v_wcallVi h (rest := [.int 2, .ref (ad 0)]) dX4_readRoof_32 (tX4_readNumber l G ca ad (v.1, (v.2.1.1, 0), (v.2.2.1.1, v.2.2.1.2.1, v.2.2.1.2.2.1, v.2.2.1.2.2.2.1, 0, v.2.2.1.2.2.2.2.2), v.2.2.2.1, v.2.2.2.2.1, 0, (-1)) 1 99 hu1) gX4_readRoof_X4_readNumber rfl rfl ⟨rfl, rfl⟩ nX4_readNumber ⟨Nat.le_of_ble_eq_true rfl, Nat.le_of_ble_eq_true rfl⟩ 0 rfl rfl rfl rfl (Nat.le_of_ble_eq_true rfl) ⟨Nat.zero_le _, Nat.zero_le _⟩ (wT_adr _ _ _ _) 35 rfl ?_
  refine v_imul h dX4_readRoof_35 36 rfl ?_
  refine v_put h dX4_readRoof_36 iX4_readRoof_X4 tyX4 tyX4_ok nmX4 0 rfl rfl 4 (by decide) (zwi 7 rfl) rfl rfl rfl (Nat.le_of_ble_eq_true rfl) (wT ca ad (u1.2.1, u1.2.2.1, u1.2.2.2.1, u1.2.2.2.2.1, (2 * u1.1), u1.2.2.2.2.2.2)) rfl 39 rfl ?_
  refine v_iconst h dX4_readRoof_39 0 rfl 40 rfl ?_
  refine v_istore_n h dX4_readRoof_40 (Nat.le_of_ble_eq_true rfl) rfl rfl [(0, .ref (ad 0)), (1, .int 0)] rfl 41 rfl ?_
  obtain ⟨u2, hu2, hf⟩ := zb hf
  refine v_sub [0, 1] rfl ?_
  refine tX4_readRoof_l41 h zF (u1.2.1, u1.2.2.1, u1.2.2.2.1, u1.2.2.2.2.1, (2 * u1.1), u1.2.2.2.2.2.2) 0 _ hu2 ?_
  refine v_aload_n h dX4_readRoof_83 0 rfl 84 rfl ?_
  refine v_get h (v := .int u2.2.2.2.2.2.2) dX4_readRoof_84 iX4_readRoof_X4 0 rfl rfl 6 (by decide) (zwi 2 rfl) rfl 87 rfl ?_
  refine v_if_ge h dX4_readRoof_87 103 (by decide) 90 rfl (fun c3 => ?_) (fun c3 => ?_)
  · replace hf := zt c3 hf
    refine v_aload_n h dX4_readRoof_103 0 rfl 104 rfl ?_
    obtain ⟨u4, hu4, hf⟩ := zb hf
    refine v_wcallVv h (rest := []) dX4_readRoof_104 (tX4_skipBlanks l G ca ad u2  hu4) gX4_readRoof_X4_skipBlanks rfl rfl ⟨rfl, rfl⟩ nX4_skipBlanks ⟨Nat.le_of_ble_eq_true rfl, Nat.le_of_ble_eq_true rfl⟩ 0 rfl rfl rfl rfl (Nat.le_of_ble_eq_true rfl) ⟨Nat.zero_le _, Nat.zero_le _⟩ (wT_adr _ _ _ _) 107 rfl ?_
    refine v_aload_n h dX4_readRoof_107 0 rfl 108 rfl ?_
    refine v_get h (v := .int u4.2.2.2.2.2.2) dX4_readRoof_108 iX4_readRoof_X4 0 rfl rfl 6 (by decide) (zwi 2 rfl) rfl 111 rfl ?_
    refine v_if_ge h dX4_readRoof_111 133 (by decide) 114 rfl (fun c5 => ?_) (fun c5 => ?_)
    · replace hf := zt c5 hf
      refine v_aload_n h dX4_readRoof_133 0 rfl 134 rfl ?_
      refine v_get h (v := .int u4.2.2.2.2.2.2) dX4_readRoof_134 iX4_readRoof_X4 0 rfl rfl 6 (by decide) (zwi 2 rfl) rfl 137 rfl ?_
      cases (Option.some.inj hf)
      exact hE 137 _ rfl dX4_readRoof_137
    · replace hf := zf c5 hf
      refine v_aload_n h dX4_readRoof_114 0 rfl 115 rfl ?_
      refine v_get h (v := .int u4.2.2.2.2.2.1) dX4_readRoof_115 iX4_readRoof_X4 0 rfl rfl 5 (by decide) (zwi 1 rfl) rfl 118 rfl ?_
      refine v_aload_n h dX4_readRoof_118 0 rfl 119 rfl ?_
      refine v_get h (v := .int u4.2.2.2.1) dX4_readRoof_119 iX4_readRoof_X4 0 rfl rfl 3 (by decide) (zwi 8 rfl) rfl 122 rfl ?_
      refine v_icmp_ge h dX4_readRoof_122 133 (by decide) 125 rfl (fun c6 => ?_) (fun c6 => ?_)
      · replace hf := zt c6 hf
        refine v_aload_n h dX4_readRoof_133 0 rfl 134 rfl ?_
        refine v_get h (v := .int u4.2.2.2.2.2.2) dX4_readRoof_134 iX4_readRoof_X4 0 rfl rfl 6 (by decide) (zwi 2 rfl) rfl 137 rfl ?_
        cases (Option.some.inj hf)
        exact hE 137 _ rfl dX4_readRoof_137
      · replace hf := zf c6 hf
        refine v_aload_n h dX4_readRoof_125 0 rfl 126 rfl ?_
        refine v_aload_n h dX4_readRoof_126 0 rfl 127 rfl ?_
        refine v_get h (v := .int u4.2.2.2.2.2.1) dX4_readRoof_127 iX4_readRoof_X4 0 rfl rfl 5 (by decide) (zwi 1 rfl) rfl 130 rfl ?_
        refine v_put h dX4_readRoof_130 iX4_readRoof_X4 tyX4 tyX4_ok nmX4 0 rfl rfl 6 (by decide) (zwi 2 rfl) rfl rfl rfl (Nat.le_of_ble_eq_true rfl) (wT ca ad (u4.1, u4.2.1, u4.2.2.1, u4.2.2.2.1, u4.2.2.2.2.1, u4.2.2.2.2.2.1, u4.2.2.2.2.2.1)) rfl 133 rfl ?_
        refine v_aload_n h dX4_readRoof_133 0 rfl 134 rfl ?_
        refine v_get h (v := .int u4.2.2.2.2.2.1) dX4_readRoof_134 iX4_readRoof_X4 0 rfl rfl 6 (by decide) (zwi 2 rfl) rfl 137 rfl ?_
        cases (Option.some.inj hf)
        exact hE 137 _ rfl dX4_readRoof_137
  · replace hf := zf c3 hf
    refine v_aload_n h dX4_readRoof_90 0 rfl 91 rfl ?_
    refine v_bipush h dX4_readRoof_91 59 rfl 93 rfl ?_
    obtain ⟨u7, hu7, hf⟩ := zb hf
    refine v_wcallVi h (rest := []) dX4_readRoof_93 (tX4_takeLetter l G ca ad u2 59 hu7) gX4_readRoof_X4_takeLetter rfl rfl ⟨rfl, rfl⟩ nX4_takeLetter ⟨Nat.le_of_ble_eq_true rfl, Nat.le_of_ble_eq_true rfl⟩ 0 rfl rfl rfl rfl (Nat.le_of_ble_eq_true rfl) ⟨Nat.zero_le _, Nat.zero_le _⟩ (wT_adr _ _ _ _) 96 rfl ?_
    refine v_if_eq h dX4_readRoof_96 103 (by decide) 99 rfl (fun c8 => ?_) (fun c8 => ?_)
    · replace hf := zt c8 hf
      refine v_aload_n h dX4_readRoof_103 0 rfl 104 rfl ?_
      obtain ⟨u9, hu9, hf⟩ := zb hf
      refine v_wcallVv h (rest := []) dX4_readRoof_104 (tX4_skipBlanks l G ca ad u7.2  hu9) gX4_readRoof_X4_skipBlanks rfl rfl ⟨rfl, rfl⟩ nX4_skipBlanks ⟨Nat.le_of_ble_eq_true rfl, Nat.le_of_ble_eq_true rfl⟩ 0 rfl rfl rfl rfl (Nat.le_of_ble_eq_true rfl) ⟨Nat.zero_le _, Nat.zero_le _⟩ (wT_adr _ _ _ _) 107 rfl ?_
      refine v_aload_n h dX4_readRoof_107 0 rfl 108 rfl ?_
      refine v_get h (v := .int u9.2.2.2.2.2.2) dX4_readRoof_108 iX4_readRoof_X4 0 rfl rfl 6 (by decide) (zwi 2 rfl) rfl 111 rfl ?_
      refine v_if_ge h dX4_readRoof_111 133 (by decide) 114 rfl (fun c10 => ?_) (fun c10 => ?_)
      · replace hf := zt c10 hf
        refine v_aload_n h dX4_readRoof_133 0 rfl 134 rfl ?_
        refine v_get h (v := .int u9.2.2.2.2.2.2) dX4_readRoof_134 iX4_readRoof_X4 0 rfl rfl 6 (by decide) (zwi 2 rfl) rfl 137 rfl ?_
        cases (Option.some.inj hf)
        exact hE 137 _ rfl dX4_readRoof_137
      · replace hf := zf c10 hf
        refine v_aload_n h dX4_readRoof_114 0 rfl 115 rfl ?_
        refine v_get h (v := .int u9.2.2.2.2.2.1) dX4_readRoof_115 iX4_readRoof_X4 0 rfl rfl 5 (by decide) (zwi 1 rfl) rfl 118 rfl ?_
        refine v_aload_n h dX4_readRoof_118 0 rfl 119 rfl ?_
        refine v_get h (v := .int u9.2.2.2.1) dX4_readRoof_119 iX4_readRoof_X4 0 rfl rfl 3 (by decide) (zwi 8 rfl) rfl 122 rfl ?_
        refine v_icmp_ge h dX4_readRoof_122 133 (by decide) 125 rfl (fun c11 => ?_) (fun c11 => ?_)
        · replace hf := zt c11 hf
          refine v_aload_n h dX4_readRoof_133 0 rfl 134 rfl ?_
          refine v_get h (v := .int u9.2.2.2.2.2.2) dX4_readRoof_134 iX4_readRoof_X4 0 rfl rfl 6 (by decide) (zwi 2 rfl) rfl 137 rfl ?_
          cases (Option.some.inj hf)
          exact hE 137 _ rfl dX4_readRoof_137
        · replace hf := zf c11 hf
          refine v_aload_n h dX4_readRoof_125 0 rfl 126 rfl ?_
          refine v_aload_n h dX4_readRoof_126 0 rfl 127 rfl ?_
          refine v_get h (v := .int u9.2.2.2.2.2.1) dX4_readRoof_127 iX4_readRoof_X4 0 rfl rfl 5 (by decide) (zwi 1 rfl) rfl 130 rfl ?_
          refine v_put h dX4_readRoof_130 iX4_readRoof_X4 tyX4 tyX4_ok nmX4 0 rfl rfl 6 (by decide) (zwi 2 rfl) rfl rfl rfl (Nat.le_of_ble_eq_true rfl) (wT ca ad (u9.1, u9.2.1, u9.2.2.1, u9.2.2.2.1, u9.2.2.2.2.1, u9.2.2.2.2.2.1, u9.2.2.2.2.2.1)) rfl 133 rfl ?_
          refine v_aload_n h dX4_readRoof_133 0 rfl 134 rfl ?_
          refine v_get h (v := .int u9.2.2.2.2.2.1) dX4_readRoof_134 iX4_readRoof_X4 0 rfl rfl 6 (by decide) (zwi 2 rfl) rfl 137 rfl ?_
          cases (Option.some.inj hf)
          exact hE 137 _ rfl dX4_readRoof_137
    · replace hf := zf c8 hf
      refine v_aload_n h dX4_readRoof_99 0 rfl 100 rfl ?_
      obtain ⟨u12, hu12, hf⟩ := zb hf
      refine v_wcallVv h (rest := []) dX4_readRoof_100 (tX4_readCoats l G ca ad u7.2  hu12) gX4_readRoof_X4_readCoats rfl rfl ⟨rfl, rfl⟩ nX4_readCoats ⟨Nat.le_of_ble_eq_true rfl, Nat.le_of_ble_eq_true rfl⟩ 0 rfl rfl rfl rfl (Nat.le_of_ble_eq_true rfl) ⟨Nat.zero_le _, Nat.zero_le _⟩ (wT_adr _ _ _ _) 103 rfl ?_
      refine v_aload_n h dX4_readRoof_103 0 rfl 104 rfl ?_
      obtain ⟨u13, hu13, hf⟩ := zb hf
      refine v_wcallVv h (rest := []) dX4_readRoof_104 (tX4_skipBlanks l G ca ad u12  hu13) gX4_readRoof_X4_skipBlanks rfl rfl ⟨rfl, rfl⟩ nX4_skipBlanks ⟨Nat.le_of_ble_eq_true rfl, Nat.le_of_ble_eq_true rfl⟩ 0 rfl rfl rfl rfl (Nat.le_of_ble_eq_true rfl) ⟨Nat.zero_le _, Nat.zero_le _⟩ (wT_adr _ _ _ _) 107 rfl ?_
      refine v_aload_n h dX4_readRoof_107 0 rfl 108 rfl ?_
      refine v_get h (v := .int u13.2.2.2.2.2.2) dX4_readRoof_108 iX4_readRoof_X4 0 rfl rfl 6 (by decide) (zwi 2 rfl) rfl 111 rfl ?_
      refine v_if_ge h dX4_readRoof_111 133 (by decide) 114 rfl (fun c14 => ?_) (fun c14 => ?_)
      · replace hf := zt c14 hf
        refine v_aload_n h dX4_readRoof_133 0 rfl 134 rfl ?_
        refine v_get h (v := .int u13.2.2.2.2.2.2) dX4_readRoof_134 iX4_readRoof_X4 0 rfl rfl 6 (by decide) (zwi 2 rfl) rfl 137 rfl ?_
        cases (Option.some.inj hf)
        exact hE 137 _ rfl dX4_readRoof_137
      · replace hf := zf c14 hf
        refine v_aload_n h dX4_readRoof_114 0 rfl 115 rfl ?_
        refine v_get h (v := .int u13.2.2.2.2.2.1) dX4_readRoof_115 iX4_readRoof_X4 0 rfl rfl 5 (by decide) (zwi 1 rfl) rfl 118 rfl ?_
        refine v_aload_n h dX4_readRoof_118 0 rfl 119 rfl ?_
        refine v_get h (v := .int u13.2.2.2.1) dX4_readRoof_119 iX4_readRoof_X4 0 rfl rfl 3 (by decide) (zwi 8 rfl) rfl 122 rfl ?_
        refine v_icmp_ge h dX4_readRoof_122 133 (by decide) 125 rfl (fun c15 => ?_) (fun c15 => ?_)
        · replace hf := zt c15 hf
          refine v_aload_n h dX4_readRoof_133 0 rfl 134 rfl ?_
          refine v_get h (v := .int u13.2.2.2.2.2.2) dX4_readRoof_134 iX4_readRoof_X4 0 rfl rfl 6 (by decide) (zwi 2 rfl) rfl 137 rfl ?_
          cases (Option.some.inj hf)
          exact hE 137 _ rfl dX4_readRoof_137
        · replace hf := zf c15 hf
          refine v_aload_n h dX4_readRoof_125 0 rfl 126 rfl ?_
          refine v_aload_n h dX4_readRoof_126 0 rfl 127 rfl ?_
          refine v_get h (v := .int u13.2.2.2.2.2.1) dX4_readRoof_127 iX4_readRoof_X4 0 rfl rfl 5 (by decide) (zwi 1 rfl) rfl 130 rfl ?_
          refine v_put h dX4_readRoof_130 iX4_readRoof_X4 tyX4 tyX4_ok nmX4 0 rfl rfl 6 (by decide) (zwi 2 rfl) rfl rfl rfl (Nat.le_of_ble_eq_true rfl) (wT ca ad (u13.1, u13.2.1, u13.2.2.1, u13.2.2.2.1, u13.2.2.2.2.1, u13.2.2.2.2.2.1, u13.2.2.2.2.2.1)) rfl 133 rfl ?_
          refine v_aload_n h dX4_readRoof_133 0 rfl 134 rfl ?_
          refine v_get h (v := .int u13.2.2.2.2.2.1) dX4_readRoof_134 iX4_readRoof_X4 0 rfl rfl 6 (by decide) (zwi 2 rfl) rfl 137 rfl ?_
          cases (Option.some.inj hf)
          exact hE 137 _ rfl dX4_readRoof_137
