theorem zi_45_407 : vp_in 45 407 := by unfold vp_in; decide
theorem zi_3_407 : vp_in 3 407 := by unfold vp_in; decide
theorem zi_0_407 : vp_in 0 407 := by unfold vp_in; decide
theorem zi_2_407 : vp_in 2 407 := by unfold vp_in; decide
abbrev rX7_in : Room := { frames := 0, cells := 0, slots := 0, locals := 0 }
theorem nX7_in : zNoMH yX7_in 3 := ⟨by decide +kernel, by decide +kernel, by decide +kernel⟩
def fX7_in (x0 : Int32) (x1 : Int32) (x2 : Int32) : Option Int32 := if x0 < x1 then (some 0) else (if x2 < x0 then (some 0) else (some 1))
set_option maxRecDepth 100000 in
set_option maxHeartbeats 4000000 in
theorem tX7_in (l : Launch) (G : va_G) (ca : Nat → ClassId)   (x0 : Int32) (x1 : Int32) (x2 : Int32) {o : Int32} (hf : fX7_in x0 x1 x2 = some o) : zMi l yX7_in wsX7_in rX7_in G ca [.int x0, .int x1, .int x2] ([] : va_W) o ([] : va_W) := by
  refine zMi.of (cc := cX7_in) (nL := 3) (own := RX7) (ty := .boolean) (by decide) rfl rfl (Nat.le_of_ble_eq_true rfl) (fun X h hE => ?_)
  show V X G 3 0 0 ([] : va_W) 0 [(0, .int x0), (1, .int x1), (2, .int x2)] []
  unfold fX7_in at hf
  refine v_iload_n h dX7_in_0 0 rfl 1 rfl ?_
  refine v_iload_n h dX7_in_1 1 rfl 2 rfl ?_
  refine v_icmp_lt h dX7_in_2 14 (by decide) 5 rfl (fun c1 => ?_) (fun c1 => ?_)
  · replace hf := zt c1 hf
    refine v_iconst h dX7_in_14 0 rfl 15 rfl ?_
    cases (Option.some.inj hf)
    exact hE 15 _ znar0 dX7_in_15
  · replace hf := zf c1 hf
    refine v_iload_n h dX7_in_5 0 rfl 6 rfl ?_
    refine v_iload_n h dX7_in_6 2 rfl 7 rfl ?_
    refine v_icmp_gt h dX7_in_7 14 (by decide) 10 rfl (fun c2 => ?_) (fun c2 => ?_)
    · replace hf := zt c2 hf
      refine v_iconst h dX7_in_14 0 rfl 15 rfl ?_
      cases (Option.some.inj hf)
      exact hE 15 _ znar0 dX7_in_15
    · replace hf := zf c2 hf
      refine v_iconst h dX7_in_10 1 rfl 11 rfl ?_
      refine v_goto h dX7_in_11 15 (by decide) ?_
      cases (Option.some.inj hf)
      exact hE 15 _ znar1 dX7_in_15
abbrev rX7_has : Room := { frames := 0, cells := 0, slots := 0, locals := 0 }
theorem nX7_has : zNoMH yX7_has 2 := ⟨by decide +kernel, by decide +kernel, by decide +kernel⟩
def fX7_has (x0 : Int32) (x1 : Int32) : Option Int32 := zlet (x0 >>> (x1 &&& 31) : Int32) (fun d1 => zlet (d1 &&& 1 : Int32) (fun d2 => if d2 = 1 then (some 1) else (some 0)))
set_option maxRecDepth 100000 in
set_option maxHeartbeats 4000000 in
theorem tX7_has (l : Launch) (G : va_G) (ca : Nat → ClassId)   (x0 : Int32) (x1 : Int32) {o : Int32} (hf : fX7_has x0 x1 = some o) : zMi l yX7_has wsX7_has rX7_has G ca [.int x0, .int x1] ([] : va_W) o ([] : va_W) := by
  refine zMi.of (cc := cX7_has) (nL := 2) (own := RX7) (ty := .boolean) (by decide) rfl rfl (Nat.le_of_ble_eq_true rfl) (fun X h hE => ?_)
  show V X G 2 0 0 ([] : va_W) 0 [(0, .int x0), (1, .int x1)] []
  unfold fX7_has at hf
  refine v_iload_n h dX7_has_0 0 rfl 1 rfl ?_
  refine v_iload_n h dX7_has_1 1 rfl 2 rfl ?_
  refine v_ishr h dX7_has_2 3 rfl ?_
  obtain ⟨d1, ed1, hf⟩ := zl hf
  refine v_topi ed1 ?_
  refine v_iconst h dX7_has_3 1 rfl 4 rfl ?_
  refine v_iand h dX7_has_4 5 rfl ?_
  obtain ⟨d2, ed2, hf⟩ := zl hf
  refine v_topi ed2 ?_
  refine v_iconst h dX7_has_5 1 rfl 6 rfl ?_
  refine v_icmp_ne h dX7_has_6 13 (by decide) 9 rfl (fun c3 => ?_) (fun c3 => ?_)
  · replace hf := zf c3 hf
    refine v_iconst h dX7_has_13 0 rfl 14 rfl ?_
    cases (Option.some.inj hf)
    exact hE 14 _ znar0 dX7_has_14
  · replace hf := zt c3 hf
    refine v_iconst h dX7_has_9 1 rfl 10 rfl ?_
    refine v_goto h dX7_has_10 14 (by decide) ?_
    cases (Option.some.inj hf)
    exact hE 14 _ znar1 dX7_has_14
abbrev rX7_kindBy : Room := { frames := 0, cells := 0, slots := 0, locals := 0 }
theorem nX7_kindBy : zNoMH yX7_kindBy 1 := ⟨by decide +kernel, by decide +kernel, by decide +kernel⟩
def fX7_kindBy (x0 : Int32) : Option Int32 := if x0 = 114 then (some 0) else (if x0 = 119 then (some 1) else (if x0 = 115 then (some 2) else (if x0 = 121 then (some 3) else (if x0 = 116 then (some 4) else (some (-1))))))
set_option maxRecDepth 100000 in
set_option maxHeartbeats 4000000 in
theorem tX7_kindBy (l : Launch) (G : va_G) (ca : Nat → ClassId)   (x0 : Int32) {o : Int32} (hf : fX7_kindBy x0 = some o) : zMi l yX7_kindBy wsX7_kindBy rX7_kindBy G ca [.int x0] ([] : va_W) o ([] : va_W) := by
  refine zMi.of (cc := cX7_kindBy) (nL := 1) (own := RX7) (ty := .int) (by decide) rfl rfl (Nat.le_of_ble_eq_true rfl) (fun X h hE => ?_)
  show V X G 1 0 0 ([] : va_W) 0 [(0, .int x0)] []
  unfold fX7_kindBy at hf
  refine v_iload_n h dX7_kindBy_0 0 rfl 1 rfl ?_
  refine v_bipush h dX7_kindBy_1 114 rfl 3 rfl ?_
  refine v_icmp_ne h dX7_kindBy_3 10 (by decide) 6 rfl (fun c1 => ?_) (fun c1 => ?_)
  · replace hf := zf c1 hf
    refine v_iload_n h dX7_kindBy_10 0 rfl 11 rfl ?_
    refine v_bipush h dX7_kindBy_11 119 rfl 13 rfl ?_
    refine v_icmp_ne h dX7_kindBy_13 20 (by decide) 16 rfl (fun c2 => ?_) (fun c2 => ?_)
    · replace hf := zf c2 hf
      refine v_iload_n h dX7_kindBy_20 0 rfl 21 rfl ?_
      refine v_bipush h dX7_kindBy_21 115 rfl 23 rfl ?_
      refine v_icmp_ne h dX7_kindBy_23 30 (by decide) 26 rfl (fun c3 => ?_) (fun c3 => ?_)
      · replace hf := zf c3 hf
        refine v_iload_n h dX7_kindBy_30 0 rfl 31 rfl ?_
        refine v_bipush h dX7_kindBy_31 121 rfl 33 rfl ?_
        refine v_icmp_ne h dX7_kindBy_33 40 (by decide) 36 rfl (fun c4 => ?_) (fun c4 => ?_)
        · replace hf := zf c4 hf
          refine v_iload_n h dX7_kindBy_40 0 rfl 41 rfl ?_
          refine v_bipush h dX7_kindBy_41 116 rfl 43 rfl ?_
          refine v_icmp_ne h dX7_kindBy_43 50 (by decide) 46 rfl (fun c5 => ?_) (fun c5 => ?_)
          · replace hf := zf c5 hf
            refine v_iconst h dX7_kindBy_50 (-1) rfl 51 rfl ?_
            cases (Option.some.inj hf)
            exact hE 51 _ rfl dX7_kindBy_51
          · replace hf := zt c5 hf
            refine v_iconst h dX7_kindBy_46 4 rfl 47 rfl ?_
            refine v_goto h dX7_kindBy_47 51 (by decide) ?_
            cases (Option.some.inj hf)
            exact hE 51 _ rfl dX7_kindBy_51
        · replace hf := zt c4 hf
          refine v_iconst h dX7_kindBy_36 3 rfl 37 rfl ?_
          refine v_goto h dX7_kindBy_37 51 (by decide) ?_
          cases (Option.some.inj hf)
          exact hE 51 _ rfl dX7_kindBy_51
      · replace hf := zt c3 hf
        refine v_iconst h dX7_kindBy_26 2 rfl 27 rfl ?_
        refine v_goto h dX7_kindBy_27 51 (by decide) ?_
        cases (Option.some.inj hf)
        exact hE 51 _ rfl dX7_kindBy_51
    · replace hf := zt c2 hf
      refine v_iconst h dX7_kindBy_16 1 rfl 17 rfl ?_
      refine v_goto h dX7_kindBy_17 51 (by decide) ?_
      cases (Option.some.inj hf)
      exact hE 51 _ rfl dX7_kindBy_51
  · replace hf := zt c1 hf
    refine v_iconst h dX7_kindBy_6 0 rfl 7 rfl ?_
    refine v_goto h dX7_kindBy_7 51 (by decide) ?_
    cases (Option.some.inj hf)
    exact hE 51 _ rfl dX7_kindBy_51
abbrev rX7_isSheet : Room := { frames := 1, cells := 0, slots := 0, locals := 22 }
theorem nX7_isSheet : zNoMH yX7_isSheet 1 := ⟨by decide +kernel, by decide +kernel, by decide +kernel⟩
def fX7_isSheet (x0 : Int32) : Option Int32 := ((fX7_in x0 0 3) : Option Int32).bind (fun u1 => zgrd (zbl u1) (some u1))
set_option maxRecDepth 100000 in
set_option maxHeartbeats 4000000 in
theorem tX7_isSheet (l : Launch) (G : va_G) (ca : Nat → ClassId)   (x0 : Int32) {o : Int32} (hf : fX7_isSheet x0 = some o) : zMi l yX7_isSheet wsX7_isSheet rX7_isSheet G ca [.int x0] ([] : va_W) o ([] : va_W) := by
  refine zMi.of (cc := cX7_isSheet) (nL := 1) (own := RX7) (ty := .boolean) (by decide) rfl rfl (Nat.le_of_ble_eq_true rfl) (fun X h hE => ?_)
  show V X G 1 0 0 ([] : va_W) 0 [(0, .int x0)] []
  unfold fX7_isSheet at hf
  refine v_iload_n h dX7_isSheet_0 0 rfl 1 rfl ?_
  refine v_iconst h dX7_isSheet_1 0 rfl 2 rfl ?_
  refine v_iconst h dX7_isSheet_2 3 rfl 3 rfl ?_
  obtain ⟨u1, hu1, hf⟩ := zb hf
  refine v_callSi h (rest := []) dX7_isSheet_3 (tX7_in l G ca   x0 0 3 hu1) gX7_isSheet_X7_in rfl ⟨rfl, rfl⟩ nX7_in ⟨Nat.le_of_ble_eq_true rfl, Nat.le_of_ble_eq_true rfl⟩ [] rfl rfl rfl rfl (Nat.le_of_ble_eq_true rfl) ⟨Nat.zero_le _, Nat.zero_le _⟩ rfl ([] : va_W) rfl rfl 6 rfl ?_
  obtain ⟨g2, hf⟩ := zg hf
  cases (Option.some.inj hf)
  exact hE 6 _ (zbl_nar g2) dX7_isSheet_6
abbrev rX7_isPart : Room := { frames := 0, cells := 0, slots := 0, locals := 0 }
theorem nX7_isPart : zNoMH yX7_isPart 3 := ⟨by decide +kernel, by decide +kernel, by decide +kernel⟩
def fX7_isPart (x0 : Int32) (x1 : Int32) (x2 : Int32) : Option Int32 := if x1 < 0 then (some 0) else (if x0 < 0 then (some 0) else (if x2 < x1 then (some 0) else (if (x2 - x1) < x0 then (some 0) else (some 1))))
set_option maxRecDepth 100000 in
set_option maxHeartbeats 4000000 in
theorem tX7_isPart (l : Launch) (G : va_G) (ca : Nat → ClassId)   (x0 : Int32) (x1 : Int32) (x2 : Int32) {o : Int32} (hf : fX7_isPart x0 x1 x2 = some o) : zMi l yX7_isPart wsX7_isPart rX7_isPart G ca [.int x0, .int x1, .int x2] ([] : va_W) o ([] : va_W) := by
  refine zMi.of (cc := cX7_isPart) (nL := 3) (own := RX7) (ty := .boolean) (by decide) rfl rfl (Nat.le_of_ble_eq_true rfl) (fun X h hE => ?_)
  show V X G 3 0 0 ([] : va_W) 0 [(0, .int x0), (1, .int x1), (2, .int x2)] []
  unfold fX7_isPart at hf
  refine v_iload_n h dX7_isPart_0 1 rfl 1 rfl ?_
  refine v_if_lt h dX7_isPart_1 24 (by decide) 4 rfl (fun c1 => ?_) (fun c1 => ?_)
  · replace hf := zt c1 hf
    refine v_iconst h dX7_isPart_24 0 rfl 25 rfl ?_
    cases (Option.some.inj hf)
    exact hE 25 _ znar0 dX7_isPart_25
  · replace hf := zf c1 hf
    refine v_iload_n h dX7_isPart_4 0 rfl 5 rfl ?_
    refine v_if_lt h dX7_isPart_5 24 (by decide) 8 rfl (fun c2 => ?_) (fun c2 => ?_)
    · replace hf := zt c2 hf
      refine v_iconst h dX7_isPart_24 0 rfl 25 rfl ?_
      cases (Option.some.inj hf)
      exact hE 25 _ znar0 dX7_isPart_25
    · replace hf := zf c2 hf
      refine v_iload_n h dX7_isPart_8 1 rfl 9 rfl ?_
      refine v_iload_n h dX7_isPart_9 2 rfl 10 rfl ?_
      refine v_icmp_gt h dX7_isPart_10 24 (by decide) 13 rfl (fun c3 => ?_) (fun c3 => ?_)
      · replace hf := zt c3 hf
        refine v_iconst h dX7_isPart_24 0 rfl 25 rfl ?_
        cases (Option.some.inj hf)
        exact hE 25 _ znar0 dX7_isPart_25
      · replace hf := zf c3 hf
        refine v_iload_n h dX7_isPart_13 0 rfl 14 rfl ?_
        refine v_iload_n h dX7_isPart_14 2 rfl 15 rfl ?_
        refine v_iload_n h dX7_isPart_15 1 rfl 16 rfl ?_
        refine v_isub h dX7_isPart_16 17 rfl ?_
        refine v_icmp_gt h dX7_isPart_17 24 (by decide) 20 rfl (fun c4 => ?_) (fun c4 => ?_)
        · replace hf := zt c4 hf
          refine v_iconst h dX7_isPart_24 0 rfl 25 rfl ?_
          cases (Option.some.inj hf)
          exact hE 25 _ znar0 dX7_isPart_25
        · replace hf := zf c4 hf
          refine v_iconst h dX7_isPart_20 1 rfl 21 rfl ?_
          refine v_goto h dX7_isPart_21 25 (by decide) ?_
          cases (Option.some.inj hf)
          exact hE 25 _ znar1 dX7_isPart_25
abbrev rX7_cutTo : Room := { frames := 0, cells := 0, slots := 0, locals := 0 }
theorem nX7_cutTo : zNoMH yX7_cutTo 2 := ⟨by decide +kernel, by decide +kernel, by decide +kernel⟩
def fX7_cutTo (x0 : Int32) (x1 : Int64) : Option Int64 := if x0 = 0 then (zlet (x1.toInt32 : Int32) (fun d7 => zlet (d7.toInt8.toInt32 : Int32) (fun d8 => some d8.toInt64))) else (if x0 = 1 then (zlet (x1.toInt32 : Int32) (fun d5 => zlet (d5.toInt16.toInt32 : Int32) (fun d6 => some d6.toInt64))) else (if x0 = 2 then (zlet (x1.toInt32 : Int32) (fun d4 => some d4.toInt64)) else (some x1)))
set_option maxRecDepth 100000 in
set_option maxHeartbeats 4000000 in
theorem tX7_cutTo (l : Launch) (G : va_G) (ca : Nat → ClassId)   (x0 : Int32) (x1 : Int64) {o : Int64} (hf : fX7_cutTo x0 x1 = some o) : zMl l yX7_cutTo wsX7_cutTo rX7_cutTo G ca [.int x0, .long x1] ([] : va_W) o ([] : va_W) := by
  refine zMl.of (cc := cX7_cutTo) (nL := 3) (own := RX7) (by decide) rfl rfl (Nat.le_of_ble_eq_true rfl) (fun X h hE => ?_)
  show V X G 3 0 0 ([] : va_W) 0 [(0, .int x0), (1, .long x1)] []
  unfold fX7_cutTo at hf
  refine v_iload_n h dX7_cutTo_0 0 rfl 1 rfl ?_
  refine v_if_ne h dX7_cutTo_1 11 (by decide) 4 rfl (fun c1 => ?_) (fun c1 => ?_)
  · replace hf := zf c1 hf
    refine v_iload_n h dX7_cutTo_11 0 rfl 12 rfl ?_
    refine v_iconst h dX7_cutTo_12 1 rfl 13 rfl ?_
    refine v_icmp_ne h dX7_cutTo_13 23 (by decide) 16 rfl (fun c2 => ?_) (fun c2 => ?_)
    · replace hf := zf c2 hf
      refine v_iload_n h dX7_cutTo_23 0 rfl 24 rfl ?_
      refine v_iconst h dX7_cutTo_24 2 rfl 25 rfl ?_
      refine v_icmp_ne h dX7_cutTo_25 34 (by decide) 28 rfl (fun c3 => ?_) (fun c3 => ?_)
      · replace hf := zf c3 hf
        refine v_lload_n h dX7_cutTo_34 1 rfl 35 rfl ?_
        cases (Option.some.inj hf)
        exact hE 35 _ dX7_cutTo_35
      · replace hf := zt c3 hf
        refine v_lload_n h dX7_cutTo_28 1 rfl 29 rfl ?_
        refine v_l2i h dX7_cutTo_29 30 rfl ?_
        obtain ⟨d4, ed4, hf⟩ := zl hf
        refine v_topi ed4 ?_
        refine v_i2l h dX7_cutTo_30 31 rfl ?_
        refine v_goto h dX7_cutTo_31 35 (by decide) ?_
        cases (Option.some.inj hf)
        exact hE 35 _ dX7_cutTo_35
    · replace hf := zt c2 hf
      refine v_lload_n h dX7_cutTo_16 1 rfl 17 rfl ?_
      refine v_l2i h dX7_cutTo_17 18 rfl ?_
      obtain ⟨d5, ed5, hf⟩ := zl hf
      refine v_topi ed5 ?_
      refine v_i2s h dX7_cutTo_18 19 rfl ?_
      obtain ⟨d6, ed6, hf⟩ := zl hf
      refine v_topi ed6 ?_
      refine v_i2l h dX7_cutTo_19 20 rfl ?_
      refine v_goto h dX7_cutTo_20 35 (by decide) ?_
      cases (Option.some.inj hf)
      exact hE 35 _ dX7_cutTo_35
  · replace hf := zt c1 hf
    refine v_lload_n h dX7_cutTo_4 1 rfl 5 rfl ?_
    refine v_l2i h dX7_cutTo_5 6 rfl ?_
    obtain ⟨d7, ed7, hf⟩ := zl hf
    refine v_topi ed7 ?_
    refine v_i2b h dX7_cutTo_6 7 rfl ?_
    obtain ⟨d8, ed8, hf⟩ := zl hf
    refine v_topi ed8 ?_
    refine v_i2l h dX7_cutTo_7 8 rfl ?_
    refine v_goto h dX7_cutTo_8 35 (by decide) ?_
    cases (Option.some.inj hf)
    exact hE 35 _ dX7_cutTo_35
abbrev rX7_addRain : Room := { frames := 0, cells := 0, slots := 0, locals := 0 }
theorem nX7_addRain : zNoMH yX7_addRain 2 := ⟨by decide +kernel, by decide +kernel, by decide +kernel⟩
def fX7_addRain (s : zAI) (x1 : Int32) : Option zAI := zgrd (zix (46 + (zgt s 45)) 407) (some (zpt (zpt s (46 + (zgt s 45)) x1) 45 ((zgt (zpt s (46 + (zgt s 45)) x1) 45) + 1)))
set_option maxRecDepth 100000 in
set_option maxHeartbeats 4000000 in
theorem tX7_addRain (l : Launch) (G : va_G) (ca : Nat → ClassId) (a : Nat) (s : zAI) (x1 : Int32) {o : zAI} (hf : fX7_addRain s x1 = some o) : zMv l yX7_addRain wsX7_addRain rX7_addRain G ca [.ref a, .int x1] (wA ca a 407 s) (wA ca a 407 o) := by
  refine zMv.of (cc := cX7_addRain) (nL := 2) (own := RX7) (by decide) rfl rfl (Nat.le_of_ble_eq_true rfl) (fun X h hE => ?_)
  show V X G 2 0 0 (wA ca a 407 s) 0 [(0, .ref a), (1, .int x1)] []
  unfold fX7_addRain at hf
  refine v_aload_n h dX7_addRain_0 0 rfl 1 rfl ?_
  refine v_bipush h dX7_addRain_1 46 rfl 3 rfl ?_
  refine v_aload_n h dX7_addRain_3 0 rfl 4 rfl ?_
  refine v_bipush h dX7_addRain_4 45 rfl 6 rfl ?_
  refine v_iald h (f := s) dX7_addRain_6 0 0 rfl rfl zi_45_407 7 rfl ?_
  refine v_iadd h dX7_addRain_7 8 rfl ?_
  refine v_iload_n h dX7_addRain_8 1 rfl 9 rfl ?_
  obtain ⟨g1, hf⟩ := zg hf
  refine v_iast h (f := s) dX7_addRain_9 0 0 rfl rfl (zix_in g1) (wA ca a 407 (zpt s (46 + (zgt s 45)) x1)) rfl 10 rfl ?_
  refine v_aload_n h dX7_addRain_10 0 rfl 11 rfl ?_
  refine v_bipush h dX7_addRain_11 45 rfl 13 rfl ?_
  refine v_dup2 h dX7_addRain_13 rfl rfl 14 rfl ?_
  refine v_iald h (f := (zpt s (46 + (zgt s 45)) x1)) dX7_addRain_14 0 0 rfl rfl zi_45_407 15 rfl ?_
  refine v_iconst h dX7_addRain_15 1 rfl 16 rfl ?_
  refine v_iadd h dX7_addRain_16 17 rfl ?_
  refine v_iast h (f := (zpt s (46 + (zgt s 45)) x1)) dX7_addRain_17 0 0 rfl rfl zi_45_407 (wA ca a 407 (zpt (zpt s (46 + (zgt s 45)) x1) 45 ((zgt (zpt s (46 + (zgt s 45)) x1) 45) + 1))) rfl 18 rfl ?_
  cases (Option.some.inj hf)
  exact hE 18 _ dX7_addRain_18
abbrev rX7_addCoat : Room := { frames := 0, cells := 0, slots := 0, locals := 0 }
theorem nX7_addCoat : zNoMH yX7_addCoat 4 := ⟨by decide +kernel, by decide +kernel, by decide +kernel⟩
def fX7_addCoat (s : zAI) (x1 : Int32) (x2 : Int32) (x3 : Int32) : Option (Int32 × zAI) := zgrd (zix (4 + (zgt s 3)) 407) (zgrd (zix (14 + (zgt s 3)) 407) (zgrd (zix (24 + (zgt s 3)) 407) (zgrd (zix (34 + (zgt s 3)) 407) (some ((zgt s 3), (zpt (zpt (zpt (zpt (zpt s (4 + (zgt s 3)) x1) (14 + (zgt s 3)) x2) (24 + (zgt s 3)) x3) (34 + (zgt s 3)) (zgt (zpt (zpt (zpt s (4 + (zgt s 3)) x1) (14 + (zgt s 3)) x2) (24 + (zgt s 3)) x3) 0)) 3 ((zgt (zpt (zpt (zpt (zpt s (4 + (zgt s 3)) x1) (14 + (zgt s 3)) x2) (24 + (zgt s 3)) x3) (34 + (zgt s 3)) (zgt (zpt (zpt (zpt s (4 + (zgt s 3)) x1) (14 + (zgt s 3)) x2) (24 + (zgt s 3)) x3) 0)) 3) + 1)))))))
set_option maxRecDepth 100000 in
set_option maxHeartbeats 4000000 in
theorem tX7_addCoat (l : Launch) (G : va_G) (ca : Nat → ClassId) (a : Nat) (s : zAI) (x1 : Int32) (x2 : Int32) (x3 : Int32) {o : (Int32 × zAI)} (hf : fX7_addCoat s x1 x2 x3 = some o) : zMi l yX7_addCoat wsX7_addCoat rX7_addCoat G ca [.ref a, .int x1, .int x2, .int x3] (wA ca a 407 s) o.1 (wA ca a 407 o.2) := by
  refine zMi.of (cc := cX7_addCoat) (nL := 5) (own := RX7) (ty := .int) (by decide) rfl rfl (Nat.le_of_ble_eq_true rfl) (fun X h hE => ?_)
  show V X G 5 0 0 (wA ca a 407 s) 0 [(0, .ref a), (1, .int x1), (2, .int x2), (3, .int x3)] []
  unfold fX7_addCoat at hf
  refine v_aload_n h dX7_addCoat_0 0 rfl 1 rfl ?_
  refine v_iconst h dX7_addCoat_1 3 rfl 2 rfl ?_
  refine v_iald h (f := s) dX7_addCoat_2 0 0 rfl rfl zi_3_407 3 rfl ?_
  refine v_istore h dX7_addCoat_3 (Nat.le_of_ble_eq_true rfl) rfl rfl [(0, .ref a), (1, .int x1), (2, .int x2), (3, .int x3), (4, .int (zgt s 3))] rfl 5 rfl ?_
  refine v_aload_n h dX7_addCoat_5 0 rfl 6 rfl ?_
  refine v_iconst h dX7_addCoat_6 4 rfl 7 rfl ?_
  refine v_iload h dX7_addCoat_7 4 rfl 9 rfl ?_
  refine v_iadd h dX7_addCoat_9 10 rfl ?_
  refine v_iload_n h dX7_addCoat_10 1 rfl 11 rfl ?_
  obtain ⟨g1, hf⟩ := zg hf
  refine v_iast h (f := s) dX7_addCoat_11 0 0 rfl rfl (zix_in g1) (wA ca a 407 (zpt s (4 + (zgt s 3)) x1)) rfl 12 rfl ?_
  refine v_aload_n h dX7_addCoat_12 0 rfl 13 rfl ?_
  refine v_bipush h dX7_addCoat_13 14 rfl 15 rfl ?_
  refine v_iload h dX7_addCoat_15 4 rfl 17 rfl ?_
  refine v_iadd h dX7_addCoat_17 18 rfl ?_
  refine v_iload_n h dX7_addCoat_18 2 rfl 19 rfl ?_
  obtain ⟨g2, hf⟩ := zg hf
  refine v_iast h (f := (zpt s (4 + (zgt s 3)) x1)) dX7_addCoat_19 0 0 rfl rfl (zix_in g2) (wA ca a 407 (zpt (zpt s (4 + (zgt s 3)) x1) (14 + (zgt s 3)) x2)) rfl 20 rfl ?_
  refine v_aload_n h dX7_addCoat_20 0 rfl 21 rfl ?_
  refine v_bipush h dX7_addCoat_21 24 rfl 23 rfl ?_
  refine v_iload h dX7_addCoat_23 4 rfl 25 rfl ?_
  refine v_iadd h dX7_addCoat_25 26 rfl ?_
  refine v_iload_n h dX7_addCoat_26 3 rfl 27 rfl ?_
  obtain ⟨g3, hf⟩ := zg hf
  refine v_iast h (f := (zpt (zpt s (4 + (zgt s 3)) x1) (14 + (zgt s 3)) x2)) dX7_addCoat_27 0 0 rfl rfl (zix_in g3) (wA ca a 407 (zpt (zpt (zpt s (4 + (zgt s 3)) x1) (14 + (zgt s 3)) x2) (24 + (zgt s 3)) x3)) rfl 28 rfl ?_
  refine v_aload_n h dX7_addCoat_28 0 rfl 29 rfl ?_
  refine v_bipush h dX7_addCoat_29 34 rfl 31 rfl ?_
  refine v_iload h dX7_addCoat_31 4 rfl 33 rfl ?_
  refine v_iadd h dX7_addCoat_33 34 rfl ?_
  refine v_aload_n h dX7_addCoat_34 0 rfl 35 rfl ?_
  refine v_iconst h dX7_addCoat_35 0 rfl 36 rfl ?_
  refine v_iald h (f := (zpt (zpt (zpt s (4 + (zgt s 3)) x1) (14 + (zgt s 3)) x2) (24 + (zgt s 3)) x3)) dX7_addCoat_36 0 0 rfl rfl zi_0_407 37 rfl ?_
  obtain ⟨g4, hf⟩ := zg hf
  refine v_iast h (f := (zpt (zpt (zpt s (4 + (zgt s 3)) x1) (14 + (zgt s 3)) x2) (24 + (zgt s 3)) x3)) dX7_addCoat_37 0 0 rfl rfl (zix_in g4) (wA ca a 407 (zpt (zpt (zpt (zpt s (4 + (zgt s 3)) x1) (14 + (zgt s 3)) x2) (24 + (zgt s 3)) x3) (34 + (zgt s 3)) (zgt (zpt (zpt (zpt s (4 + (zgt s 3)) x1) (14 + (zgt s 3)) x2) (24 + (zgt s 3)) x3) 0))) rfl 38 rfl ?_
  refine v_aload_n h dX7_addCoat_38 0 rfl 39 rfl ?_
  refine v_iconst h dX7_addCoat_39 3 rfl 40 rfl ?_
  refine v_dup2 h dX7_addCoat_40 rfl rfl 41 rfl ?_
  refine v_iald h (f := (zpt (zpt (zpt (zpt s (4 + (zgt s 3)) x1) (14 + (zgt s 3)) x2) (24 + (zgt s 3)) x3) (34 + (zgt s 3)) (zgt (zpt (zpt (zpt s (4 + (zgt s 3)) x1) (14 + (zgt s 3)) x2) (24 + (zgt s 3)) x3) 0))) dX7_addCoat_41 0 0 rfl rfl zi_3_407 42 rfl ?_
  refine v_iconst h dX7_addCoat_42 1 rfl 43 rfl ?_
  refine v_iadd h dX7_addCoat_43 44 rfl ?_
  refine v_iast h (f := (zpt (zpt (zpt (zpt s (4 + (zgt s 3)) x1) (14 + (zgt s 3)) x2) (24 + (zgt s 3)) x3) (34 + (zgt s 3)) (zgt (zpt (zpt (zpt s (4 + (zgt s 3)) x1) (14 + (zgt s 3)) x2) (24 + (zgt s 3)) x3) 0))) dX7_addCoat_44 0 0 rfl rfl zi_3_407 (wA ca a 407 (zpt (zpt (zpt (zpt (zpt s (4 + (zgt s 3)) x1) (14 + (zgt s 3)) x2) (24 + (zgt s 3)) x3) (34 + (zgt s 3)) (zgt (zpt (zpt (zpt s (4 + (zgt s 3)) x1) (14 + (zgt s 3)) x2) (24 + (zgt s 3)) x3) 0)) 3 ((zgt (zpt (zpt (zpt (zpt s (4 + (zgt s 3)) x1) (14 + (zgt s 3)) x2) (24 + (zgt s 3)) x3) (34 + (zgt s 3)) (zgt (zpt (zpt (zpt s (4 + (zgt s 3)) x1) (14 + (zgt s 3)) x2) (24 + (zgt s 3)) x3) 0)) 3) + 1))) rfl 45 rfl ?_
  refine v_iload h dX7_addCoat_45 4 rfl 47 rfl ?_
  cases (Option.some.inj hf)
  exact hE 47 _ rfl dX7_addCoat_47
abbrev rX7_capOf : Room := { frames := 0, cells := 0, slots := 0, locals := 0 }
theorem nX7_capOf : zNoMH yX7_capOf 2 := ⟨by decide +kernel, by decide +kernel, by decide +kernel⟩
def fX7_capOf (s : zAI) (x1 : Int32) : Option Int32 := zgrd (zix (14 + x1) 407) (zgrd (zix (24 + x1) 407) (if (zgt s (24 + x1)) = 0 then (zgrd (zix (4 + x1) 407) (if (zgt s (4 + x1)) = 0 then (some (zgt s (14 + x1))) else (if (zgt s (4 + x1)) = 1 then (some ((zgt s (14 + x1)) / 2)) else (if (zgt s (4 + x1)) = 2 then (some ((zgt s (14 + x1)) + 2)) else (if (zgt s (4 + x1)) = 3 then (some (((zgt s (14 + x1)) / 2) + ((zgt s 0) - (zgt s 0) / 2 * 2))) else (some (2 * ((zgt s (14 + x1)) + 2)))))))) else (zgrd (zix (4 + x1) 407) (if (zgt s (4 + x1)) = 0 then (some (zgt s (14 + x1))) else (if (zgt s (4 + x1)) = 1 then (some ((zgt s (14 + x1)) / 2)) else (if (zgt s (4 + x1)) = 2 then (some ((zgt s (14 + x1)) + 0)) else (if (zgt s (4 + x1)) = 3 then (some (((zgt s (14 + x1)) / 2) + ((zgt s 0) - (zgt s 0) / 2 * 2))) else (some (2 * ((zgt s (14 + x1)) + 0))))))))))
set_option maxRecDepth 100000 in
set_option maxHeartbeats 4000000 in
theorem tX7_capOf (l : Launch) (G : va_G) (ca : Nat → ClassId) (a : Nat) (s : zAI) (x1 : Int32) {o : Int32} (hf : fX7_capOf s x1 = some o) : zMi l yX7_capOf wsX7_capOf rX7_capOf G ca [.ref a, .int x1] (wA ca a 407 s) o (wA ca a 407 s) := by
  refine zMi.of (cc := cX7_capOf) (nL := 4) (own := RX7) (ty := .int) (by decide) rfl rfl (Nat.le_of_ble_eq_true rfl) (fun X h hE => ?_)
  show V X G 4 0 0 (wA ca a 407 s) 0 [(0, .ref a), (1, .int x1)] []
  unfold fX7_capOf at hf
  refine v_aload_n h dX7_capOf_0 0 rfl 1 rfl ?_
  refine v_bipush h dX7_capOf_1 14 rfl 3 rfl ?_
  refine v_iload_n h dX7_capOf_3 1 rfl 4 rfl ?_
  refine v_iadd h dX7_capOf_4 5 rfl ?_
  obtain ⟨g1, hf⟩ := zg hf
  refine v_iald h (f := s) dX7_capOf_5 0 0 rfl rfl (zix_in g1) 6 rfl ?_
  refine v_istore_n h dX7_capOf_6 (Nat.le_of_ble_eq_true rfl) rfl rfl [(0, .ref a), (1, .int x1), (2, .int (zgt s (14 + x1)))] rfl 7 rfl ?_
  refine v_iload_n h dX7_capOf_7 2 rfl 8 rfl ?_
  refine v_aload_n h dX7_capOf_8 0 rfl 9 rfl ?_
  refine v_bipush h dX7_capOf_9 24 rfl 11 rfl ?_
  refine v_iload_n h dX7_capOf_11 1 rfl 12 rfl ?_
  refine v_iadd h dX7_capOf_12 13 rfl ?_
  obtain ⟨g2, hf⟩ := zg hf
  refine v_iald h (f := s) dX7_capOf_13 0 0 rfl rfl (zix_in g2) 14 rfl ?_
  refine v_if_ne h dX7_capOf_14 21 (by decide) 17 rfl (fun c3 => ?_) (fun c3 => ?_)
  · replace hf := zf c3 hf
    refine v_iconst h dX7_capOf_21 0 rfl 22 rfl ?_
    refine v_iadd h dX7_capOf_22 23 rfl ?_
    refine v_istore_n h dX7_capOf_23 (Nat.le_of_ble_eq_true rfl) rfl rfl [(0, .ref a), (1, .int x1), (2, .int (zgt s (14 + x1))), (3, .int ((zgt s (14 + x1)) + 0))] rfl 24 rfl ?_
    refine v_aload_n h dX7_capOf_24 0 rfl 25 rfl ?_
    refine v_iconst h dX7_capOf_25 4 rfl 26 rfl ?_
    refine v_iload_n h dX7_capOf_26 1 rfl 27 rfl ?_
    refine v_iadd h dX7_capOf_27 28 rfl ?_
    obtain ⟨g4, hf⟩ := zg hf
    refine v_iald h (f := s) dX7_capOf_28 0 0 rfl rfl (zix_in g4) 29 rfl ?_
    by_cases c5 : (zgt s (4 + x1)) = 0
    · replace hf := zt c5 hf
      refine v_tsIn h dX7_capOf_29 c5 (by decide) (by decide) rfl 60 (by decide) ?_
      refine v_iload_n h dX7_capOf_60 2 rfl 61 rfl ?_
      cases (Option.some.inj hf)
      exact hE 61 _ rfl dX7_capOf_61
    · replace hf := zf c5 hf
      by_cases c6 : (zgt s (4 + x1)) = 1
      · replace hf := zt c6 hf
        refine v_tsIn h dX7_capOf_29 c6 (by decide) (by decide) rfl 62 (by decide) ?_
        refine v_iload_n h dX7_capOf_62 2 rfl 63 rfl ?_
        refine v_iconst h dX7_capOf_63 2 rfl 64 rfl ?_
        refine v_idiv h dX7_capOf_64 (by decide) 65 rfl ?_
        cases (Option.some.inj hf)
        exact hE 65 _ rfl dX7_capOf_65
      · replace hf := zf c6 hf
        by_cases c7 : (zgt s (4 + x1)) = 2
        · replace hf := zt c7 hf
          refine v_tsIn h dX7_capOf_29 c7 (by decide) (by decide) rfl 66 (by decide) ?_
          refine v_iload_n h dX7_capOf_66 3 rfl 67 rfl ?_
          cases (Option.some.inj hf)
          exact hE 67 _ rfl dX7_capOf_67
        · replace hf := zf c7 hf
          by_cases c8 : (zgt s (4 + x1)) = 3
          · replace hf := zt c8 hf
            refine v_tsIn h dX7_capOf_29 c8 (by decide) (by decide) rfl 68 (by decide) ?_
            refine v_iload_n h dX7_capOf_68 2 rfl 69 rfl ?_
            refine v_iconst h dX7_capOf_69 2 rfl 70 rfl ?_
            refine v_idiv h dX7_capOf_70 (by decide) 71 rfl ?_
            refine v_aload_n h dX7_capOf_71 0 rfl 72 rfl ?_
            refine v_iconst h dX7_capOf_72 0 rfl 73 rfl ?_
            refine v_iald h (f := s) dX7_capOf_73 0 0 rfl rfl zi_0_407 74 rfl ?_
            refine v_iconst h dX7_capOf_74 2 rfl 75 rfl ?_
            refine v_irem h dX7_capOf_75 (by decide) 76 rfl ?_
            refine v_iadd h dX7_capOf_76 77 rfl ?_
            cases (Option.some.inj hf)
            exact hE 77 _ rfl dX7_capOf_77
          · replace hf := zf c8 hf
            refine v_tsOut h dX7_capOf_29 (by have := lv_neT c5 (a := 0) (by decide); have := lv_neT c6 (a := 1) (by decide); have := lv_neT c7 (a := 2) (by decide); have := lv_neT c8 (a := 3) (by decide); omega) 78 (by decide) ?_
            refine v_iconst h dX7_capOf_78 2 rfl 79 rfl ?_
            refine v_iload_n h dX7_capOf_79 3 rfl 80 rfl ?_
            refine v_imul h dX7_capOf_80 81 rfl ?_
            cases (Option.some.inj hf)
            exact hE 81 _ rfl dX7_capOf_81
  · replace hf := zt c3 hf
    refine v_iconst h dX7_capOf_17 2 rfl 18 rfl ?_
    refine v_goto h dX7_capOf_18 22 (by decide) ?_
    refine v_iadd h dX7_capOf_22 23 rfl ?_
    refine v_istore_n h dX7_capOf_23 (Nat.le_of_ble_eq_true rfl) rfl rfl [(0, .ref a), (1, .int x1), (2, .int (zgt s (14 + x1))), (3, .int ((zgt s (14 + x1)) + 2))] rfl 24 rfl ?_
    refine v_aload_n h dX7_capOf_24 0 rfl 25 rfl ?_
    refine v_iconst h dX7_capOf_25 4 rfl 26 rfl ?_
    refine v_iload_n h dX7_capOf_26 1 rfl 27 rfl ?_
    refine v_iadd h dX7_capOf_27 28 rfl ?_
    obtain ⟨g9, hf⟩ := zg hf
    refine v_iald h (f := s) dX7_capOf_28 0 0 rfl rfl (zix_in g9) 29 rfl ?_
    by_cases c10 : (zgt s (4 + x1)) = 0
    · replace hf := zt c10 hf
      refine v_tsIn h dX7_capOf_29 c10 (by decide) (by decide) rfl 60 (by decide) ?_
      refine v_iload_n h dX7_capOf_60 2 rfl 61 rfl ?_
      cases (Option.some.inj hf)
      exact hE 61 _ rfl dX7_capOf_61
    · replace hf := zf c10 hf
      by_cases c11 : (zgt s (4 + x1)) = 1
      · replace hf := zt c11 hf
        refine v_tsIn h dX7_capOf_29 c11 (by decide) (by decide) rfl 62 (by decide) ?_
        refine v_iload_n h dX7_capOf_62 2 rfl 63 rfl ?_
        refine v_iconst h dX7_capOf_63 2 rfl 64 rfl ?_
        refine v_idiv h dX7_capOf_64 (by decide) 65 rfl ?_
        cases (Option.some.inj hf)
        exact hE 65 _ rfl dX7_capOf_65
      · replace hf := zf c11 hf
        by_cases c12 : (zgt s (4 + x1)) = 2
        · replace hf := zt c12 hf
          refine v_tsIn h dX7_capOf_29 c12 (by decide) (by decide) rfl 66 (by decide) ?_
          refine v_iload_n h dX7_capOf_66 3 rfl 67 rfl ?_
          cases (Option.some.inj hf)
          exact hE 67 _ rfl dX7_capOf_67
        · replace hf := zf c12 hf
          by_cases c13 : (zgt s (4 + x1)) = 3
          · replace hf := zt c13 hf
            refine v_tsIn h dX7_capOf_29 c13 (by decide) (by decide) rfl 68 (by decide) ?_
            refine v_iload_n h dX7_capOf_68 2 rfl 69 rfl ?_
            refine v_iconst h dX7_capOf_69 2 rfl 70 rfl ?_
            refine v_idiv h dX7_capOf_70 (by decide) 71 rfl ?_
            refine v_aload_n h dX7_capOf_71 0 rfl 72 rfl ?_
            refine v_iconst h dX7_capOf_72 0 rfl 73 rfl ?_
            refine v_iald h (f := s) dX7_capOf_73 0 0 rfl rfl zi_0_407 74 rfl ?_
            refine v_iconst h dX7_capOf_74 2 rfl 75 rfl ?_
            refine v_irem h dX7_capOf_75 (by decide) 76 rfl ?_
            refine v_iadd h dX7_capOf_76 77 rfl ?_
            cases (Option.some.inj hf)
            exact hE 77 _ rfl dX7_capOf_77
          · replace hf := zf c13 hf
            refine v_tsOut h dX7_capOf_29 (by have := lv_neT c10 (a := 0) (by decide); have := lv_neT c11 (a := 1) (by decide); have := lv_neT c12 (a := 2) (by decide); have := lv_neT c13 (a := 3) (by decide); omega) 78 (by decide) ?_
            refine v_iconst h dX7_capOf_78 2 rfl 79 rfl ?_
            refine v_iload_n h dX7_capOf_79 3 rfl 80 rfl ?_
            refine v_imul h dX7_capOf_80 81 rfl ?_
            cases (Option.some.inj hf)
            exact hE 81 _ rfl dX7_capOf_81
abbrev rX7_rainIn : Room := { frames := 0, cells := 0, slots := 0, locals := 0 }
theorem nX7_rainIn : zNoMH yX7_rainIn 2 := ⟨by decide +kernel, by decide +kernel, by decide +kernel⟩
def fX7_rainIn (s : zAI) (x1 : Int32) : Option Int32 := if (zgt s 45) = 0 then (some 0) else (zgrd (znz (zgt s 45)) (zgrd (zix (46 + (x1 - x1 / (zgt s 45) * (zgt s 45))) 407) (some (zgt s (46 + (x1 - x1 / (zgt s 45) * (zgt s 45)))))))
set_option maxRecDepth 100000 in
set_option maxHeartbeats 4000000 in
theorem tX7_rainIn (l : Launch) (G : va_G) (ca : Nat → ClassId) (a : Nat) (s : zAI) (x1 : Int32) {o : Int32} (hf : fX7_rainIn s x1 = some o) : zMi l yX7_rainIn wsX7_rainIn rX7_rainIn G ca [.ref a, .int x1] (wA ca a 407 s) o (wA ca a 407 s) := by
  refine zMi.of (cc := cX7_rainIn) (nL := 2) (own := RX7) (ty := .int) (by decide) rfl rfl (Nat.le_of_ble_eq_true rfl) (fun X h hE => ?_)
  show V X G 2 0 0 (wA ca a 407 s) 0 [(0, .ref a), (1, .int x1)] []
  unfold fX7_rainIn at hf
  refine v_aload_n h dX7_rainIn_0 0 rfl 1 rfl ?_
  refine v_bipush h dX7_rainIn_1 45 rfl 3 rfl ?_
  refine v_iald h (f := s) dX7_rainIn_3 0 0 rfl rfl zi_45_407 4 rfl ?_
  refine v_if_ne h dX7_rainIn_4 11 (by decide) 7 rfl (fun c1 => ?_) (fun c1 => ?_)
  · replace hf := zf c1 hf
    refine v_aload_n h dX7_rainIn_11 0 rfl 12 rfl ?_
    refine v_bipush h dX7_rainIn_12 46 rfl 14 rfl ?_
    refine v_iload_n h dX7_rainIn_14 1 rfl 15 rfl ?_
    refine v_aload_n h dX7_rainIn_15 0 rfl 16 rfl ?_
    refine v_bipush h dX7_rainIn_16 45 rfl 18 rfl ?_
    refine v_iald h (f := s) dX7_rainIn_18 0 0 rfl rfl zi_45_407 19 rfl ?_
    obtain ⟨g2, hf⟩ := zg hf
    refine v_irem h dX7_rainIn_19 (znz_ne g2) 20 rfl ?_
    refine v_iadd h dX7_rainIn_20 21 rfl ?_
    obtain ⟨g3, hf⟩ := zg hf
    refine v_iald h (f := s) dX7_rainIn_21 0 0 rfl rfl (zix_in g3) 22 rfl ?_
    cases (Option.some.inj hf)
    exact hE 22 _ rfl dX7_rainIn_22
  · replace hf := zt c1 hf
    refine v_iconst h dX7_rainIn_7 0 rfl 8 rfl ?_
    refine v_goto h dX7_rainIn_8 22 (by decide) ?_
    cases (Option.some.inj hf)
    exact hE 22 _ rfl dX7_rainIn_22
abbrev rX7_sumOf : Room := { frames := 0, cells := 0, slots := 0, locals := 0 }
theorem nX7_sumOf : zNoMH yX7_sumOf 2 := ⟨by decide +kernel, by decide +kernel, by decide +kernel⟩
def fX7_sumOf_L4 : Nat → zAI → Int32 → Int32 → Int32 → Option Int32
  | 0, _, _, _, _ => none
  | n + 1, s, x1, x2, x3 => if (zgt s 3) ≤ x3 then (some x2) else (zgrd (zix (x1 + x3) 407) (fX7_sumOf_L4 n s x1 (x2 + (zgt s (x1 + x3))) (x3 + 1)))
set_option maxRecDepth 100000 in
set_option maxHeartbeats 4000000 in
theorem tX7_sumOf_l4 {X : zX} {l : Launch} {G : va_G} {ca : Nat → ClassId} {a : Nat} (h : zOk X l G ca cX7_sumOf RX7 wsX7_sumOf 4 rX7_sumOf) : ∀ (n : Nat) (s : zAI) (x1 : Int32) (x2 : Int32) (x3 : Int32) (out : Int32), fX7_sumOf_L4 n s x1 x2 x3 = some out → (V X G 4 0 0 (wA ca a 407 s) 25 [(2, .int out)] []) → V X G 4 0 0 (wA ca a 407 s) 4 [(0, .ref a), (1, .int x1), (2, .int x2), (3, .int x3)] [] := by
  intro n
  induction n with
  | zero => intro s x1 x2 x3 out hf; rw [fX7_sumOf_L4] at hf; cases hf
  | succ n ih =>
    intro s x1 x2 x3 out hf kx
    rw [fX7_sumOf_L4] at hf
    refine v_iload_n h dX7_sumOf_4 3 rfl 5 rfl ?_
    refine v_aload_n h dX7_sumOf_5 0 rfl 6 rfl ?_
    refine v_iconst h dX7_sumOf_6 3 rfl 7 rfl ?_
    refine v_iald h (f := s) dX7_sumOf_7 0 0 rfl rfl zi_3_407 8 rfl ?_
    refine v_icmp_ge h dX7_sumOf_8 25 (by decide) 11 rfl (fun c1 => ?_) (fun c1 => ?_)
    · replace hf := zt c1 hf
      cases (Option.some.inj hf)
      exact v_sub [2] rfl (kx)
    · replace hf := zf c1 hf
      refine v_iload_n h dX7_sumOf_11 2 rfl 12 rfl ?_
      refine v_aload_n h dX7_sumOf_12 0 rfl 13 rfl ?_
      refine v_iload_n h dX7_sumOf_13 1 rfl 14 rfl ?_
      refine v_iload_n h dX7_sumOf_14 3 rfl 15 rfl ?_
      refine v_iadd h dX7_sumOf_15 16 rfl ?_
      obtain ⟨g2, hf⟩ := zg hf
      refine v_iald h (f := s) dX7_sumOf_16 0 0 rfl rfl (zix_in g2) 17 rfl ?_
      refine v_iadd h dX7_sumOf_17 18 rfl ?_
      refine v_istore_n h dX7_sumOf_18 (Nat.le_of_ble_eq_true rfl) rfl rfl [(0, .ref a), (1, .int x1), (2, .int (x2 + (zgt s (x1 + x3)))), (3, .int x3)] rfl 19 rfl ?_
      refine v_iinc h dX7_sumOf_19 3 rfl (x3 + 1) rfl (Nat.le_of_ble_eq_true rfl) rfl rfl [(0, .ref a), (1, .int x1), (2, .int (x2 + (zgt s (x1 + x3)))), (3, .int (x3 + 1))] rfl 22 rfl ?_
      refine v_goto h dX7_sumOf_22 4 (by decide) ?_
      exact v_sub [0, 1, 2, 3] rfl (ih s x1 (x2 + (zgt s (x1 + x3))) (x3 + 1) _ hf kx)
def fX7_sumOf (s : zAI) (x1 : Int32) : Option Int32 := ((fX7_sumOf_L4 zF s x1 0 0) : Option Int32).bind (fun u1 => some u1)
set_option maxRecDepth 100000 in
set_option maxHeartbeats 4000000 in
theorem tX7_sumOf (l : Launch) (G : va_G) (ca : Nat → ClassId) (a : Nat) (s : zAI) (x1 : Int32) {o : Int32} (hf : fX7_sumOf s x1 = some o) : zMi l yX7_sumOf wsX7_sumOf rX7_sumOf G ca [.ref a, .int x1] (wA ca a 407 s) o (wA ca a 407 s) := by
  refine zMi.of (cc := cX7_sumOf) (nL := 4) (own := RX7) (ty := .int) (by decide) rfl rfl (Nat.le_of_ble_eq_true rfl) (fun X h hE => ?_)
  show V X G 4 0 0 (wA ca a 407 s) 0 [(0, .ref a), (1, .int x1)] []
  unfold fX7_sumOf at hf
  refine v_iconst h dX7_sumOf_0 0 rfl 1 rfl ?_
  refine v_istore_n h dX7_sumOf_1 (Nat.le_of_ble_eq_true rfl) rfl rfl [(0, .ref a), (1, .int x1), (2, .int 0)] rfl 2 rfl ?_
  refine v_iconst h dX7_sumOf_2 0 rfl 3 rfl ?_
  refine v_istore_n h dX7_sumOf_3 (Nat.le_of_ble_eq_true rfl) rfl rfl [(0, .ref a), (1, .int x1), (2, .int 0), (3, .int 0)] rfl 4 rfl ?_
  obtain ⟨u1, hu1, hf⟩ := zb hf
  refine v_sub [0, 1, 2, 3] rfl ?_
  refine tX7_sumOf_l4 h zF s x1 0 0 _ hu1 ?_
  refine v_iload_n h dX7_sumOf_25 0 rfl 26 rfl ?_
  cases (Option.some.inj hf)
  exact hE 26 _ rfl dX7_sumOf_26
abbrev rX7_heavy : Room := { frames := 1, cells := 0, slots := 0, locals := 23 }
theorem nX7_heavy : zNoMH yX7_heavy 1 := ⟨by decide +kernel, by decide +kernel, by decide +kernel⟩
def fX7_heavy (s : zAI) : Option Int32 := ((fX7_sumOf s 14) : Option Int32).bind (fun u1 => ((fX7_sumOf s 24) : Option Int32).bind (fun u2 => some (u1 + u2)))
set_option maxRecDepth 100000 in
set_option maxHeartbeats 4000000 in
theorem tX7_heavy (l : Launch) (G : va_G) (ca : Nat → ClassId) (a : Nat) (s : zAI)  {o : Int32} (hf : fX7_heavy s = some o) : zMi l yX7_heavy wsX7_heavy rX7_heavy G ca [.ref a] (wA ca a 407 s) o (wA ca a 407 s) := by
  refine zMi.of (cc := cX7_heavy) (nL := 1) (own := RX7) (ty := .int) (by decide) rfl rfl (Nat.le_of_ble_eq_true rfl) (fun X h hE => ?_)
  show V X G 1 0 0 (wA ca a 407 s) 0 [(0, .ref a)] []
  unfold fX7_heavy at hf
  refine v_aload_n h dX7_heavy_0 0 rfl 1 rfl ?_
  refine v_bipush h dX7_heavy_1 14 rfl 3 rfl ?_
  obtain ⟨u1, hu1, hf⟩ := zb hf
  refine v_callSi h (rest := []) dX7_heavy_3 (tX7_sumOf l G ca a s 14 hu1) gX7_heavy_X7_sumOf rfl ⟨rfl, rfl⟩ nX7_sumOf ⟨Nat.le_of_ble_eq_true rfl, Nat.le_of_ble_eq_true rfl⟩ [0] rfl rfl rfl rfl (Nat.le_of_ble_eq_true rfl) ⟨Nat.zero_le _, Nat.zero_le _⟩ rfl (wA ca a 407 s) rfl rfl 6 rfl ?_
  refine v_aload_n h dX7_heavy_6 0 rfl 7 rfl ?_
  refine v_bipush h dX7_heavy_7 24 rfl 9 rfl ?_
  obtain ⟨u2, hu2, hf⟩ := zb hf
  refine v_callSi h (rest := [.int u1]) dX7_heavy_9 (tX7_sumOf l G ca a s 24 hu2) gX7_heavy_X7_sumOf rfl ⟨rfl, rfl⟩ nX7_sumOf ⟨Nat.le_of_ble_eq_true rfl, Nat.le_of_ble_eq_true rfl⟩ [0] rfl rfl rfl rfl (Nat.le_of_ble_eq_true rfl) ⟨Nat.zero_le _, Nat.zero_le _⟩ rfl (wA ca a 407 s) rfl rfl 12 rfl ?_
  refine v_iadd h dX7_heavy_12 13 rfl ?_
  cases (Option.some.inj hf)
  exact hE 13 _ rfl dX7_heavy_13
abbrev rX7_pulls : Room := { frames := 0, cells := 0, slots := 0, locals := 0 }
theorem nX7_pulls : zNoMH yX7_pulls 3 := ⟨by decide +kernel, by decide +kernel, by decide +kernel⟩
def fX7_pulls (s : zAI) (x1 : Int32) (x2 : Int32) : Option zAI := zgrd (zix (14 + x1) 407) (if 1 ≤ ((zgt s (14 + x1)) - x2) then (some (zpt s (14 + x1) ((zgt s (14 + x1)) - x2))) else (some (zpt s (14 + x1) 1)))
set_option maxRecDepth 100000 in
set_option maxHeartbeats 4000000 in
theorem tX7_pulls (l : Launch) (G : va_G) (ca : Nat → ClassId) (a : Nat) (s : zAI) (x1 : Int32) (x2 : Int32) {o : zAI} (hf : fX7_pulls s x1 x2 = some o) : zMv l yX7_pulls wsX7_pulls rX7_pulls G ca [.ref a, .int x1, .int x2] (wA ca a 407 s) (wA ca a 407 o) := by
  refine zMv.of (cc := cX7_pulls) (nL := 3) (own := RX7) (by decide) rfl rfl (Nat.le_of_ble_eq_true rfl) (fun X h hE => ?_)
  show V X G 3 0 0 (wA ca a 407 s) 0 [(0, .ref a), (1, .int x1), (2, .int x2)] []
  unfold fX7_pulls at hf
  refine v_aload_n h dX7_pulls_0 0 rfl 1 rfl ?_
  refine v_bipush h dX7_pulls_1 14 rfl 3 rfl ?_
  refine v_iload_n h dX7_pulls_3 1 rfl 4 rfl ?_
  refine v_iadd h dX7_pulls_4 5 rfl ?_
  refine v_aload_n h dX7_pulls_5 0 rfl 6 rfl ?_
  refine v_bipush h dX7_pulls_6 14 rfl 8 rfl ?_
  refine v_iload_n h dX7_pulls_8 1 rfl 9 rfl ?_
  refine v_iadd h dX7_pulls_9 10 rfl ?_
  obtain ⟨g1, hf⟩ := zg hf
  refine v_iald h (f := s) dX7_pulls_10 0 0 rfl rfl (zix_in g1) 11 rfl ?_
  refine v_iload_n h dX7_pulls_11 2 rfl 12 rfl ?_
  refine v_isub h dX7_pulls_12 13 rfl ?_
  refine v_iconst h dX7_pulls_13 1 rfl 14 rfl ?_
  refine v_icmp_ge h dX7_pulls_14 21 (by decide) 17 rfl (fun c2 => ?_) (fun c2 => ?_)
  · replace hf := zt c2 hf
    refine v_aload_n h dX7_pulls_21 0 rfl 22 rfl ?_
    refine v_bipush h dX7_pulls_22 14 rfl 24 rfl ?_
    refine v_iload_n h dX7_pulls_24 1 rfl 25 rfl ?_
    refine v_iadd h dX7_pulls_25 26 rfl ?_
    refine v_iald h (f := s) dX7_pulls_26 0 0 rfl rfl (zix_in g1) 27 rfl ?_
    refine v_iload_n h dX7_pulls_27 2 rfl 28 rfl ?_
    refine v_isub h dX7_pulls_28 29 rfl ?_
    refine v_iast h (f := s) dX7_pulls_29 0 0 rfl rfl (zix_in g1) (wA ca a 407 (zpt s (14 + x1) ((zgt s (14 + x1)) - x2))) rfl 30 rfl ?_
    cases (Option.some.inj hf)
    exact hE 30 _ dX7_pulls_30
  · replace hf := zf c2 hf
    refine v_iconst h dX7_pulls_17 1 rfl 18 rfl ?_
    refine v_goto h dX7_pulls_18 29 (by decide) ?_
    refine v_iast h (f := s) dX7_pulls_29 0 0 rfl rfl (zix_in g1) (wA ca a 407 (zpt s (14 + x1) 1)) rfl 30 rfl ?_
    cases (Option.some.inj hf)
    exact hE 30 _ dX7_pulls_30
abbrev rX7_bring : Room := { frames := 0, cells := 0, slots := 0, locals := 0 }
theorem nX7_bring : zNoMH yX7_bring 5 := ⟨by decide +kernel, by decide +kernel, by decide +kernel⟩
def fX7_bring_L3 : Nat → zAI → zAI → Int32 → Int32 → Int32 → Int32 → Option zAI
  | 0, _, _, _, _, _, _ => none
  | n + 1, s, t, x1, x3, x4, x5 => if x4 ≤ x5 then (some t) else (zgrd (zix (x1 + x5) 407) (zgrd (zix (x3 + x5) 407) (fX7_bring_L3 n s (zpt t (x3 + x5) (zgt s (x1 + x5))) x1 x3 x4 (x5 + 1))))
set_option maxRecDepth 100000 in
set_option maxHeartbeats 4000000 in
theorem tX7_bring_l3 {X : zX} {l : Launch} {G : va_G} {ca : Nat → ClassId} {a : Nat} {b : Nat} (h : zOk X l G ca cX7_bring RX7 wsX7_bring 6 rX7_bring) : ∀ (n : Nat) (s : zAI) (t : zAI) (x1 : Int32) (x3 : Int32) (x4 : Int32) (x5 : Int32) (out : zAI), fX7_bring_L3 n s t x1 x3 x4 x5 = some out → (V X G 6 0 0 (wA ca a 407 s ++ wA ca b 407 out) 28 [] []) → V X G 6 0 0 (wA ca a 407 s ++ wA ca b 407 t) 3 [(0, .ref a), (1, .int x1), (2, .ref b), (3, .int x3), (4, .int x4), (5, .int x5)] [] := by
  intro n
  induction n with
  | zero => intro s t x1 x3 x4 x5 out hf; rw [fX7_bring_L3] at hf; cases hf
  | succ n ih =>
    intro s t x1 x3 x4 x5 out hf kx
    rw [fX7_bring_L3] at hf
    refine v_iload h dX7_bring_3 5 rfl 5 rfl ?_
    refine v_iload h dX7_bring_5 4 rfl 7 rfl ?_
    refine v_icmp_ge h dX7_bring_7 28 (by decide) 10 rfl (fun c1 => ?_) (fun c1 => ?_)
    · replace hf := zt c1 hf
      cases (Option.some.inj hf)
      exact v_sub [] rfl (kx)
    · replace hf := zf c1 hf
      refine v_aload_n h dX7_bring_10 2 rfl 11 rfl ?_
      refine v_iload_n h dX7_bring_11 3 rfl 12 rfl ?_
      refine v_iload h dX7_bring_12 5 rfl 14 rfl ?_
      refine v_iadd h dX7_bring_14 15 rfl ?_
      refine v_aload_n h dX7_bring_15 0 rfl 16 rfl ?_
      refine v_iload_n h dX7_bring_16 1 rfl 17 rfl ?_
      refine v_iload h dX7_bring_17 5 rfl 19 rfl ?_
      refine v_iadd h dX7_bring_19 20 rfl ?_
      obtain ⟨g2, hf⟩ := zg hf
      refine v_iald h (f := s) dX7_bring_20 0 0 rfl rfl (zix_in g2) 21 rfl ?_
      obtain ⟨g3, hf⟩ := zg hf
      refine v_iast h (f := t) dX7_bring_21 1 0 rfl rfl (zix_in g3) (wA ca a 407 s ++ wA ca b 407 (zpt t (x3 + x5) (zgt s (x1 + x5)))) rfl 22 rfl ?_
      refine v_iinc h dX7_bring_22 5 rfl (x5 + 1) rfl (Nat.le_of_ble_eq_true rfl) rfl rfl [(0, .ref a), (1, .int x1), (2, .ref b), (3, .int x3), (4, .int x4), (5, .int (x5 + 1))] rfl 25 rfl ?_
      refine v_goto h dX7_bring_25 3 (by decide) ?_
      exact v_sub [0, 1, 2, 3, 4, 5] rfl (ih s (zpt t (x3 + x5) (zgt s (x1 + x5))) x1 x3 x4 (x5 + 1) _ hf kx)
def fX7_bring (s : zAI) (t : zAI) (x1 : Int32) (x3 : Int32) (x4 : Int32) : Option zAI := ((fX7_bring_L3 zF s t x1 x3 x4 0) : Option zAI).bind (fun u1 => some u1)
set_option maxRecDepth 100000 in
set_option maxHeartbeats 4000000 in
theorem tX7_bring (l : Launch) (G : va_G) (ca : Nat → ClassId) (a : Nat) (b : Nat) (s : zAI) (t : zAI) (x1 : Int32) (x3 : Int32) (x4 : Int32) {o : zAI} (hf : fX7_bring s t x1 x3 x4 = some o) : zMv l yX7_bring wsX7_bring rX7_bring G ca [.ref a, .int x1, .ref b, .int x3, .int x4] (wA ca a 407 s ++ wA ca b 407 t) (wA ca a 407 s ++ wA ca b 407 o) := by
  refine zMv.of (cc := cX7_bring) (nL := 6) (own := RX7) (by decide) rfl rfl (Nat.le_of_ble_eq_true rfl) (fun X h hE => ?_)
  show V X G 6 0 0 (wA ca a 407 s ++ wA ca b 407 t) 0 [(0, .ref a), (1, .int x1), (2, .ref b), (3, .int x3), (4, .int x4)] []
  unfold fX7_bring at hf
  refine v_iconst h dX7_bring_0 0 rfl 1 rfl ?_
  refine v_istore h dX7_bring_1 (Nat.le_of_ble_eq_true rfl) rfl rfl [(0, .ref a), (1, .int x1), (2, .ref b), (3, .int x3), (4, .int x4), (5, .int 0)] rfl 3 rfl ?_
  obtain ⟨u1, hu1, hf⟩ := zb hf
  refine v_sub [0, 1, 2, 3, 4, 5] rfl ?_
  refine tX7_bring_l3 h zF s t x1 x3 x4 0 _ hu1 ?_
  cases (Option.some.inj hf)
  exact hE 28 _ dX7_bring_28
abbrev rX7_bring10 : Room := { frames := 0, cells := 0, slots := 0, locals := 0 }
def fX7_bring10_L3 : Nat → zAI → zAI → Int32 → Int32 → Int32 → Int32 → Option zAI
  | 0, _, _, _, _, _, _ => none
  | n + 1, s, t, x1, x3, x4, x5 => if x4 ≤ x5 then (some t) else (zgrd (zix (x1 + x5) 10) (zgrd (zix (x3 + x5) 10) (fX7_bring10_L3 n s (zpt t (x3 + x5) (zgt s (x1 + x5))) x1 x3 x4 (x5 + 1))))
set_option maxRecDepth 100000 in
set_option maxHeartbeats 4000000 in
theorem tX7_bring10_l3 {X : zX} {l : Launch} {G : va_G} {ca : Nat → ClassId} {a : Nat} {b : Nat} (h : zOk X l G ca cX7_bring RX7 wsX7_bring 6 rX7_bring10) : ∀ (n : Nat) (s : zAI) (t : zAI) (x1 : Int32) (x3 : Int32) (x4 : Int32) (x5 : Int32) (out : zAI), fX7_bring10_L3 n s t x1 x3 x4 x5 = some out → (V X G 6 0 0 (wA ca a 10 s ++ wA ca b 10 out) 28 [] []) → V X G 6 0 0 (wA ca a 10 s ++ wA ca b 10 t) 3 [(0, .ref a), (1, .int x1), (2, .ref b), (3, .int x3), (4, .int x4), (5, .int x5)] [] := by
  intro n
  induction n with
  | zero => intro s t x1 x3 x4 x5 out hf; rw [fX7_bring10_L3] at hf; cases hf
  | succ n ih =>
    intro s t x1 x3 x4 x5 out hf kx
    rw [fX7_bring10_L3] at hf
    refine v_iload h dX7_bring_3 5 rfl 5 rfl ?_
    refine v_iload h dX7_bring_5 4 rfl 7 rfl ?_
    refine v_icmp_ge h dX7_bring_7 28 (by decide) 10 rfl (fun c1 => ?_) (fun c1 => ?_)
    · replace hf := zt c1 hf
      cases (Option.some.inj hf)
      exact v_sub [] rfl (kx)
    · replace hf := zf c1 hf
      refine v_aload_n h dX7_bring_10 2 rfl 11 rfl ?_
      refine v_iload_n h dX7_bring_11 3 rfl 12 rfl ?_
      refine v_iload h dX7_bring_12 5 rfl 14 rfl ?_
      refine v_iadd h dX7_bring_14 15 rfl ?_
      refine v_aload_n h dX7_bring_15 0 rfl 16 rfl ?_
      refine v_iload_n h dX7_bring_16 1 rfl 17 rfl ?_
      refine v_iload h dX7_bring_17 5 rfl 19 rfl ?_
      refine v_iadd h dX7_bring_19 20 rfl ?_
      obtain ⟨g2, hf⟩ := zg hf
      refine v_iald h (f := s) dX7_bring_20 0 0 rfl rfl (zix_in g2) 21 rfl ?_
      obtain ⟨g3, hf⟩ := zg hf
      refine v_iast h (f := t) dX7_bring_21 1 0 rfl rfl (zix_in g3) (wA ca a 10 s ++ wA ca b 10 (zpt t (x3 + x5) (zgt s (x1 + x5)))) rfl 22 rfl ?_
      refine v_iinc h dX7_bring_22 5 rfl (x5 + 1) rfl (Nat.le_of_ble_eq_true rfl) rfl rfl [(0, .ref a), (1, .int x1), (2, .ref b), (3, .int x3), (4, .int x4), (5, .int (x5 + 1))] rfl 25 rfl ?_
      refine v_goto h dX7_bring_25 3 (by decide) ?_
      exact v_sub [0, 1, 2, 3, 4, 5] rfl (ih s (zpt t (x3 + x5) (zgt s (x1 + x5))) x1 x3 x4 (x5 + 1) _ hf kx)
def fX7_bring10 (s : zAI) (t : zAI) (x1 : Int32) (x3 : Int32) (x4 : Int32) : Option zAI := ((fX7_bring10_L3 zF s t x1 x3 x4 0) : Option zAI).bind (fun u1 => some u1)
set_option maxRecDepth 100000 in
set_option maxHeartbeats 4000000 in
theorem tX7_bring10 (l : Launch) (G : va_G) (ca : Nat → ClassId) (a : Nat) (b : Nat) (s : zAI) (t : zAI) (x1 : Int32) (x3 : Int32) (x4 : Int32) {o : zAI} (hf : fX7_bring10 s t x1 x3 x4 = some o) : zMv l yX7_bring wsX7_bring rX7_bring10 G ca [.ref a, .int x1, .ref b, .int x3, .int x4] (wA ca a 10 s ++ wA ca b 10 t) (wA ca a 10 s ++ wA ca b 10 o) := by
  refine zMv.of (cc := cX7_bring) (nL := 6) (own := RX7) (by decide) rfl rfl (Nat.le_of_ble_eq_true rfl) (fun X h hE => ?_)
  show V X G 6 0 0 (wA ca a 10 s ++ wA ca b 10 t) 0 [(0, .ref a), (1, .int x1), (2, .ref b), (3, .int x3), (4, .int x4)] []
  unfold fX7_bring10 at hf
  refine v_iconst h dX7_bring_0 0 rfl 1 rfl ?_
  refine v_istore h dX7_bring_1 (Nat.le_of_ble_eq_true rfl) rfl rfl [(0, .ref a), (1, .int x1), (2, .ref b), (3, .int x3), (4, .int x4), (5, .int 0)] rfl 3 rfl ?_
  obtain ⟨u1, hu1, hf⟩ := zb hf
  refine v_sub [0, 1, 2, 3, 4, 5] rfl ?_
  refine tX7_bring10_l3 h zF s t x1 x3 x4 0 _ hu1 ?_
  cases (Option.some.inj hf)
  exact hE 28 _ dX7_bring_28
abbrev rX7_bringS : Room := { frames := 0, cells := 0, slots := 0, locals := 0 }
def fX7_bringS_L3 : Nat → zAI → Int32 → Int32 → Int32 → Int32 → Option zAI
  | 0, _, _, _, _, _ => none
  | n + 1, s, x1, x3, x4, x5 => if x4 ≤ x5 then (some s) else (zgrd (zix (x1 + x5) 407) (zgrd (zix (x3 + x5) 407) (fX7_bringS_L3 n (zpt s (x3 + x5) (zgt s (x1 + x5))) x1 x3 x4 (x5 + 1))))
set_option maxRecDepth 100000 in
set_option maxHeartbeats 4000000 in
theorem tX7_bringS_l3 {X : zX} {l : Launch} {G : va_G} {ca : Nat → ClassId} {a : Nat} (h : zOk X l G ca cX7_bring RX7 wsX7_bring 6 rX7_bringS) : ∀ (n : Nat) (s : zAI) (x1 : Int32) (x3 : Int32) (x4 : Int32) (x5 : Int32) (out : zAI), fX7_bringS_L3 n s x1 x3 x4 x5 = some out → (V X G 6 0 0 (wA ca a 407 out) 28 [] []) → V X G 6 0 0 (wA ca a 407 s) 3 [(0, .ref a), (1, .int x1), (2, .ref a), (3, .int x3), (4, .int x4), (5, .int x5)] [] := by
  intro n
  induction n with
  | zero => intro s x1 x3 x4 x5 out hf; rw [fX7_bringS_L3] at hf; cases hf
  | succ n ih =>
    intro s x1 x3 x4 x5 out hf kx
    rw [fX7_bringS_L3] at hf
    refine v_iload h dX7_bring_3 5 rfl 5 rfl ?_
    refine v_iload h dX7_bring_5 4 rfl 7 rfl ?_
    refine v_icmp_ge h dX7_bring_7 28 (by decide) 10 rfl (fun c1 => ?_) (fun c1 => ?_)
    · replace hf := zt c1 hf
      cases (Option.some.inj hf)
      exact v_sub [] rfl (kx)
    · replace hf := zf c1 hf
      refine v_aload_n h dX7_bring_10 2 rfl 11 rfl ?_
      refine v_iload_n h dX7_bring_11 3 rfl 12 rfl ?_
      refine v_iload h dX7_bring_12 5 rfl 14 rfl ?_
      refine v_iadd h dX7_bring_14 15 rfl ?_
      refine v_aload_n h dX7_bring_15 0 rfl 16 rfl ?_
      refine v_iload_n h dX7_bring_16 1 rfl 17 rfl ?_
      refine v_iload h dX7_bring_17 5 rfl 19 rfl ?_
      refine v_iadd h dX7_bring_19 20 rfl ?_
      obtain ⟨g2, hf⟩ := zg hf
      refine v_iald h (f := s) dX7_bring_20 0 0 rfl rfl (zix_in g2) 21 rfl ?_
      obtain ⟨g3, hf⟩ := zg hf
      refine v_iast h (f := s) dX7_bring_21 0 0 rfl rfl (zix_in g3) (wA ca a 407 (zpt s (x3 + x5) (zgt s (x1 + x5)))) rfl 22 rfl ?_
      refine v_iinc h dX7_bring_22 5 rfl (x5 + 1) rfl (Nat.le_of_ble_eq_true rfl) rfl rfl [(0, .ref a), (1, .int x1), (2, .ref a), (3, .int x3), (4, .int x4), (5, .int (x5 + 1))] rfl 25 rfl ?_
      refine v_goto h dX7_bring_25 3 (by decide) ?_
      exact v_sub [0, 1, 2, 3, 4, 5] rfl (ih (zpt s (x3 + x5) (zgt s (x1 + x5))) x1 x3 x4 (x5 + 1) _ hf kx)
def fX7_bringS (s : zAI) (x1 : Int32) (x3 : Int32) (x4 : Int32) : Option zAI := ((fX7_bringS_L3 zF s x1 x3 x4 0) : Option zAI).bind (fun u1 => some u1)
set_option maxRecDepth 100000 in
set_option maxHeartbeats 4000000 in
theorem tX7_bringS (l : Launch) (G : va_G) (ca : Nat → ClassId) (a : Nat) (s : zAI) (x1 : Int32) (x3 : Int32) (x4 : Int32) {o : zAI} (hf : fX7_bringS s x1 x3 x4 = some o) : zMv l yX7_bring wsX7_bring rX7_bringS G ca [.ref a, .int x1, .ref a, .int x3, .int x4] (wA ca a 407 s) (wA ca a 407 o) := by
  refine zMv.of (cc := cX7_bring) (nL := 6) (own := RX7) (by decide) rfl rfl (Nat.le_of_ble_eq_true rfl) (fun X h hE => ?_)
  show V X G 6 0 0 (wA ca a 407 s) 0 [(0, .ref a), (1, .int x1), (2, .ref a), (3, .int x3), (4, .int x4)] []
  unfold fX7_bringS at hf
  refine v_iconst h dX7_bring_0 0 rfl 1 rfl ?_
  refine v_istore h dX7_bring_1 (Nat.le_of_ble_eq_true rfl) rfl rfl [(0, .ref a), (1, .int x1), (2, .ref a), (3, .int x3), (4, .int x4), (5, .int 0)] rfl 3 rfl ?_
  obtain ⟨u1, hu1, hf⟩ := zb hf
  refine v_sub [0, 1, 2, 3, 4, 5] rfl ?_
  refine tX7_bringS_l3 h zF s x1 x3 x4 0 _ hu1 ?_
  cases (Option.some.inj hf)
  exact hE 28 _ dX7_bring_28
abbrev rX7_pours : Room := { frames := 1, cells := 0, slots := 0, locals := 23 }
theorem nX7_pours : zNoMH yX7_pours 2 := ⟨by decide +kernel, by decide +kernel, by decide +kernel⟩
theorem iX7_pours_X7 : ∀ w ∈ wsX70, w ∈ wsX7_pours := fun _ h => (List.mem_cons_of_mem _ (List.mem_append_right _ h))
def fX7_pours_L9 : Nat → zAI → zAI → Int32 → Int32 → Option (Int32 × zAI)
  | 0, _, _, _, _ => none
  | n + 1, tk, s, x3, x4 => if x4 < 0 then (some (x3, tk)) else (((fX7_capOf s x4) : Option Int32).bind (fun u2 => if u2 ≤ x3 then (zgrd (zix x4 10) (fX7_pours_L9 n (zpt tk x4 u2) s (x3 - (zgt (zpt tk x4 u2) x4)) (x4 + (-1)))) else (zgrd (zix x4 10) (fX7_pours_L9 n (zpt tk x4 x3) s (x3 - (zgt (zpt tk x4 x3) x4)) (x4 + (-1))))))
set_option maxRecDepth 100000 in
set_option maxHeartbeats 4000000 in
theorem tX7_pours_l9 {X : zX} {l : Launch} {G : va_G} {ca : Nat → ClassId} {ad : Nat → Nat} {a : Nat} (h : zOk X l G ca cX7_pours RX7 wsX7_pours 6 rX7_pours) : ∀ (n : Nat) (v : MV) (tk : zAI) (s : zAI) (x3 : Int32) (x4 : Int32) (out : (Int32 × zAI)), fX7_pours_L9 n tk s x3 x4 = some out → (V X G 6 0 0 (wMo ad v ++ wA ca (ad 9) 10 out.2 ++ wA ca a 407 s) 57 [(3, .int out.1)] []) → V X G 6 0 0 (wMo ad v ++ wA ca (ad 9) 10 tk ++ wA ca a 407 s) 9 [(0, .ref (ad 0)), (1, .ref a), (3, .int x3), (4, .int x4)] [] := by
  intro n
  induction n with
  | zero => intro v tk s x3 x4 out hf; rw [fX7_pours_L9] at hf; cases hf
  | succ n ih =>
    intro v tk s x3 x4 out hf kx
    rw [fX7_pours_L9] at hf
    refine v_iload h dX7_pours_9 3 rfl 11 rfl ?_
    refine v_if_lt h dX7_pours_11 57 (by decide) 14 rfl (fun c1 => ?_) (fun c1 => ?_)
    · replace hf := zt c1 hf
      cases (Option.some.inj hf)
      exact v_sub [2] rfl (kx)
    · replace hf := zf c1 hf
      refine v_aload_n h dX7_pours_14 1 rfl 15 rfl ?_
      refine v_iload h dX7_pours_15 3 rfl 17 rfl ?_
      obtain ⟨u2, hu2, hf⟩ := zb hf
      refine v_callSi h (rest := []) dX7_pours_17 (tX7_capOf l G ca a s x4 hu2) gX7_pours_X7_capOf rfl ⟨rfl, rfl⟩ nX7_capOf ⟨Nat.le_of_ble_eq_true rfl, Nat.le_of_ble_eq_true rfl⟩ [2] rfl rfl rfl rfl (Nat.le_of_ble_eq_true rfl) ⟨Nat.zero_le _, Nat.zero_le _⟩ rfl (wMo ad v ++ wA ca (ad 9) 10 tk ++ wA ca a 407 s) rfl rfl 20 rfl ?_
      refine v_istore h dX7_pours_20 (Nat.le_of_ble_eq_true rfl) rfl rfl [(0, .ref (ad 0)), (1, .ref a), (3, .int x3), (4, .int x4), (5, .int u2)] rfl 22 rfl ?_
      refine v_aload_n h dX7_pours_22 0 rfl 23 rfl ?_
      refine v_get h (v := .ref (ad 9)) dX7_pours_23 iX7_pours_X7 0 rfl rfl 12 (by decide) (zwi 1 rfl) rfl 26 rfl ?_
      refine v_iload h dX7_pours_26 3 rfl 28 rfl ?_
      refine v_iload_n h dX7_pours_28 2 rfl 29 rfl ?_
      refine v_iload h dX7_pours_29 4 rfl 31 rfl ?_
      refine v_icmp_ge h dX7_pours_31 38 (by decide) 34 rfl (fun c3 => ?_) (fun c3 => ?_)
      · replace hf := zt c3 hf
        refine v_iload h dX7_pours_38 4 rfl 40 rfl ?_
        obtain ⟨g4, hf⟩ := zg hf
        refine v_iast h (f := tk) dX7_pours_40 1 0 rfl rfl (zix_in g4) (wMo ad v ++ wA ca (ad 9) 10 (zpt tk x4 u2) ++ wA ca a 407 s) rfl 41 rfl ?_
        refine v_iload_n h dX7_pours_41 2 rfl 42 rfl ?_
        refine v_aload_n h dX7_pours_42 0 rfl 43 rfl ?_
        refine v_get h (v := .ref (ad 9)) dX7_pours_43 iX7_pours_X7 0 rfl rfl 12 (by decide) (zwi 1 rfl) rfl 46 rfl ?_
        refine v_iload h dX7_pours_46 3 rfl 48 rfl ?_
        refine v_iald h (f := (zpt tk x4 u2)) dX7_pours_48 1 0 rfl rfl (zix_in g4) 49 rfl ?_
        refine v_isub h dX7_pours_49 50 rfl ?_
        refine v_istore_n h dX7_pours_50 (Nat.le_of_ble_eq_true rfl) rfl rfl [(0, .ref (ad 0)), (1, .ref a), (3, .int (x3 - (zgt (zpt tk x4 u2) x4))), (4, .int x4), (5, .int u2)] rfl 51 rfl ?_
        refine v_iinc h dX7_pours_51 3 rfl (x4 + (-1)) rfl (Nat.le_of_ble_eq_true rfl) rfl rfl [(0, .ref (ad 0)), (1, .ref a), (3, .int (x3 - (zgt (zpt tk x4 u2) x4))), (4, .int (x4 + (-1))), (5, .int u2)] rfl 54 rfl ?_
        refine v_goto h dX7_pours_54 9 (by decide) ?_
        exact v_sub [0, 1, 2, 3] rfl (ih v (zpt tk x4 u2) s (x3 - (zgt (zpt tk x4 u2) x4)) (x4 + (-1)) _ hf kx)
      · replace hf := zf c3 hf
        refine v_iload_n h dX7_pours_34 2 rfl 35 rfl ?_
        refine v_goto h dX7_pours_35 40 (by decide) ?_
        obtain ⟨g5, hf⟩ := zg hf
        refine v_iast h (f := tk) dX7_pours_40 1 0 rfl rfl (zix_in g5) (wMo ad v ++ wA ca (ad 9) 10 (zpt tk x4 x3) ++ wA ca a 407 s) rfl 41 rfl ?_
        refine v_iload_n h dX7_pours_41 2 rfl 42 rfl ?_
        refine v_aload_n h dX7_pours_42 0 rfl 43 rfl ?_
        refine v_get h (v := .ref (ad 9)) dX7_pours_43 iX7_pours_X7 0 rfl rfl 12 (by decide) (zwi 1 rfl) rfl 46 rfl ?_
        refine v_iload h dX7_pours_46 3 rfl 48 rfl ?_
        refine v_iald h (f := (zpt tk x4 x3)) dX7_pours_48 1 0 rfl rfl (zix_in g5) 49 rfl ?_
        refine v_isub h dX7_pours_49 50 rfl ?_
        refine v_istore_n h dX7_pours_50 (Nat.le_of_ble_eq_true rfl) rfl rfl [(0, .ref (ad 0)), (1, .ref a), (3, .int (x3 - (zgt (zpt tk x4 x3) x4))), (4, .int x4), (5, .int u2)] rfl 51 rfl ?_
        refine v_iinc h dX7_pours_51 3 rfl (x4 + (-1)) rfl (Nat.le_of_ble_eq_true rfl) rfl rfl [(0, .ref (ad 0)), (1, .ref a), (3, .int (x3 - (zgt (zpt tk x4 x3) x4))), (4, .int (x4 + (-1))), (5, .int u2)] rfl 54 rfl ?_
        refine v_goto h dX7_pours_54 9 (by decide) ?_
        exact v_sub [0, 1, 2, 3] rfl (ih v (zpt tk x4 x3) s (x3 - (zgt (zpt tk x4 x3) x4)) (x4 + (-1)) _ hf kx)
def fX7_pours (tk : zAI) (s : zAI) (x2 : Int32) : Option (Int32 × zAI) := ((fX7_pours_L9 zF tk s x2 ((zgt s 3) - 1)) : Option (Int32 × zAI)).bind (fun u1 => some (u1.1, u1.2))
set_option maxRecDepth 100000 in
set_option maxHeartbeats 4000000 in
theorem tX7_pours (l : Launch) (G : va_G) (ca : Nat → ClassId) (ad : Nat → Nat) (a : Nat) (v : MV) (tk : zAI) (s : zAI) (x2 : Int32) {o : (Int32 × zAI)} (hf : fX7_pours tk s x2 = some o) : zMi l yX7_pours wsX7_pours rX7_pours G ca [.ref (ad 0), .ref a, .int x2] (wMo ad v ++ wA ca (ad 9) 10 tk ++ wA ca a 407 s) o.1 (wMo ad v ++ wA ca (ad 9) 10 o.2 ++ wA ca a 407 s) := by
  refine zMi.of (cc := cX7_pours) (nL := 6) (own := RX7) (ty := .int) (by decide) rfl rfl (Nat.le_of_ble_eq_true rfl) (fun X h hE => ?_)
  show V X G 6 0 0 (wMo ad v ++ wA ca (ad 9) 10 tk ++ wA ca a 407 s) 0 [(0, .ref (ad 0)), (1, .ref a), (2, .int x2)] []
  unfold fX7_pours at hf
  refine v_iload_n h dX7_pours_0 2 rfl 1 rfl ?_
  refine v_istore_n h dX7_pours_1 (Nat.le_of_ble_eq_true rfl) rfl rfl [(0, .ref (ad 0)), (1, .ref a), (2, .int x2), (3, .int x2)] rfl 2 rfl ?_
  refine v_aload_n h dX7_pours_2 1 rfl 3 rfl ?_
  refine v_iconst h dX7_pours_3 3 rfl 4 rfl ?_
  refine v_iald h (f := s) dX7_pours_4 2 0 rfl rfl zi_3_407 5 rfl ?_
  refine v_iconst h dX7_pours_5 1 rfl 6 rfl ?_
  refine v_isub h dX7_pours_6 7 rfl ?_
  refine v_istore h dX7_pours_7 (Nat.le_of_ble_eq_true rfl) rfl rfl [(0, .ref (ad 0)), (1, .ref a), (2, .int x2), (3, .int x2), (4, .int ((zgt s 3) - 1))] rfl 9 rfl ?_
  obtain ⟨u1, hu1, hf⟩ := zb hf
  refine v_sub [0, 1, 3, 4] rfl ?_
  refine tX7_pours_l9 h zF v tk s x2 ((zgt s 3) - 1) _ hu1 ?_
  refine v_iload_n h dX7_pours_57 0 rfl 58 rfl ?_
  cases (Option.some.inj hf)
  exact hE 58 _ rfl dX7_pours_58
abbrev rX7_yearBy : Room := { frames := 2, cells := 0, slots := 0, locals := 48 }
theorem nX7_yearBy : zNoMH yX7_yearBy 2 := ⟨by decide +kernel, by decide +kernel, by decide +kernel⟩
theorem iX7_yearBy_X7 : ∀ w ∈ wsX70, w ∈ wsX7_yearBy := fun _ h => (List.mem_cons_of_mem _ (List.mem_append_right _ h))
def fX7_yearBy_L10 : Nat → zAI → zAI → Int32 → Int32 → Option zAI
  | 0, _, _, _, _ => none
  | n + 1, tk, s, x3, x4 => if (zgt s 3) ≤ x4 then (some s) else (zgrd (zix (24 + x4) 407) (zgrd (zix x4 10) (if (zgt tk x4) = 0 then (if 0 ≤ ((zgt s (24 + x4)) + (-2)) then (if ((zgt s (24 + x4)) + (-2)) ≤ 9 then (fX7_yearBy_L10 n tk (zpt s (24 + x4) ((zgt s (24 + x4)) + (-2))) x3 (x4 + 1)) else (fX7_yearBy_L10 n tk (zpt s (24 + x4) 9) x3 (x4 + 1))) else (fX7_yearBy_L10 n tk (zpt s (24 + x4) 0) x3 (x4 + 1))) else (if 0 ≤ ((zgt s (24 + x4)) + ((zgt tk x4) / 2)) then (if ((zgt s (24 + x4)) + ((zgt tk x4) / 2)) ≤ 9 then (fX7_yearBy_L10 n tk (zpt s (24 + x4) ((zgt s (24 + x4)) + ((zgt tk x4) / 2))) x3 (x4 + 1)) else (fX7_yearBy_L10 n tk (zpt s (24 + x4) 9) x3 (x4 + 1))) else (fX7_yearBy_L10 n tk (zpt s (24 + x4) 0) x3 (x4 + 1))))))
set_option maxRecDepth 100000 in
set_option maxHeartbeats 4000000 in
theorem tX7_yearBy_l10 {X : zX} {l : Launch} {G : va_G} {ca : Nat → ClassId} {ad : Nat → Nat} {a : Nat} (h : zOk X l G ca cX7_yearBy RX7 wsX7_yearBy 6 rX7_yearBy) : ∀ (n : Nat) (v : MV) (tk : zAI) (s : zAI) (x3 : Int32) (x4 : Int32) (out : zAI), fX7_yearBy_L10 n tk s x3 x4 = some out → (V X G 6 0 0 (wMo ad v ++ wA ca (ad 9) 10 tk ++ wA ca a 407 out) 88 [(1, .ref a), (3, .int x3)] []) → V X G 6 0 0 (wMo ad v ++ wA ca (ad 9) 10 tk ++ wA ca a 407 s) 10 [(0, .ref (ad 0)), (1, .ref a), (3, .int x3), (4, .int x4)] [] := by
  intro n
  induction n with
  | zero => intro v tk s x3 x4 out hf; rw [fX7_yearBy_L10] at hf; cases hf
  | succ n ih =>
    intro v tk s x3 x4 out hf kx
    rw [fX7_yearBy_L10] at hf
    refine v_iload h dX7_yearBy_10 3 rfl 12 rfl ?_
    refine v_aload_n h dX7_yearBy_12 1 rfl 13 rfl ?_
    refine v_iconst h dX7_yearBy_13 3 rfl 14 rfl ?_
    refine v_iald h (f := s) dX7_yearBy_14 2 0 rfl rfl zi_3_407 15 rfl ?_
    refine v_icmp_ge h dX7_yearBy_15 88 (by decide) 18 rfl (fun c1 => ?_) (fun c1 => ?_)
    · replace hf := zt c1 hf
      cases (Option.some.inj hf)
      exact v_sub [1, 2] rfl (kx)
    · replace hf := zf c1 hf
      refine v_aload_n h dX7_yearBy_18 1 rfl 19 rfl ?_
      refine v_bipush h dX7_yearBy_19 24 rfl 21 rfl ?_
      refine v_iload h dX7_yearBy_21 3 rfl 23 rfl ?_
      refine v_iadd h dX7_yearBy_23 24 rfl ?_
      obtain ⟨g2, hf⟩ := zg hf
      refine v_iald h (f := s) dX7_yearBy_24 2 0 rfl rfl (zix_in g2) 25 rfl ?_
      refine v_aload_n h dX7_yearBy_25 0 rfl 26 rfl ?_
      refine v_get h (v := .ref (ad 9)) dX7_yearBy_26 iX7_yearBy_X7 0 rfl rfl 12 (by decide) (zwi 1 rfl) rfl 29 rfl ?_
      refine v_iload h dX7_yearBy_29 3 rfl 31 rfl ?_
      obtain ⟨g3, hf⟩ := zg hf
      refine v_iald h (f := tk) dX7_yearBy_31 1 0 rfl rfl (zix_in g3) 32 rfl ?_
      refine v_if_ne h dX7_yearBy_32 40 (by decide) 35 rfl (fun c4 => ?_) (fun c4 => ?_)
      · replace hf := zf c4 hf
        refine v_aload_n h dX7_yearBy_40 0 rfl 41 rfl ?_
        refine v_get h (v := .ref (ad 9)) dX7_yearBy_41 iX7_yearBy_X7 0 rfl rfl 12 (by decide) (zwi 1 rfl) rfl 44 rfl ?_
        refine v_iload h dX7_yearBy_44 3 rfl 46 rfl ?_
        refine v_iald h (f := tk) dX7_yearBy_46 1 0 rfl rfl (zix_in g3) 47 rfl ?_
        refine v_iconst h dX7_yearBy_47 2 rfl 48 rfl ?_
        refine v_idiv h dX7_yearBy_48 (by decide) 49 rfl ?_
        refine v_iadd h dX7_yearBy_49 50 rfl ?_
        refine v_istore h dX7_yearBy_50 (Nat.le_of_ble_eq_true rfl) rfl rfl [(0, .ref (ad 0)), (1, .ref a), (3, .int x3), (4, .int x4), (5, .int ((zgt s (24 + x4)) + ((zgt tk x4) / 2)))] rfl 52 rfl ?_
        refine v_aload_n h dX7_yearBy_52 1 rfl 53 rfl ?_
        refine v_bipush h dX7_yearBy_53 24 rfl 55 rfl ?_
        refine v_iload h dX7_yearBy_55 3 rfl 57 rfl ?_
        refine v_iadd h dX7_yearBy_57 58 rfl ?_
        refine v_iload h dX7_yearBy_58 4 rfl 60 rfl ?_
        refine v_if_ge h dX7_yearBy_60 67 (by decide) 63 rfl (fun c5 => ?_) (fun c5 => ?_)
        · replace hf := zt c5 hf
          refine v_iload h dX7_yearBy_67 4 rfl 69 rfl ?_
          refine v_bipush h dX7_yearBy_69 9 rfl 71 rfl ?_
          refine v_icmp_le h dX7_yearBy_71 79 (by decide) 74 rfl (fun c6 => ?_) (fun c6 => ?_)
          · replace hf := zt c6 hf
            refine v_iload h dX7_yearBy_79 4 rfl 81 rfl ?_
            refine v_iast h (f := s) dX7_yearBy_81 2 0 rfl rfl (zix_in g2) (wMo ad v ++ wA ca (ad 9) 10 tk ++ wA ca a 407 (zpt s (24 + x4) ((zgt s (24 + x4)) + ((zgt tk x4) / 2)))) rfl 82 rfl ?_
            refine v_iinc h dX7_yearBy_82 3 rfl (x4 + 1) rfl (Nat.le_of_ble_eq_true rfl) rfl rfl [(0, .ref (ad 0)), (1, .ref a), (3, .int x3), (4, .int (x4 + 1)), (5, .int ((zgt s (24 + x4)) + ((zgt tk x4) / 2)))] rfl 85 rfl ?_
            refine v_goto h dX7_yearBy_85 10 (by decide) ?_
            exact v_sub [0, 1, 2, 3] rfl (ih v tk (zpt s (24 + x4) ((zgt s (24 + x4)) + ((zgt tk x4) / 2))) x3 (x4 + 1) _ hf kx)
          · replace hf := zf c6 hf
            refine v_bipush h dX7_yearBy_74 9 rfl 76 rfl ?_
            refine v_goto h dX7_yearBy_76 81 (by decide) ?_
            refine v_iast h (f := s) dX7_yearBy_81 2 0 rfl rfl (zix_in g2) (wMo ad v ++ wA ca (ad 9) 10 tk ++ wA ca a 407 (zpt s (24 + x4) 9)) rfl 82 rfl ?_
            refine v_iinc h dX7_yearBy_82 3 rfl (x4 + 1) rfl (Nat.le_of_ble_eq_true rfl) rfl rfl [(0, .ref (ad 0)), (1, .ref a), (3, .int x3), (4, .int (x4 + 1)), (5, .int ((zgt s (24 + x4)) + ((zgt tk x4) / 2)))] rfl 85 rfl ?_
            refine v_goto h dX7_yearBy_85 10 (by decide) ?_
            exact v_sub [0, 1, 2, 3] rfl (ih v tk (zpt s (24 + x4) 9) x3 (x4 + 1) _ hf kx)
        · replace hf := zf c5 hf
          refine v_iconst h dX7_yearBy_63 0 rfl 64 rfl ?_
          refine v_goto h dX7_yearBy_64 81 (by decide) ?_
          refine v_iast h (f := s) dX7_yearBy_81 2 0 rfl rfl (zix_in g2) (wMo ad v ++ wA ca (ad 9) 10 tk ++ wA ca a 407 (zpt s (24 + x4) 0)) rfl 82 rfl ?_
          refine v_iinc h dX7_yearBy_82 3 rfl (x4 + 1) rfl (Nat.le_of_ble_eq_true rfl) rfl rfl [(0, .ref (ad 0)), (1, .ref a), (3, .int x3), (4, .int (x4 + 1)), (5, .int ((zgt s (24 + x4)) + ((zgt tk x4) / 2)))] rfl 85 rfl ?_
          refine v_goto h dX7_yearBy_85 10 (by decide) ?_
          exact v_sub [0, 1, 2, 3] rfl (ih v tk (zpt s (24 + x4) 0) x3 (x4 + 1) _ hf kx)
      · replace hf := zt c4 hf
        refine v_bipush h dX7_yearBy_35 (-2) rfl 37 rfl ?_
        refine v_goto h dX7_yearBy_37 49 (by decide) ?_
        refine v_iadd h dX7_yearBy_49 50 rfl ?_
        refine v_istore h dX7_yearBy_50 (Nat.le_of_ble_eq_true rfl) rfl rfl [(0, .ref (ad 0)), (1, .ref a), (3, .int x3), (4, .int x4), (5, .int ((zgt s (24 + x4)) + (-2)))] rfl 52 rfl ?_
        refine v_aload_n h dX7_yearBy_52 1 rfl 53 rfl ?_
        refine v_bipush h dX7_yearBy_53 24 rfl 55 rfl ?_
        refine v_iload h dX7_yearBy_55 3 rfl 57 rfl ?_
        refine v_iadd h dX7_yearBy_57 58 rfl ?_
        refine v_iload h dX7_yearBy_58 4 rfl 60 rfl ?_
        refine v_if_ge h dX7_yearBy_60 67 (by decide) 63 rfl (fun c7 => ?_) (fun c7 => ?_)
        · replace hf := zt c7 hf
          refine v_iload h dX7_yearBy_67 4 rfl 69 rfl ?_
          refine v_bipush h dX7_yearBy_69 9 rfl 71 rfl ?_
          refine v_icmp_le h dX7_yearBy_71 79 (by decide) 74 rfl (fun c8 => ?_) (fun c8 => ?_)
          · replace hf := zt c8 hf
            refine v_iload h dX7_yearBy_79 4 rfl 81 rfl ?_
            refine v_iast h (f := s) dX7_yearBy_81 2 0 rfl rfl (zix_in g2) (wMo ad v ++ wA ca (ad 9) 10 tk ++ wA ca a 407 (zpt s (24 + x4) ((zgt s (24 + x4)) + (-2)))) rfl 82 rfl ?_
            refine v_iinc h dX7_yearBy_82 3 rfl (x4 + 1) rfl (Nat.le_of_ble_eq_true rfl) rfl rfl [(0, .ref (ad 0)), (1, .ref a), (3, .int x3), (4, .int (x4 + 1)), (5, .int ((zgt s (24 + x4)) + (-2)))] rfl 85 rfl ?_
            refine v_goto h dX7_yearBy_85 10 (by decide) ?_
            exact v_sub [0, 1, 2, 3] rfl (ih v tk (zpt s (24 + x4) ((zgt s (24 + x4)) + (-2))) x3 (x4 + 1) _ hf kx)
          · replace hf := zf c8 hf
            refine v_bipush h dX7_yearBy_74 9 rfl 76 rfl ?_
            refine v_goto h dX7_yearBy_76 81 (by decide) ?_
            refine v_iast h (f := s) dX7_yearBy_81 2 0 rfl rfl (zix_in g2) (wMo ad v ++ wA ca (ad 9) 10 tk ++ wA ca a 407 (zpt s (24 + x4) 9)) rfl 82 rfl ?_
            refine v_iinc h dX7_yearBy_82 3 rfl (x4 + 1) rfl (Nat.le_of_ble_eq_true rfl) rfl rfl [(0, .ref (ad 0)), (1, .ref a), (3, .int x3), (4, .int (x4 + 1)), (5, .int ((zgt s (24 + x4)) + (-2)))] rfl 85 rfl ?_
            refine v_goto h dX7_yearBy_85 10 (by decide) ?_
            exact v_sub [0, 1, 2, 3] rfl (ih v tk (zpt s (24 + x4) 9) x3 (x4 + 1) _ hf kx)
        · replace hf := zf c7 hf
          refine v_iconst h dX7_yearBy_63 0 rfl 64 rfl ?_
          refine v_goto h dX7_yearBy_64 81 (by decide) ?_
          refine v_iast h (f := s) dX7_yearBy_81 2 0 rfl rfl (zix_in g2) (wMo ad v ++ wA ca (ad 9) 10 tk ++ wA ca a 407 (zpt s (24 + x4) 0)) rfl 82 rfl ?_
          refine v_iinc h dX7_yearBy_82 3 rfl (x4 + 1) rfl (Nat.le_of_ble_eq_true rfl) rfl rfl [(0, .ref (ad 0)), (1, .ref a), (3, .int x3), (4, .int (x4 + 1)), (5, .int ((zgt s (24 + x4)) + (-2)))] rfl 85 rfl ?_
          refine v_goto h dX7_yearBy_85 10 (by decide) ?_
          exact v_sub [0, 1, 2, 3] rfl (ih v tk (zpt s (24 + x4) 0) x3 (x4 + 1) _ hf kx)
def fX7_yearBy (tk : zAI) (s : zAI) (x2 : Int32) : Option (Int32 × zAI × zAI) := ((fX7_pours tk s x2) : Option (Int32 × zAI)).bind (fun u1 => ((fX7_yearBy_L10 zF u1.2 s u1.1 0) : Option zAI).bind (fun u2 => if (zgt u2 3) ≤ 0 then (some (u1.1, u1.2, (zpt (zpt u2 2 ((zgt u2 2) + u1.1)) 0 ((zgt (zpt u2 2 ((zgt u2 2) + u1.1)) 0) + 1)))) else (zgrd (zix (14 + ((zgt u2 3) - 1)) 407) (if (zgt (zpt u2 (14 + ((zgt u2 3) - 1)) ((zgt u2 (14 + ((zgt u2 3) - 1))) - 1)) (14 + ((zgt u2 3) - 1))) = 0 then (some (u1.1, u1.2, (zpt (zpt (zpt (zpt u2 (14 + ((zgt u2 3) - 1)) ((zgt u2 (14 + ((zgt u2 3) - 1))) - 1)) 3 ((zgt (zpt u2 (14 + ((zgt u2 3) - 1)) ((zgt u2 (14 + ((zgt u2 3) - 1))) - 1)) 3) - 1)) 2 ((zgt (zpt (zpt u2 (14 + ((zgt u2 3) - 1)) ((zgt u2 (14 + ((zgt u2 3) - 1))) - 1)) 3 ((zgt (zpt u2 (14 + ((zgt u2 3) - 1)) ((zgt u2 (14 + ((zgt u2 3) - 1))) - 1)) 3) - 1)) 2) + u1.1)) 0 ((zgt (zpt (zpt (zpt u2 (14 + ((zgt u2 3) - 1)) ((zgt u2 (14 + ((zgt u2 3) - 1))) - 1)) 3 ((zgt (zpt u2 (14 + ((zgt u2 3) - 1)) ((zgt u2 (14 + ((zgt u2 3) - 1))) - 1)) 3) - 1)) 2 ((zgt (zpt (zpt u2 (14 + ((zgt u2 3) - 1)) ((zgt u2 (14 + ((zgt u2 3) - 1))) - 1)) 3 ((zgt (zpt u2 (14 + ((zgt u2 3) - 1)) ((zgt u2 (14 + ((zgt u2 3) - 1))) - 1)) 3) - 1)) 2) + u1.1)) 0) + 1)))) else (some (u1.1, u1.2, (zpt (zpt (zpt (zpt u2 (14 + ((zgt u2 3) - 1)) ((zgt u2 (14 + ((zgt u2 3) - 1))) - 1)) 3 ((zgt (zpt u2 (14 + ((zgt u2 3) - 1)) ((zgt u2 (14 + ((zgt u2 3) - 1))) - 1)) 3) - 0)) 2 ((zgt (zpt (zpt u2 (14 + ((zgt u2 3) - 1)) ((zgt u2 (14 + ((zgt u2 3) - 1))) - 1)) 3 ((zgt (zpt u2 (14 + ((zgt u2 3) - 1)) ((zgt u2 (14 + ((zgt u2 3) - 1))) - 1)) 3) - 0)) 2) + u1.1)) 0 ((zgt (zpt (zpt (zpt u2 (14 + ((zgt u2 3) - 1)) ((zgt u2 (14 + ((zgt u2 3) - 1))) - 1)) 3 ((zgt (zpt u2 (14 + ((zgt u2 3) - 1)) ((zgt u2 (14 + ((zgt u2 3) - 1))) - 1)) 3) - 0)) 2 ((zgt (zpt (zpt u2 (14 + ((zgt u2 3) - 1)) ((zgt u2 (14 + ((zgt u2 3) - 1))) - 1)) 3 ((zgt (zpt u2 (14 + ((zgt u2 3) - 1)) ((zgt u2 (14 + ((zgt u2 3) - 1))) - 1)) 3) - 0)) 2) + u1.1)) 0) + 1))))))))
set_option maxRecDepth 100000 in
set_option maxHeartbeats 4000000 in
theorem tX7_yearBy (l : Launch) (G : va_G) (ca : Nat → ClassId) (ad : Nat → Nat) (a : Nat) (v : MV) (tk : zAI) (s : zAI) (x2 : Int32) {o : (Int32 × zAI × zAI)} (hf : fX7_yearBy tk s x2 = some o) : zMi l yX7_yearBy wsX7_yearBy rX7_yearBy G ca [.ref (ad 0), .ref a, .int x2] (wMo ad v ++ wA ca (ad 9) 10 tk ++ wA ca a 407 s) o.1 (wMo ad v ++ wA ca (ad 9) 10 o.2.1 ++ wA ca a 407 o.2.2) := by
  refine zMi.of (cc := cX7_yearBy) (nL := 6) (own := RX7) (ty := .int) (by decide) rfl rfl (Nat.le_of_ble_eq_true rfl) (fun X h hE => ?_)
  show V X G 6 0 0 (wMo ad v ++ wA ca (ad 9) 10 tk ++ wA ca a 407 s) 0 [(0, .ref (ad 0)), (1, .ref a), (2, .int x2)] []
  unfold fX7_yearBy at hf
  refine v_aload_n h dX7_yearBy_0 0 rfl 1 rfl ?_
  refine v_aload_n h dX7_yearBy_1 1 rfl 2 rfl ?_
  refine v_iload_n h dX7_yearBy_2 2 rfl 3 rfl ?_
  obtain ⟨u1, hu1, hf⟩ := zb hf
  refine v_wcallVi h (rest := []) dX7_yearBy_3 (tX7_pours l G ca ad a v tk s x2 hu1) gX7_yearBy_X7_pours rfl rfl ⟨rfl, rfl⟩ nX7_pours ⟨Nat.le_of_ble_eq_true rfl, Nat.le_of_ble_eq_true rfl⟩ 0 rfl rfl rfl rfl (Nat.le_of_ble_eq_true rfl) ⟨Nat.zero_le _, Nat.zero_le _⟩ rfl 6 rfl ?_
  refine v_istore_n h dX7_yearBy_6 (Nat.le_of_ble_eq_true rfl) rfl rfl [(0, .ref (ad 0)), (1, .ref a), (2, .int x2), (3, .int u1.1)] rfl 7 rfl ?_
  refine v_iconst h dX7_yearBy_7 0 rfl 8 rfl ?_
  refine v_istore h dX7_yearBy_8 (Nat.le_of_ble_eq_true rfl) rfl rfl [(0, .ref (ad 0)), (1, .ref a), (2, .int x2), (3, .int u1.1), (4, .int 0)] rfl 10 rfl ?_
  obtain ⟨u2, hu2, hf⟩ := zb hf
  refine v_sub [0, 1, 3, 4] rfl ?_
  refine tX7_yearBy_l10 h zF v u1.2 s u1.1 0 _ hu2 ?_
  refine v_aload_n h dX7_yearBy_88 0 rfl 89 rfl ?_
  refine v_iconst h dX7_yearBy_89 3 rfl 90 rfl ?_
  refine v_iald h (f := u2) dX7_yearBy_90 2 0 rfl rfl zi_3_407 91 rfl ?_
  refine v_if_le h dX7_yearBy_91 133 (by decide) 94 rfl (fun c3 => ?_) (fun c3 => ?_)
  · replace hf := zt c3 hf
    refine v_aload_n h dX7_yearBy_133 0 rfl 134 rfl ?_
    refine v_iconst h dX7_yearBy_134 2 rfl 135 rfl ?_
    refine v_dup2 h dX7_yearBy_135 rfl rfl 136 rfl ?_
    refine v_iald h (f := u2) dX7_yearBy_136 2 0 rfl rfl zi_2_407 137 rfl ?_
    refine v_iload_n h dX7_yearBy_137 1 rfl 138 rfl ?_
    refine v_iadd h dX7_yearBy_138 139 rfl ?_
    refine v_iast h (f := u2) dX7_yearBy_139 2 0 rfl rfl zi_2_407 (wMo ad v ++ wA ca (ad 9) 10 u1.2 ++ wA ca a 407 (zpt u2 2 ((zgt u2 2) + u1.1))) rfl 140 rfl ?_
    refine v_aload_n h dX7_yearBy_140 0 rfl 141 rfl ?_
    refine v_iconst h dX7_yearBy_141 0 rfl 142 rfl ?_
    refine v_dup2 h dX7_yearBy_142 rfl rfl 143 rfl ?_
    refine v_iald h (f := (zpt u2 2 ((zgt u2 2) + u1.1))) dX7_yearBy_143 2 0 rfl rfl zi_0_407 144 rfl ?_
    refine v_iconst h dX7_yearBy_144 1 rfl 145 rfl ?_
    refine v_iadd h dX7_yearBy_145 146 rfl ?_
    refine v_iast h (f := (zpt u2 2 ((zgt u2 2) + u1.1))) dX7_yearBy_146 2 0 rfl rfl zi_0_407 (wMo ad v ++ wA ca (ad 9) 10 u1.2 ++ wA ca a 407 (zpt (zpt u2 2 ((zgt u2 2) + u1.1)) 0 ((zgt (zpt u2 2 ((zgt u2 2) + u1.1)) 0) + 1))) rfl 147 rfl ?_
    refine v_iload_n h dX7_yearBy_147 1 rfl 148 rfl ?_
    cases (Option.some.inj hf)
    exact hE 148 _ rfl dX7_yearBy_148
  · replace hf := zf c3 hf
    refine v_aload_n h dX7_yearBy_94 0 rfl 95 rfl ?_
    refine v_iconst h dX7_yearBy_95 3 rfl 96 rfl ?_
    refine v_iald h (f := u2) dX7_yearBy_96 2 0 rfl rfl zi_3_407 97 rfl ?_
    refine v_iconst h dX7_yearBy_97 1 rfl 98 rfl ?_
    refine v_isub h dX7_yearBy_98 99 rfl ?_
    refine v_istore h dX7_yearBy_99 (Nat.le_of_ble_eq_true rfl) rfl rfl [(1, .ref a), (3, .int u1.1), (4, .int ((zgt u2 3) - 1))] rfl 101 rfl ?_
    refine v_aload_n h dX7_yearBy_101 0 rfl 102 rfl ?_
    refine v_bipush h dX7_yearBy_102 14 rfl 104 rfl ?_
    refine v_iload h dX7_yearBy_104 2 rfl 106 rfl ?_
    refine v_iadd h dX7_yearBy_106 107 rfl ?_
    refine v_dup2 h dX7_yearBy_107 rfl rfl 108 rfl ?_
    obtain ⟨g4, hf⟩ := zg hf
    refine v_iald h (f := u2) dX7_yearBy_108 2 0 rfl rfl (zix_in g4) 109 rfl ?_
    refine v_iconst h dX7_yearBy_109 1 rfl 110 rfl ?_
    refine v_isub h dX7_yearBy_110 111 rfl ?_
    refine v_iast h (f := u2) dX7_yearBy_111 2 0 rfl rfl (zix_in g4) (wMo ad v ++ wA ca (ad 9) 10 u1.2 ++ wA ca a 407 (zpt u2 (14 + ((zgt u2 3) - 1)) ((zgt u2 (14 + ((zgt u2 3) - 1))) - 1))) rfl 112 rfl ?_
    refine v_aload_n h dX7_yearBy_112 0 rfl 113 rfl ?_
    refine v_iconst h dX7_yearBy_113 3 rfl 114 rfl ?_
    refine v_dup2 h dX7_yearBy_114 rfl rfl 115 rfl ?_
    refine v_iald h (f := (zpt u2 (14 + ((zgt u2 3) - 1)) ((zgt u2 (14 + ((zgt u2 3) - 1))) - 1))) dX7_yearBy_115 2 0 rfl rfl zi_3_407 116 rfl ?_
    refine v_aload_n h dX7_yearBy_116 0 rfl 117 rfl ?_
    refine v_bipush h dX7_yearBy_117 14 rfl 119 rfl ?_
    refine v_iload h dX7_yearBy_119 2 rfl 121 rfl ?_
    refine v_iadd h dX7_yearBy_121 122 rfl ?_
    refine v_iald h (f := (zpt u2 (14 + ((zgt u2 3) - 1)) ((zgt u2 (14 + ((zgt u2 3) - 1))) - 1))) dX7_yearBy_122 2 0 rfl rfl (zix_in g4) 123 rfl ?_
    refine v_if_ne h dX7_yearBy_123 130 (by decide) 126 rfl (fun c5 => ?_) (fun c5 => ?_)
    · replace hf := zf c5 hf
      refine v_iconst h dX7_yearBy_130 0 rfl 131 rfl ?_
      refine v_isub h dX7_yearBy_131 132 rfl ?_
      refine v_iast h (f := (zpt u2 (14 + ((zgt u2 3) - 1)) ((zgt u2 (14 + ((zgt u2 3) - 1))) - 1))) dX7_yearBy_132 2 0 rfl rfl zi_3_407 (wMo ad v ++ wA ca (ad 9) 10 u1.2 ++ wA ca a 407 (zpt (zpt u2 (14 + ((zgt u2 3) - 1)) ((zgt u2 (14 + ((zgt u2 3) - 1))) - 1)) 3 ((zgt (zpt u2 (14 + ((zgt u2 3) - 1)) ((zgt u2 (14 + ((zgt u2 3) - 1))) - 1)) 3) - 0))) rfl 133 rfl ?_
      refine v_aload_n h dX7_yearBy_133 0 rfl 134 rfl ?_
      refine v_iconst h dX7_yearBy_134 2 rfl 135 rfl ?_
      refine v_dup2 h dX7_yearBy_135 rfl rfl 136 rfl ?_
      refine v_iald h (f := (zpt (zpt u2 (14 + ((zgt u2 3) - 1)) ((zgt u2 (14 + ((zgt u2 3) - 1))) - 1)) 3 ((zgt (zpt u2 (14 + ((zgt u2 3) - 1)) ((zgt u2 (14 + ((zgt u2 3) - 1))) - 1)) 3) - 0))) dX7_yearBy_136 2 0 rfl rfl zi_2_407 137 rfl ?_
      refine v_iload_n h dX7_yearBy_137 1 rfl 138 rfl ?_
      refine v_iadd h dX7_yearBy_138 139 rfl ?_
      refine v_iast h (f := (zpt (zpt u2 (14 + ((zgt u2 3) - 1)) ((zgt u2 (14 + ((zgt u2 3) - 1))) - 1)) 3 ((zgt (zpt u2 (14 + ((zgt u2 3) - 1)) ((zgt u2 (14 + ((zgt u2 3) - 1))) - 1)) 3) - 0))) dX7_yearBy_139 2 0 rfl rfl zi_2_407 (wMo ad v ++ wA ca (ad 9) 10 u1.2 ++ wA ca a 407 (zpt (zpt (zpt u2 (14 + ((zgt u2 3) - 1)) ((zgt u2 (14 + ((zgt u2 3) - 1))) - 1)) 3 ((zgt (zpt u2 (14 + ((zgt u2 3) - 1)) ((zgt u2 (14 + ((zgt u2 3) - 1))) - 1)) 3) - 0)) 2 ((zgt (zpt (zpt u2 (14 + ((zgt u2 3) - 1)) ((zgt u2 (14 + ((zgt u2 3) - 1))) - 1)) 3 ((zgt (zpt u2 (14 + ((zgt u2 3) - 1)) ((zgt u2 (14 + ((zgt u2 3) - 1))) - 1)) 3) - 0)) 2) + u1.1))) rfl 140 rfl ?_
      refine v_aload_n h dX7_yearBy_140 0 rfl 141 rfl ?_
      refine v_iconst h dX7_yearBy_141 0 rfl 142 rfl ?_
      refine v_dup2 h dX7_yearBy_142 rfl rfl 143 rfl ?_
      refine v_iald h (f := (zpt (zpt (zpt u2 (14 + ((zgt u2 3) - 1)) ((zgt u2 (14 + ((zgt u2 3) - 1))) - 1)) 3 ((zgt (zpt u2 (14 + ((zgt u2 3) - 1)) ((zgt u2 (14 + ((zgt u2 3) - 1))) - 1)) 3) - 0)) 2 ((zgt (zpt (zpt u2 (14 + ((zgt u2 3) - 1)) ((zgt u2 (14 + ((zgt u2 3) - 1))) - 1)) 3 ((zgt (zpt u2 (14 + ((zgt u2 3) - 1)) ((zgt u2 (14 + ((zgt u2 3) - 1))) - 1)) 3) - 0)) 2) + u1.1))) dX7_yearBy_143 2 0 rfl rfl zi_0_407 144 rfl ?_
      refine v_iconst h dX7_yearBy_144 1 rfl 145 rfl ?_
      refine v_iadd h dX7_yearBy_145 146 rfl ?_
      refine v_iast h (f := (zpt (zpt (zpt u2 (14 + ((zgt u2 3) - 1)) ((zgt u2 (14 + ((zgt u2 3) - 1))) - 1)) 3 ((zgt (zpt u2 (14 + ((zgt u2 3) - 1)) ((zgt u2 (14 + ((zgt u2 3) - 1))) - 1)) 3) - 0)) 2 ((zgt (zpt (zpt u2 (14 + ((zgt u2 3) - 1)) ((zgt u2 (14 + ((zgt u2 3) - 1))) - 1)) 3 ((zgt (zpt u2 (14 + ((zgt u2 3) - 1)) ((zgt u2 (14 + ((zgt u2 3) - 1))) - 1)) 3) - 0)) 2) + u1.1))) dX7_yearBy_146 2 0 rfl rfl zi_0_407 (wMo ad v ++ wA ca (ad 9) 10 u1.2 ++ wA ca a 407 (zpt (zpt (zpt (zpt u2 (14 + ((zgt u2 3) - 1)) ((zgt u2 (14 + ((zgt u2 3) - 1))) - 1)) 3 ((zgt (zpt u2 (14 + ((zgt u2 3) - 1)) ((zgt u2 (14 + ((zgt u2 3) - 1))) - 1)) 3) - 0)) 2 ((zgt (zpt (zpt u2 (14 + ((zgt u2 3) - 1)) ((zgt u2 (14 + ((zgt u2 3) - 1))) - 1)) 3 ((zgt (zpt u2 (14 + ((zgt u2 3) - 1)) ((zgt u2 (14 + ((zgt u2 3) - 1))) - 1)) 3) - 0)) 2) + u1.1)) 0 ((zgt (zpt (zpt (zpt u2 (14 + ((zgt u2 3) - 1)) ((zgt u2 (14 + ((zgt u2 3) - 1))) - 1)) 3 ((zgt (zpt u2 (14 + ((zgt u2 3) - 1)) ((zgt u2 (14 + ((zgt u2 3) - 1))) - 1)) 3) - 0)) 2 ((zgt (zpt (zpt u2 (14 + ((zgt u2 3) - 1)) ((zgt u2 (14 + ((zgt u2 3) - 1))) - 1)) 3 ((zgt (zpt u2 (14 + ((zgt u2 3) - 1)) ((zgt u2 (14 + ((zgt u2 3) - 1))) - 1)) 3) - 0)) 2) + u1.1)) 0) + 1))) rfl 147 rfl ?_
      refine v_iload_n h dX7_yearBy_147 1 rfl 148 rfl ?_
      cases (Option.some.inj hf)
      exact hE 148 _ rfl dX7_yearBy_148
    · replace hf := zt c5 hf
      refine v_iconst h dX7_yearBy_126 1 rfl 127 rfl ?_
      refine v_goto h dX7_yearBy_127 131 (by decide) ?_
      refine v_isub h dX7_yearBy_131 132 rfl ?_
      refine v_iast h (f := (zpt u2 (14 + ((zgt u2 3) - 1)) ((zgt u2 (14 + ((zgt u2 3) - 1))) - 1))) dX7_yearBy_132 2 0 rfl rfl zi_3_407 (wMo ad v ++ wA ca (ad 9) 10 u1.2 ++ wA ca a 407 (zpt (zpt u2 (14 + ((zgt u2 3) - 1)) ((zgt u2 (14 + ((zgt u2 3) - 1))) - 1)) 3 ((zgt (zpt u2 (14 + ((zgt u2 3) - 1)) ((zgt u2 (14 + ((zgt u2 3) - 1))) - 1)) 3) - 1))) rfl 133 rfl ?_
      refine v_aload_n h dX7_yearBy_133 0 rfl 134 rfl ?_
      refine v_iconst h dX7_yearBy_134 2 rfl 135 rfl ?_
      refine v_dup2 h dX7_yearBy_135 rfl rfl 136 rfl ?_
      refine v_iald h (f := (zpt (zpt u2 (14 + ((zgt u2 3) - 1)) ((zgt u2 (14 + ((zgt u2 3) - 1))) - 1)) 3 ((zgt (zpt u2 (14 + ((zgt u2 3) - 1)) ((zgt u2 (14 + ((zgt u2 3) - 1))) - 1)) 3) - 1))) dX7_yearBy_136 2 0 rfl rfl zi_2_407 137 rfl ?_
      refine v_iload_n h dX7_yearBy_137 1 rfl 138 rfl ?_
      refine v_iadd h dX7_yearBy_138 139 rfl ?_
      refine v_iast h (f := (zpt (zpt u2 (14 + ((zgt u2 3) - 1)) ((zgt u2 (14 + ((zgt u2 3) - 1))) - 1)) 3 ((zgt (zpt u2 (14 + ((zgt u2 3) - 1)) ((zgt u2 (14 + ((zgt u2 3) - 1))) - 1)) 3) - 1))) dX7_yearBy_139 2 0 rfl rfl zi_2_407 (wMo ad v ++ wA ca (ad 9) 10 u1.2 ++ wA ca a 407 (zpt (zpt (zpt u2 (14 + ((zgt u2 3) - 1)) ((zgt u2 (14 + ((zgt u2 3) - 1))) - 1)) 3 ((zgt (zpt u2 (14 + ((zgt u2 3) - 1)) ((zgt u2 (14 + ((zgt u2 3) - 1))) - 1)) 3) - 1)) 2 ((zgt (zpt (zpt u2 (14 + ((zgt u2 3) - 1)) ((zgt u2 (14 + ((zgt u2 3) - 1))) - 1)) 3 ((zgt (zpt u2 (14 + ((zgt u2 3) - 1)) ((zgt u2 (14 + ((zgt u2 3) - 1))) - 1)) 3) - 1)) 2) + u1.1))) rfl 140 rfl ?_
      refine v_aload_n h dX7_yearBy_140 0 rfl 141 rfl ?_
      refine v_iconst h dX7_yearBy_141 0 rfl 142 rfl ?_
      refine v_dup2 h dX7_yearBy_142 rfl rfl 143 rfl ?_
      refine v_iald h (f := (zpt (zpt (zpt u2 (14 + ((zgt u2 3) - 1)) ((zgt u2 (14 + ((zgt u2 3) - 1))) - 1)) 3 ((zgt (zpt u2 (14 + ((zgt u2 3) - 1)) ((zgt u2 (14 + ((zgt u2 3) - 1))) - 1)) 3) - 1)) 2 ((zgt (zpt (zpt u2 (14 + ((zgt u2 3) - 1)) ((zgt u2 (14 + ((zgt u2 3) - 1))) - 1)) 3 ((zgt (zpt u2 (14 + ((zgt u2 3) - 1)) ((zgt u2 (14 + ((zgt u2 3) - 1))) - 1)) 3) - 1)) 2) + u1.1))) dX7_yearBy_143 2 0 rfl rfl zi_0_407 144 rfl ?_
      refine v_iconst h dX7_yearBy_144 1 rfl 145 rfl ?_
      refine v_iadd h dX7_yearBy_145 146 rfl ?_
      refine v_iast h (f := (zpt (zpt (zpt u2 (14 + ((zgt u2 3) - 1)) ((zgt u2 (14 + ((zgt u2 3) - 1))) - 1)) 3 ((zgt (zpt u2 (14 + ((zgt u2 3) - 1)) ((zgt u2 (14 + ((zgt u2 3) - 1))) - 1)) 3) - 1)) 2 ((zgt (zpt (zpt u2 (14 + ((zgt u2 3) - 1)) ((zgt u2 (14 + ((zgt u2 3) - 1))) - 1)) 3 ((zgt (zpt u2 (14 + ((zgt u2 3) - 1)) ((zgt u2 (14 + ((zgt u2 3) - 1))) - 1)) 3) - 1)) 2) + u1.1))) dX7_yearBy_146 2 0 rfl rfl zi_0_407 (wMo ad v ++ wA ca (ad 9) 10 u1.2 ++ wA ca a 407 (zpt (zpt (zpt (zpt u2 (14 + ((zgt u2 3) - 1)) ((zgt u2 (14 + ((zgt u2 3) - 1))) - 1)) 3 ((zgt (zpt u2 (14 + ((zgt u2 3) - 1)) ((zgt u2 (14 + ((zgt u2 3) - 1))) - 1)) 3) - 1)) 2 ((zgt (zpt (zpt u2 (14 + ((zgt u2 3) - 1)) ((zgt u2 (14 + ((zgt u2 3) - 1))) - 1)) 3 ((zgt (zpt u2 (14 + ((zgt u2 3) - 1)) ((zgt u2 (14 + ((zgt u2 3) - 1))) - 1)) 3) - 1)) 2) + u1.1)) 0 ((zgt (zpt (zpt (zpt u2 (14 + ((zgt u2 3) - 1)) ((zgt u2 (14 + ((zgt u2 3) - 1))) - 1)) 3 ((zgt (zpt u2 (14 + ((zgt u2 3) - 1)) ((zgt u2 (14 + ((zgt u2 3) - 1))) - 1)) 3) - 1)) 2 ((zgt (zpt (zpt u2 (14 + ((zgt u2 3) - 1)) ((zgt u2 (14 + ((zgt u2 3) - 1))) - 1)) 3 ((zgt (zpt u2 (14 + ((zgt u2 3) - 1)) ((zgt u2 (14 + ((zgt u2 3) - 1))) - 1)) 3) - 1)) 2) + u1.1)) 0) + 1))) rfl 147 rfl ?_
      refine v_iload_n h dX7_yearBy_147 1 rfl 148 rfl ?_
      cases (Option.some.inj hf)
      exact hE 148 _ rfl dX7_yearBy_148
abbrev rX7_yearIn : Room := { frames := 3, cells := 0, slots := 0, locals := 73 }
theorem nX7_yearIn : zNoMH yX7_yearIn 1 := ⟨by decide +kernel, by decide +kernel, by decide +kernel⟩
theorem iX7_yearIn_X7 : ∀ w ∈ wsX70, w ∈ wsX7_yearIn := fun _ h => (List.mem_cons_of_mem _ (List.mem_append_right _ h))
def fX7_yearIn (tk : zAI) (s : zAI) : Option (Int32 × zAI × zAI) := ((fX7_rainIn s (zgt s 0)) : Option Int32).bind (fun u1 => ((fX7_yearBy tk s u1) : Option (Int32 × zAI × zAI)).bind (fun u2 => some (u2.1, u2.2.1, u2.2.2)))
set_option maxRecDepth 100000 in
set_option maxHeartbeats 4000000 in
theorem tX7_yearIn (l : Launch) (G : va_G) (ca : Nat → ClassId) (ad : Nat → Nat) (a : Nat) (v : MV) (tk : zAI) (s : zAI)  {o : (Int32 × zAI × zAI)} (hf : fX7_yearIn tk s = some o) : zMi l yX7_yearIn wsX7_yearIn rX7_yearIn G ca [.ref (ad 0), .ref a] (wMo ad v ++ wA ca (ad 9) 10 tk ++ wA ca a 407 s) o.1 (wMo ad v ++ wA ca (ad 9) 10 o.2.1 ++ wA ca a 407 o.2.2) := by
  refine zMi.of (cc := cX7_yearIn) (nL := 2) (own := RX7) (ty := .int) (by decide) rfl rfl (Nat.le_of_ble_eq_true rfl) (fun X h hE => ?_)
  show V X G 2 0 0 (wMo ad v ++ wA ca (ad 9) 10 tk ++ wA ca a 407 s) 0 [(0, .ref (ad 0)), (1, .ref a)] []
  unfold fX7_yearIn at hf
  refine v_aload_n h dX7_yearIn_0 0 rfl 1 rfl ?_
  refine v_aload_n h dX7_yearIn_1 1 rfl 2 rfl ?_
  refine v_aload_n h dX7_yearIn_2 1 rfl 3 rfl ?_
  refine v_aload_n h dX7_yearIn_3 1 rfl 4 rfl ?_
  refine v_iconst h dX7_yearIn_4 0 rfl 5 rfl ?_
  refine v_iald h (f := s) dX7_yearIn_5 2 0 rfl rfl zi_0_407 6 rfl ?_
  obtain ⟨u1, hu1, hf⟩ := zb hf
  refine v_callSi h (rest := [.ref a, .ref (ad 0)]) dX7_yearIn_6 (tX7_rainIn l G ca a s (zgt s 0) hu1) gX7_yearIn_X7_rainIn rfl ⟨rfl, rfl⟩ nX7_rainIn ⟨Nat.le_of_ble_eq_true rfl, Nat.le_of_ble_eq_true rfl⟩ [2] rfl rfl rfl rfl (Nat.le_of_ble_eq_true rfl) ⟨Nat.zero_le _, Nat.zero_le _⟩ rfl (wMo ad v ++ wA ca (ad 9) 10 tk ++ wA ca a 407 s) rfl rfl 9 rfl ?_
  obtain ⟨u2, hu2, hf⟩ := zb hf
  refine v_wcallVi h (rest := []) dX7_yearIn_9 (tX7_yearBy l G ca ad a v tk s u1 hu2) gX7_yearIn_X7_yearBy rfl rfl ⟨rfl, rfl⟩ nX7_yearBy ⟨Nat.le_of_ble_eq_true rfl, Nat.le_of_ble_eq_true rfl⟩ 0 rfl rfl rfl rfl (Nat.le_of_ble_eq_true rfl) ⟨Nat.zero_le _, Nat.zero_le _⟩ rfl 12 rfl ?_
  cases (Option.some.inj hf)
  exact hE 12 _ rfl dX7_yearIn_12
