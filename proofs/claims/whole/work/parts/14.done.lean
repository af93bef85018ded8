abbrev rJ6_bitCount : Room := { frames := 0, cells := 0, slots := 0, locals := 0 }
theorem nJ6_bitCount_0f7a4 : zNoMH yJ6_bitCount_0f7a4 1 := ⟨by decide +kernel, by decide +kernel, by decide +kernel⟩
def fJ6_bitCount (x0 : Int32) : Option Int32 := zlet ((x0.toUInt32 >>> (((1 : Int32)).toUInt32 &&& Int32.toUInt32 31)).toInt32 : Int32) (fun d1 => zlet (d1 &&& 1431655765 : Int32) (fun d2 => zlet ((x0 - d2) &&& 858993459 : Int32) (fun d3 => zlet (((x0 - d2).toUInt32 >>> (((2 : Int32)).toUInt32 &&& Int32.toUInt32 31)).toInt32 : Int32) (fun d4 => zlet (d4 &&& 858993459 : Int32) (fun d5 => zlet (((d3 + d5).toUInt32 >>> (((4 : Int32)).toUInt32 &&& Int32.toUInt32 31)).toInt32 : Int32) (fun d6 => zlet (((d3 + d5) + d6) &&& 252645135 : Int32) (fun d7 => zlet ((d7.toUInt32 >>> (((8 : Int32)).toUInt32 &&& Int32.toUInt32 31)).toInt32 : Int32) (fun d8 => zlet (((d7 + d8).toUInt32 >>> (((16 : Int32)).toUInt32 &&& Int32.toUInt32 31)).toInt32 : Int32) (fun d9 => zlet (((d7 + d8) + d9) &&& 63 : Int32) (fun d10 => some d10))))))))))
set_option maxRecDepth 100000 in
set_option maxHeartbeats 4000000 in
theorem tJ6_bitCount (l : Launch) (G : va_G) (ca : Nat → ClassId)   (x0 : Int32) {o : Int32} (hf : fJ6_bitCount x0 = some o) : zMi l yJ6_bitCount_0f7a4 wsJ6_bitCount_0f7a4 rJ6_bitCount G ca [.int x0] ([] : va_W) o ([] : va_W) := by
  refine zMi.of (cc := cJ6_bitCount_0f7a4) (nL := 1) (own := RJ6) (ty := .int) (by decide) rfl rfl (Nat.le_of_ble_eq_true rfl) (fun X h hE => ?_)
  show V X G 1 0 0 ([] : va_W) 0 [(0, .int x0)] []
  unfold fJ6_bitCount at hf
  refine v_iload_n h dJ6_bitCount_0f7a4_0 0 rfl 1 rfl ?_
  refine v_iload_n h dJ6_bitCount_0f7a4_1 0 rfl 2 rfl ?_
  refine v_iconst h dJ6_bitCount_0f7a4_2 1 rfl 3 rfl ?_
  refine v_iushr h dJ6_bitCount_0f7a4_3 4 rfl ?_
  obtain ⟨d1, ed1, hf⟩ := zl hf
  refine v_topi ed1 ?_
  refine v_ldcw h dJ6_bitCount_0f7a4_4 1431655765 (zwi 1 rfl) 7 rfl ?_
  refine v_iand h dJ6_bitCount_0f7a4_7 8 rfl ?_
  obtain ⟨d2, ed2, hf⟩ := zl hf
  refine v_topi ed2 ?_
  refine v_isub h dJ6_bitCount_0f7a4_8 9 rfl ?_
  refine v_istore_n h dJ6_bitCount_0f7a4_9 (Nat.le_of_ble_eq_true rfl) rfl rfl [(0, .int (x0 - d2))] rfl 10 rfl ?_
  refine v_iload_n h dJ6_bitCount_0f7a4_10 0 rfl 11 rfl ?_
  refine v_ldcw h dJ6_bitCount_0f7a4_11 858993459 (zwi 2 rfl) 14 rfl ?_
  refine v_iand h dJ6_bitCount_0f7a4_14 15 rfl ?_
  obtain ⟨d3, ed3, hf⟩ := zl hf
  refine v_topi ed3 ?_
  refine v_iload_n h dJ6_bitCount_0f7a4_15 0 rfl 16 rfl ?_
  refine v_iconst h dJ6_bitCount_0f7a4_16 2 rfl 17 rfl ?_
  refine v_iushr h dJ6_bitCount_0f7a4_17 18 rfl ?_
  obtain ⟨d4, ed4, hf⟩ := zl hf
  refine v_topi ed4 ?_
  refine v_ldcw h dJ6_bitCount_0f7a4_18 858993459 (zwi 2 rfl) 21 rfl ?_
  refine v_iand h dJ6_bitCount_0f7a4_21 22 rfl ?_
  obtain ⟨d5, ed5, hf⟩ := zl hf
  refine v_topi ed5 ?_
  refine v_iadd h dJ6_bitCount_0f7a4_22 23 rfl ?_
  refine v_istore_n h dJ6_bitCount_0f7a4_23 (Nat.le_of_ble_eq_true rfl) rfl rfl [(0, .int (d3 + d5))] rfl 24 rfl ?_
  refine v_iload_n h dJ6_bitCount_0f7a4_24 0 rfl 25 rfl ?_
  refine v_iload_n h dJ6_bitCount_0f7a4_25 0 rfl 26 rfl ?_
  refine v_iconst h dJ6_bitCount_0f7a4_26 4 rfl 27 rfl ?_
  refine v_iushr h dJ6_bitCount_0f7a4_27 28 rfl ?_
  obtain ⟨d6, ed6, hf⟩ := zl hf
  refine v_topi ed6 ?_
  refine v_iadd h dJ6_bitCount_0f7a4_28 29 rfl ?_
  refine v_ldcw h dJ6_bitCount_0f7a4_29 252645135 (zwi 3 rfl) 32 rfl ?_
  refine v_iand h dJ6_bitCount_0f7a4_32 33 rfl ?_
  obtain ⟨d7, ed7, hf⟩ := zl hf
  refine v_topi ed7 ?_
  refine v_istore_n h dJ6_bitCount_0f7a4_33 (Nat.le_of_ble_eq_true rfl) rfl rfl [(0, .int d7)] rfl 34 rfl ?_
  refine v_iload_n h dJ6_bitCount_0f7a4_34 0 rfl 35 rfl ?_
  refine v_iload_n h dJ6_bitCount_0f7a4_35 0 rfl 36 rfl ?_
  refine v_bipush h dJ6_bitCount_0f7a4_36 8 rfl 38 rfl ?_
  refine v_iushr h dJ6_bitCount_0f7a4_38 39 rfl ?_
  obtain ⟨d8, ed8, hf⟩ := zl hf
  refine v_topi ed8 ?_
  refine v_iadd h dJ6_bitCount_0f7a4_39 40 rfl ?_
  refine v_istore_n h dJ6_bitCount_0f7a4_40 (Nat.le_of_ble_eq_true rfl) rfl rfl [(0, .int (d7 + d8))] rfl 41 rfl ?_
  refine v_iload_n h dJ6_bitCount_0f7a4_41 0 rfl 42 rfl ?_
  refine v_iload_n h dJ6_bitCount_0f7a4_42 0 rfl 43 rfl ?_
  refine v_bipush h dJ6_bitCount_0f7a4_43 16 rfl 45 rfl ?_
  refine v_iushr h dJ6_bitCount_0f7a4_45 46 rfl ?_
  obtain ⟨d9, ed9, hf⟩ := zl hf
  refine v_topi ed9 ?_
  refine v_iadd h dJ6_bitCount_0f7a4_46 47 rfl ?_
  refine v_istore_n h dJ6_bitCount_0f7a4_47 (Nat.le_of_ble_eq_true rfl) rfl rfl [(0, .int ((d7 + d8) + d9))] rfl 48 rfl ?_
  refine v_iload_n h dJ6_bitCount_0f7a4_48 0 rfl 49 rfl ?_
  refine v_bipush h dJ6_bitCount_0f7a4_49 63 rfl 51 rfl ?_
  refine v_iand h dJ6_bitCount_0f7a4_51 52 rfl ?_
  obtain ⟨d10, ed10, hf⟩ := zl hf
  refine v_topi ed10 ?_
  cases (Option.some.inj hf)
  exact hE 52 _ rfl dJ6_bitCount_0f7a4_52
abbrev rX6_isKind : Room := { frames := 1, cells := 0, slots := 0, locals := 22 }
theorem nX6_isKind : zNoMH yX6_isKind 1 := ⟨by decide +kernel, by decide +kernel, by decide +kernel⟩
def fX6_isKind (x0 : Int32) : Option Int32 := ((fX6_outside x0 0 4) : Option Int32).bind (fun u1 => if u1 = 0 then (some 1) else (some 0))
set_option maxRecDepth 100000 in
set_option maxHeartbeats 4000000 in
theorem tX6_isKind (l : Launch) (G : va_G) (ca : Nat → ClassId)   (x0 : Int32) {o : Int32} (hf : fX6_isKind x0 = some o) : zMi l yX6_isKind wsX6_isKind rX6_isKind G ca [.int x0] ([] : va_W) o ([] : va_W) := by
  refine zMi.of (cc := cX6_isKind) (nL := 1) (own := RX6) (ty := .boolean) (by decide) rfl rfl (Nat.le_of_ble_eq_true rfl) (fun X h hE => ?_)
  show V X G 1 0 0 ([] : va_W) 0 [(0, .int x0)] []
  unfold fX6_isKind at hf
  refine v_iload_n h dX6_isKind_0 0 rfl 1 rfl ?_
  refine v_iconst h dX6_isKind_1 0 rfl 2 rfl ?_
  refine v_iconst h dX6_isKind_2 4 rfl 3 rfl ?_
  obtain ⟨u1, hu1, hf⟩ := zb hf
  refine v_callSi h (rest := []) dX6_isKind_3 (tX6_outside l G ca   x0 0 4 hu1) gX6_isKind_X6_outside rfl ⟨rfl, rfl⟩ nX6_outside ⟨Nat.le_of_ble_eq_true rfl, Nat.le_of_ble_eq_true rfl⟩ [] rfl rfl rfl rfl (Nat.le_of_ble_eq_true rfl) ⟨Nat.zero_le _, Nat.zero_le _⟩ rfl ([] : va_W) rfl rfl 6 rfl ?_
  refine v_if_ne h dX6_isKind_6 13 (by decide) 9 rfl (fun c2 => ?_) (fun c2 => ?_)
  · replace hf := zf c2 hf
    refine v_iconst h dX6_isKind_13 0 rfl 14 rfl ?_
    cases (Option.some.inj hf)
    exact hE 14 _ znar0 dX6_isKind_14
  · replace hf := zt c2 hf
    refine v_iconst h dX6_isKind_9 1 rfl 10 rfl ?_
    refine v_goto h dX6_isKind_10 14 (by decide) ?_
    cases (Option.some.inj hf)
    exact hE 14 _ znar1 dX6_isKind_14
abbrev rX6_isSheet : Room := { frames := 1, cells := 0, slots := 0, locals := 22 }
theorem nX6_isSheet : zNoMH yX6_isSheet 1 := ⟨by decide +kernel, by decide +kernel, by decide +kernel⟩
def fX6_isSheet (x0 : Int32) : Option Int32 := ((fX6_outside x0 0 3) : Option Int32).bind (fun u1 => if u1 = 0 then (some 1) else (some 0))
set_option maxRecDepth 100000 in
set_option maxHeartbeats 4000000 in
theorem tX6_isSheet (l : Launch) (G : va_G) (ca : Nat → ClassId)   (x0 : Int32) {o : Int32} (hf : fX6_isSheet x0 = some o) : zMi l yX6_isSheet wsX6_isSheet rX6_isSheet G ca [.int x0] ([] : va_W) o ([] : va_W) := by
  refine zMi.of (cc := cX6_isSheet) (nL := 1) (own := RX6) (ty := .boolean) (by decide) rfl rfl (Nat.le_of_ble_eq_true rfl) (fun X h hE => ?_)
  show V X G 1 0 0 ([] : va_W) 0 [(0, .int x0)] []
  unfold fX6_isSheet at hf
  refine v_iload_n h dX6_isSheet_0 0 rfl 1 rfl ?_
  refine v_iconst h dX6_isSheet_1 0 rfl 2 rfl ?_
  refine v_iconst h dX6_isSheet_2 3 rfl 3 rfl ?_
  obtain ⟨u1, hu1, hf⟩ := zb hf
  refine v_callSi h (rest := []) dX6_isSheet_3 (tX6_outside l G ca   x0 0 3 hu1) gX6_isSheet_X6_outside rfl ⟨rfl, rfl⟩ nX6_outside ⟨Nat.le_of_ble_eq_true rfl, Nat.le_of_ble_eq_true rfl⟩ [] rfl rfl rfl rfl (Nat.le_of_ble_eq_true rfl) ⟨Nat.zero_le _, Nat.zero_le _⟩ rfl ([] : va_W) rfl rfl 6 rfl ?_
  refine v_if_ne h dX6_isSheet_6 13 (by decide) 9 rfl (fun c2 => ?_) (fun c2 => ?_)
  · replace hf := zf c2 hf
    refine v_iconst h dX6_isSheet_13 0 rfl 14 rfl ?_
    cases (Option.some.inj hf)
    exact hE 14 _ znar0 dX6_isSheet_14
  · replace hf := zt c2 hf
    refine v_iconst h dX6_isSheet_9 1 rfl 10 rfl ?_
    refine v_goto h dX6_isSheet_10 14 (by decide) ?_
    cases (Option.some.inj hf)
    exact hE 14 _ znar1 dX6_isSheet_14
abbrev rX6_isLane : Room := { frames := 1, cells := 0, slots := 0, locals := 22 }
theorem nX6_isLane : zNoMH yX6_isLane 1 := ⟨by decide +kernel, by decide +kernel, by decide +kernel⟩
def fX6_isLane (x0 : Int32) : Option Int32 := ((fX6_outside x0 0 3) : Option Int32).bind (fun u1 => if u1 = 0 then (some 1) else (some 0))
set_option maxRecDepth 100000 in
set_option maxHeartbeats 4000000 in
theorem tX6_isLane (l : Launch) (G : va_G) (ca : Nat → ClassId)   (x0 : Int32) {o : Int32} (hf : fX6_isLane x0 = some o) : zMi l yX6_isLane wsX6_isLane rX6_isLane G ca [.int x0] ([] : va_W) o ([] : va_W) := by
  refine zMi.of (cc := cX6_isLane) (nL := 1) (own := RX6) (ty := .boolean) (by decide) rfl rfl (Nat.le_of_ble_eq_true rfl) (fun X h hE => ?_)
  show V X G 1 0 0 ([] : va_W) 0 [(0, .int x0)] []
  unfold fX6_isLane at hf
  refine v_iload_n h dX6_isLane_0 0 rfl 1 rfl ?_
  refine v_iconst h dX6_isLane_1 0 rfl 2 rfl ?_
  refine v_iconst h dX6_isLane_2 3 rfl 3 rfl ?_
  obtain ⟨u1, hu1, hf⟩ := zb hf
  refine v_callSi h (rest := []) dX6_isLane_3 (tX6_outside l G ca   x0 0 3 hu1) gX6_isLane_X6_outside rfl ⟨rfl, rfl⟩ nX6_outside ⟨Nat.le_of_ble_eq_true rfl, Nat.le_of_ble_eq_true rfl⟩ [] rfl rfl rfl rfl (Nat.le_of_ble_eq_true rfl) ⟨Nat.zero_le _, Nat.zero_le _⟩ rfl ([] : va_W) rfl rfl 6 rfl ?_
  refine v_if_ne h dX6_isLane_6 13 (by decide) 9 rfl (fun c2 => ?_) (fun c2 => ?_)
  · replace hf := zf c2 hf
    refine v_iconst h dX6_isLane_13 0 rfl 14 rfl ?_
    cases (Option.some.inj hf)
    exact hE 14 _ znar0 dX6_isLane_14
  · replace hf := zt c2 hf
    refine v_iconst h dX6_isLane_9 1 rfl 10 rfl ?_
    refine v_goto h dX6_isLane_10 14 (by decide) ?_
    cases (Option.some.inj hf)
    exact hE 14 _ znar1 dX6_isLane_14
abbrev rX6_power : Room := { frames := 0, cells := 0, slots := 0, locals := 0 }
theorem nX6_power : zNoMH yX6_power 2 := ⟨by decide +kernel, by decide +kernel, by decide +kernel⟩
def fX6_power_L4 : Nat → Int32 → Int32 → Int32 → Int32 → Option Int32
  | 0, _, _, _, _ => none
  | n + 1, x0, x1, x2, x3 => if x1 ≤ x3 then (some x2) else (fX6_power_L4 n x0 x1 (x2 * x0) (x3 + 1))
set_option maxRecDepth 100000 in
set_option maxHeartbeats 4000000 in
theorem tX6_power_l4 {X : zX} {l : Launch} {G : va_G} {ca : Nat → ClassId}  (h : zOk X l G ca cX6_power RX6 wsX6_power 4 rX6_power) : ∀ (n : Nat) (x0 : Int32) (x1 : Int32) (x2 : Int32) (x3 : Int32) (out : Int32), fX6_power_L4 n x0 x1 x2 x3 = some out → (V X G 4 0 0 ([] : va_W) 19 [(2, .int out)] []) → V X G 4 0 0 ([] : va_W) 4 [(0, .int x0), (1, .int x1), (2, .int x2), (3, .int x3)] [] := by
  intro n
  induction n with
  | zero => intro x0 x1 x2 x3 out hf; rw [fX6_power_L4] at hf; cases hf
  | succ n ih =>
    intro x0 x1 x2 x3 out hf kx
    rw [fX6_power_L4] at hf
    refine v_iload_n h dX6_power_4 3 rfl 5 rfl ?_
    refine v_iload_n h dX6_power_5 1 rfl 6 rfl ?_
    refine v_icmp_ge h dX6_power_6 19 (by decide) 9 rfl (fun c1 => ?_) (fun c1 => ?_)
    · replace hf := zt c1 hf
      cases (Option.some.inj hf)
      exact v_sub [2] rfl (kx)
    · replace hf := zf c1 hf
      refine v_iload_n h dX6_power_9 2 rfl 10 rfl ?_
      refine v_iload_n h dX6_power_10 0 rfl 11 rfl ?_
      refine v_imul h dX6_power_11 12 rfl ?_
      refine v_istore_n h dX6_power_12 (Nat.le_of_ble_eq_true rfl) rfl rfl [(0, .int x0), (1, .int x1), (2, .int (x2 * x0)), (3, .int x3)] rfl 13 rfl ?_
      refine v_iinc h dX6_power_13 3 rfl (x3 + 1) rfl (Nat.le_of_ble_eq_true rfl) rfl rfl [(0, .int x0), (1, .int x1), (2, .int (x2 * x0)), (3, .int (x3 + 1))] rfl 16 rfl ?_
      refine v_goto h dX6_power_16 4 (by decide) ?_
      exact v_sub [0, 1, 2, 3] rfl (ih x0 x1 (x2 * x0) (x3 + 1) _ hf kx)
def fX6_power (x0 : Int32) (x1 : Int32) : Option Int32 := ((fX6_power_L4 zF x0 x1 1 0) : Option Int32).bind (fun u1 => some u1)
set_option maxRecDepth 100000 in
set_option maxHeartbeats 4000000 in
theorem tX6_power (l : Launch) (G : va_G) (ca : Nat → ClassId)   (x0 : Int32) (x1 : Int32) {o : Int32} (hf : fX6_power x0 x1 = some o) : zMi l yX6_power wsX6_power rX6_power G ca [.int x0, .int x1] ([] : va_W) o ([] : va_W) := by
  refine zMi.of (cc := cX6_power) (nL := 4) (own := RX6) (ty := .int) (by decide) rfl rfl (Nat.le_of_ble_eq_true rfl) (fun X h hE => ?_)
  show V X G 4 0 0 ([] : va_W) 0 [(0, .int x0), (1, .int x1)] []
  unfold fX6_power at hf
  refine v_iconst h dX6_power_0 1 rfl 1 rfl ?_
  refine v_istore_n h dX6_power_1 (Nat.le_of_ble_eq_true rfl) rfl rfl [(0, .int x0), (1, .int x1), (2, .int 1)] rfl 2 rfl ?_
  refine v_iconst h dX6_power_2 0 rfl 3 rfl ?_
  refine v_istore_n h dX6_power_3 (Nat.le_of_ble_eq_true rfl) rfl rfl [(0, .int x0), (1, .int x1), (2, .int 1), (3, .int 0)] rfl 4 rfl ?_
  obtain ⟨u1, hu1, hf⟩ := zb hf
  refine v_sub [0, 1, 2, 3] rfl ?_
  refine tX6_power_l4 h zF x0 x1 1 0 _ hu1 ?_
  refine v_iload_n h dX6_power_19 0 rfl 20 rfl ?_
  cases (Option.some.inj hf)
  exact hE 20 _ rfl dX6_power_20
abbrev rX6_greatestDivisor : Room := { frames := 1, cells := 0, slots := 0, locals := 13 }
theorem nX6_greatestDivisor : zNoMH yX6_greatestDivisor 2 := ⟨by decide +kernel, by decide +kernel, by decide +kernel⟩
def fX6_greatestDivisor_L7 : Nat → Int32 → Int32 → Int32 → Option Int32
  | 0, _, _, _ => none
  | n + 1, x2, x3, x4 => if 1000 ≤ x4 then (some x2) else (if x3 = 0 then (some x2) else (zgrd (znz x3) (fX6_greatestDivisor_L7 n x3 (x2 - x2 / x3 * x3) (x4 + 1))))
set_option maxRecDepth 100000 in
set_option maxHeartbeats 4000000 in
theorem tX6_greatestDivisor_l7 {X : zX} {l : Launch} {G : va_G} {ca : Nat → ClassId}  (h : zOk X l G ca cX6_greatestDivisor RX6 wsX6_greatestDivisor 6 rX6_greatestDivisor) : ∀ (n : Nat) (x2 : Int32) (x3 : Int32) (x4 : Int32) (out : Int32), fX6_greatestDivisor_L7 n x2 x3 x4 = some out → (V X G 6 0 0 ([] : va_W) 35 [(2, .int out)] []) → V X G 6 0 0 ([] : va_W) 7 [(2, .int x2), (3, .int x3), (4, .int x4)] [] := by
  intro n
  induction n with
  | zero => intro x2 x3 x4 out hf; rw [fX6_greatestDivisor_L7] at hf; cases hf
  | succ n ih =>
    intro x2 x3 x4 out hf kx
    rw [fX6_greatestDivisor_L7] at hf
    refine v_iload h dX6_greatestDivisor_7 2 rfl 9 rfl ?_
    refine v_sipush h dX6_greatestDivisor_9 1000 rfl 12 rfl ?_
    refine v_icmp_ge h dX6_greatestDivisor_12 35 (by decide) 15 rfl (fun c1 => ?_) (fun c1 => ?_)
    · replace hf := zt c1 hf
      cases (Option.some.inj hf)
      exact v_sub [0] rfl (kx)
    · replace hf := zf c1 hf
      refine v_iload_n h dX6_greatestDivisor_15 1 rfl 16 rfl ?_
      refine v_if_eq h dX6_greatestDivisor_16 35 (by decide) 19 rfl (fun c2 => ?_) (fun c2 => ?_)
      · replace hf := zt c2 hf
        cases (Option.some.inj hf)
        exact v_sub [0] rfl (kx)
      · replace hf := zf c2 hf
        refine v_iload_n h dX6_greatestDivisor_19 0 rfl 20 rfl ?_
        refine v_iload_n h dX6_greatestDivisor_20 1 rfl 21 rfl ?_
        obtain ⟨g3, hf⟩ := zg hf
        refine v_irem h dX6_greatestDivisor_21 (znz_ne g3) 22 rfl ?_
        refine v_istore h dX6_greatestDivisor_22 (Nat.le_of_ble_eq_true rfl) rfl rfl [(2, .int x2), (3, .int x3), (4, .int x4), (5, .int (x2 - x2 / x3 * x3))] rfl 24 rfl ?_
        refine v_iload_n h dX6_greatestDivisor_24 1 rfl 25 rfl ?_
        refine v_istore_n h dX6_greatestDivisor_25 (Nat.le_of_ble_eq_true rfl) rfl rfl [(2, .int x3), (3, .int x3), (4, .int x4), (5, .int (x2 - x2 / x3 * x3))] rfl 26 rfl ?_
        refine v_iload h dX6_greatestDivisor_26 3 rfl 28 rfl ?_
        refine v_istore_n h dX6_greatestDivisor_28 (Nat.le_of_ble_eq_true rfl) rfl rfl [(2, .int x3), (3, .int (x2 - x2 / x3 * x3)), (4, .int x4), (5, .int (x2 - x2 / x3 * x3))] rfl 29 rfl ?_
        refine v_iinc h dX6_greatestDivisor_29 2 rfl (x4 + 1) rfl (Nat.le_of_ble_eq_true rfl) rfl rfl [(2, .int x3), (3, .int (x2 - x2 / x3 * x3)), (4, .int (x4 + 1)), (5, .int (x2 - x2 / x3 * x3))] rfl 32 rfl ?_
        refine v_goto h dX6_greatestDivisor_32 7 (by decide) ?_
        exact v_sub [0, 1, 2] rfl (ih x3 (x2 - x2 / x3 * x3) (x4 + 1) _ hf kx)
def fX6_greatestDivisor (x0 : Int32) (x1 : Int32) : Option Int32 := ((fX6_greatestDivisor_L7 zF x0 x1 0) : Option Int32).bind (fun u1 => some (if (1 : Int32) < u1 then u1 else 1))
set_option maxRecDepth 100000 in
set_option maxHeartbeats 4000000 in
theorem tX6_greatestDivisor (l : Launch) (G : va_G) (ca : Nat → ClassId)   (x0 : Int32) (x1 : Int32) {o : Int32} (hf : fX6_greatestDivisor x0 x1 = some o) : zMi l yX6_greatestDivisor wsX6_greatestDivisor rX6_greatestDivisor G ca [.int x0, .int x1] ([] : va_W) o ([] : va_W) := by
  refine zMi.of (cc := cX6_greatestDivisor) (nL := 6) (own := RX6) (ty := .int) (by decide) rfl rfl (Nat.le_of_ble_eq_true rfl) (fun X h hE => ?_)
  show V X G 6 0 0 ([] : va_W) 0 [(0, .int x0), (1, .int x1)] []
  unfold fX6_greatestDivisor at hf
  refine v_iload_n h dX6_greatestDivisor_0 0 rfl 1 rfl ?_
  refine v_istore_n h dX6_greatestDivisor_1 (Nat.le_of_ble_eq_true rfl) rfl rfl [(0, .int x0), (1, .int x1), (2, .int x0)] rfl 2 rfl ?_
  refine v_iload_n h dX6_greatestDivisor_2 1 rfl 3 rfl ?_
  refine v_istore_n h dX6_greatestDivisor_3 (Nat.le_of_ble_eq_true rfl) rfl rfl [(0, .int x0), (1, .int x1), (2, .int x0), (3, .int x1)] rfl 4 rfl ?_
  refine v_iconst h dX6_greatestDivisor_4 0 rfl 5 rfl ?_
  refine v_istore h dX6_greatestDivisor_5 (Nat.le_of_ble_eq_true rfl) rfl rfl [(0, .int x0), (1, .int x1), (2, .int x0), (3, .int x1), (4, .int 0)] rfl 7 rfl ?_
  obtain ⟨u1, hu1, hf⟩ := zb hf
  refine v_sub [2, 3, 4] rfl ?_
  refine tX6_greatestDivisor_l7 h zF x0 x1 0 _ hu1 ?_
  refine v_iconst h dX6_greatestDivisor_35 1 rfl 36 rfl ?_
  refine v_iload_n h dX6_greatestDivisor_36 0 rfl 37 rfl ?_
  refine v_mmax h dX6_greatestDivisor_37 (zwi 1 rfl) (zwi 2 rfl) (zwi 3 rfl) (zwi 4 rfl) (Nat.le_of_ble_eq_true rfl) (Nat.le_of_ble_eq_true rfl) (Nat.zero_le _) (Nat.zero_le _) 40 rfl ?_
  cases (Option.some.inj hf)
  exact hE 40 _ rfl dX6_greatestDivisor_40
abbrev rX6_walls : Room := { frames := 1, cells := 0, slots := 0, locals := 22 }
theorem nX6_walls : zNoMH yX6_walls 1 := ⟨by decide +kernel, by decide +kernel, by decide +kernel⟩
theorem iX6_walls_X6 : ∀ w ∈ wsX60, w ∈ wsX6_walls := fun _ h => (List.mem_cons_of_mem _ (List.mem_append_left _ (List.mem_append_right _ h)))
theorem iX6_walls_X1 : ∀ w ∈ wsX10, w ∈ wsX6_walls := fun _ h => (List.mem_cons_of_mem _ (List.mem_append_right _ h))
def fX6_walls (v : XV) (x1 : Int32) : Option (Int32 × HV) := ((fX6_outside x1 1 200) : Option Int32).bind (fun u1 => if u1 = 0 then (some (v.1.1, (x1, v.1.2))) else (some ((-1), v.1)))
set_option maxRecDepth 100000 in
set_option maxHeartbeats 4000000 in
theorem tX6_walls (l : Launch) (G : va_G) (ca : Nat → ClassId) (ad : Nat → Nat) (v : XV) (x1 : Int32) {o : (Int32 × HV)} (hf : fX6_walls v x1 = some o) : zMi l yX6_walls wsX6_walls rX6_walls G ca [.ref (ad 0), .int x1] (wX ca ad v) o.1 (wX ca ad (o.2, v.2)) := by
  refine zMi.of (cc := cX6_walls) (nL := 3) (own := RX6) (ty := .int) (by decide) rfl rfl (Nat.le_of_ble_eq_true rfl) (fun X h hE => ?_)
  show V X G 3 0 0 (wX ca ad v) 0 [(0, .ref (ad 0)), (1, .int x1)] []
  unfold fX6_walls at hf
  refine v_iload_n h dX6_walls_0 1 rfl 1 rfl ?_
  refine v_iconst h dX6_walls_1 1 rfl 2 rfl ?_
  refine v_sipush h dX6_walls_2 200 rfl 5 rfl ?_
  obtain ⟨u1, hu1, hf⟩ := zb hf
  refine v_callSi h (rest := []) dX6_walls_5 (tX6_outside l G ca   x1 1 200 hu1) gX6_walls_X6_outside rfl ⟨rfl, rfl⟩ nX6_outside ⟨Nat.le_of_ble_eq_true rfl, Nat.le_of_ble_eq_true rfl⟩ [] rfl rfl rfl rfl (Nat.le_of_ble_eq_true rfl) ⟨Nat.zero_le _, Nat.zero_le _⟩ rfl (wX ca ad v) rfl (wX_adr _ _ _ _) 8 rfl ?_
  refine v_if_eq h dX6_walls_8 13 (by decide) 11 rfl (fun c2 => ?_) (fun c2 => ?_)
  · replace hf := zt c2 hf
    refine v_aload_n h dX6_walls_13 0 rfl 14 rfl ?_
    refine v_get h (v := .ref (ad 1)) dX6_walls_14 iX6_walls_X6 0 rfl rfl 0 (by decide) (zwi 1 rfl) rfl 17 rfl ?_
    refine v_get h (v := .int v.1.1) dX6_walls_17 iX6_walls_X1 1 rfl rfl 0 (by decide) (zwi 2 rfl) rfl 20 rfl ?_
    refine v_istore_n h dX6_walls_20 (Nat.le_of_ble_eq_true rfl) rfl rfl [(0, .ref (ad 0)), (1, .int x1), (2, .int v.1.1)] rfl 21 rfl ?_
    refine v_aload_n h dX6_walls_21 0 rfl 22 rfl ?_
    refine v_get h (v := .ref (ad 1)) dX6_walls_22 iX6_walls_X6 0 rfl rfl 0 (by decide) (zwi 1 rfl) rfl 25 rfl ?_
    refine v_iload_n h dX6_walls_25 1 rfl 26 rfl ?_
    refine v_put h dX6_walls_26 iX6_walls_X1 tyX1 tyX1_ok nmX1 1 rfl rfl 0 (by decide) (zwi 2 rfl) rfl rfl rfl (Nat.le_of_ble_eq_true rfl) (wX ca ad ((x1, v.1.2), v.2)) rfl 29 rfl ?_
    refine v_iload_n h dX6_walls_29 2 rfl 30 rfl ?_
    cases (Option.some.inj hf)
    exact hE 30 _ rfl dX6_walls_30
  · replace hf := zf c2 hf
    refine v_iconst h dX6_walls_11 (-1) rfl 12 rfl ?_
    cases (Option.some.inj hf)
    exact hE 12 _ rfl dX6_walls_12
abbrev rX6_rain : Room := { frames := 1, cells := 0, slots := 0, locals := 22 }
theorem nX6_rain : zNoMH yX6_rain 1 := ⟨by decide +kernel, by decide +kernel, by decide +kernel⟩
theorem iX6_rain_X6 : ∀ w ∈ wsX60, w ∈ wsX6_rain := fun _ h => (List.mem_cons_of_mem _ (List.mem_append_left _ (List.mem_append_left _ (List.mem_append_right _ h))))
theorem iX6_rain_X1 : ∀ w ∈ wsX10, w ∈ wsX6_rain := fun _ h => (List.mem_cons_of_mem _ (List.mem_append_left _ (List.mem_append_right _ h)))
theorem iX6_rain_X5 : ∀ w ∈ wsX50, w ∈ wsX6_rain := fun _ h => (List.mem_cons_of_mem _ (List.mem_append_right _ h))
def fX6_rain (v : XV) (x1 : Int32) : Option (Int32 × HV) := ((fX6_outside x1 0 40) : Option Int32).bind (fun u1 => if u1 = 0 then (if v.1.2.1.2 < 8 then (((fX5_append v.1.2.1 x1) : Option WV).bind (fun u4 => some (u4.2, (v.1.1, u4, v.1.2.2)))) else (some ((-3), v.1))) else (some ((-1), v.1)))
set_option maxRecDepth 100000 in
set_option maxHeartbeats 4000000 in
theorem tX6_rain (l : Launch) (G : va_G) (ca : Nat → ClassId) (ad : Nat → Nat) (v : XV) (x1 : Int32) {o : (Int32 × HV)} (hf : fX6_rain v x1 = some o) : zMi l yX6_rain wsX6_rain rX6_rain G ca [.ref (ad 0), .int x1] (wX ca ad v) o.1 (wX ca ad (o.2, v.2)) := by
  refine zMi.of (cc := cX6_rain) (nL := 2) (own := RX6) (ty := .int) (by decide) rfl rfl (Nat.le_of_ble_eq_true rfl) (fun X h hE => ?_)
  show V X G 2 0 0 (wX ca ad v) 0 [(0, .ref (ad 0)), (1, .int x1)] []
  unfold fX6_rain at hf
  refine v_iload_n h dX6_rain_0 1 rfl 1 rfl ?_
  refine v_iconst h dX6_rain_1 0 rfl 2 rfl ?_
  refine v_bipush h dX6_rain_2 40 rfl 4 rfl ?_
  obtain ⟨u1, hu1, hf⟩ := zb hf
  refine v_callSi h (rest := []) dX6_rain_4 (tX6_outside l G ca   x1 0 40 hu1) gX6_rain_X6_outside rfl ⟨rfl, rfl⟩ nX6_outside ⟨Nat.le_of_ble_eq_true rfl, Nat.le_of_ble_eq_true rfl⟩ [] rfl rfl rfl rfl (Nat.le_of_ble_eq_true rfl) ⟨Nat.zero_le _, Nat.zero_le _⟩ rfl (wX ca ad v) rfl (wX_adr _ _ _ _) 7 rfl ?_
  refine v_if_eq h dX6_rain_7 12 (by decide) 10 rfl (fun c2 => ?_) (fun c2 => ?_)
  · replace hf := zt c2 hf
    refine v_aload_n h dX6_rain_12 0 rfl 13 rfl ?_
    refine v_get h (v := .ref (ad 1)) dX6_rain_13 iX6_rain_X6 0 rfl rfl 0 (by decide) (zwi 1 rfl) rfl 16 rfl ?_
    refine v_get h (v := .ref (ad 2)) dX6_rain_16 iX6_rain_X1 1 rfl rfl 1 (by decide) (zwi 2 rfl) rfl 19 rfl ?_
    refine v_get h (v := .int v.1.2.1.2) dX6_rain_19 iX6_rain_X5 2 rfl rfl 1 (by decide) (zwi 3 rfl) rfl 22 rfl ?_
    refine v_bipush h dX6_rain_22 8 rfl 24 rfl ?_
    refine v_icmp_lt h dX6_rain_24 30 (by decide) 27 rfl (fun c3 => ?_) (fun c3 => ?_)
    · replace hf := zt c3 hf
      refine v_aload_n h dX6_rain_30 0 rfl 31 rfl ?_
      refine v_get h (v := .ref (ad 1)) dX6_rain_31 iX6_rain_X6 0 rfl rfl 0 (by decide) (zwi 1 rfl) rfl 34 rfl ?_
      refine v_get h (v := .ref (ad 2)) dX6_rain_34 iX6_rain_X1 1 rfl rfl 1 (by decide) (zwi 2 rfl) rfl 37 rfl ?_
      refine v_iload_n h dX6_rain_37 1 rfl 38 rfl ?_
      obtain ⟨u4, hu4, hf⟩ := zb hf
      refine v_callVv h (rest := []) dX6_rain_38 (tX5_append l G ca (fun i => ad (2 + i)) v.1.2.1 x1 hu4) gX6_rain_X5_append rfl rfl ⟨rfl, rfl⟩ nX5_append ⟨Nat.le_of_ble_eq_true rfl, Nat.le_of_ble_eq_true rfl⟩ [2, 3] rfl rfl 0 rfl rfl rfl rfl (Nat.le_of_ble_eq_true rfl) ⟨Nat.zero_le _, Nat.zero_le _⟩ rfl (wX ca ad ((v.1.1, u4, v.1.2.2), v.2)) rfl (wX_adr _ _ _ _) 41 rfl ?_
      refine v_aload_n h dX6_rain_41 0 rfl 42 rfl ?_
      refine v_get h (v := .ref (ad 1)) dX6_rain_42 iX6_rain_X6 0 rfl rfl 0 (by decide) (zwi 1 rfl) rfl 45 rfl ?_
      refine v_get h (v := .ref (ad 2)) dX6_rain_45 iX6_rain_X1 1 rfl rfl 1 (by decide) (zwi 2 rfl) rfl 48 rfl ?_
      refine v_get h (v := .int u4.2) dX6_rain_48 iX6_rain_X5 2 rfl rfl 1 (by decide) (zwi 3 rfl) rfl 51 rfl ?_
      cases (Option.some.inj hf)
      exact hE 51 _ rfl dX6_rain_51
    · replace hf := zf c3 hf
      refine v_bipush h dX6_rain_27 (-3) rfl 29 rfl ?_
      cases (Option.some.inj hf)
      exact hE 29 _ rfl dX6_rain_29
  · replace hf := zf c2 hf
    refine v_iconst h dX6_rain_10 (-1) rfl 11 rfl ?_
    cases (Option.some.inj hf)
    exact hE 11 _ rfl dX6_rain_11
abbrev rX6_dry : Room := { frames := 0, cells := 0, slots := 0, locals := 0 }
theorem nX6_dry : zNoMH yX6_dry 0 := ⟨by decide +kernel, by decide +kernel, by decide +kernel⟩
theorem iX6_dry_X6 : ∀ w ∈ wsX60, w ∈ wsX6_dry := fun _ h => (List.mem_cons_of_mem _ (List.mem_append_left _ (List.mem_append_left _ (List.mem_append_right _ h))))
theorem iX6_dry_X1 : ∀ w ∈ wsX10, w ∈ wsX6_dry := fun _ h => (List.mem_cons_of_mem _ (List.mem_append_left _ (List.mem_append_right _ h)))
theorem iX6_dry_X5 : ∀ w ∈ wsX50, w ∈ wsX6_dry := fun _ h => (List.mem_cons_of_mem _ (List.mem_append_right _ h))
def fX6_dry (v : XV) : Option (Int32 × HV) := some (v.1.2.1.2, (v.1.1, (v.1.2.1.1, 0), v.1.2.2))
set_option maxRecDepth 100000 in
set_option maxHeartbeats 4000000 in
theorem tX6_dry (l : Launch) (G : va_G) (ca : Nat → ClassId) (ad : Nat → Nat) (v : XV)  {o : (Int32 × HV)} (hf : fX6_dry v = some o) : zMi l yX6_dry wsX6_dry rX6_dry G ca [.ref (ad 0)] (wX ca ad v) o.1 (wX ca ad (o.2, v.2)) := by
  refine zMi.of (cc := cX6_dry) (nL := 2) (own := RX6) (ty := .int) (by decide) rfl rfl (Nat.le_of_ble_eq_true rfl) (fun X h hE => ?_)
  show V X G 2 0 0 (wX ca ad v) 0 [(0, .ref (ad 0))] []
  unfold fX6_dry at hf
  refine v_aload_n h dX6_dry_0 0 rfl 1 rfl ?_
  refine v_get h (v := .ref (ad 1)) dX6_dry_1 iX6_dry_X6 0 rfl rfl 0 (by decide) (zwi 1 rfl) rfl 4 rfl ?_
  refine v_get h (v := .ref (ad 2)) dX6_dry_4 iX6_dry_X1 1 rfl rfl 1 (by decide) (zwi 2 rfl) rfl 7 rfl ?_
  refine v_get h (v := .int v.1.2.1.2) dX6_dry_7 iX6_dry_X5 2 rfl rfl 1 (by decide) (zwi 3 rfl) rfl 10 rfl ?_
  refine v_istore_n h dX6_dry_10 (Nat.le_of_ble_eq_true rfl) rfl rfl [(0, .ref (ad 0)), (1, .int v.1.2.1.2)] rfl 11 rfl ?_
  refine v_aload_n h dX6_dry_11 0 rfl 12 rfl ?_
  refine v_get h (v := .ref (ad 1)) dX6_dry_12 iX6_dry_X6 0 rfl rfl 0 (by decide) (zwi 1 rfl) rfl 15 rfl ?_
  refine v_get h (v := .ref (ad 2)) dX6_dry_15 iX6_dry_X1 1 rfl rfl 1 (by decide) (zwi 2 rfl) rfl 18 rfl ?_
  refine v_iconst h dX6_dry_18 0 rfl 19 rfl ?_
  refine v_put h dX6_dry_19 iX6_dry_X5 tyX5 tyX5_ok nmX5 2 rfl rfl 1 (by decide) (zwi 3 rfl) rfl rfl rfl (Nat.le_of_ble_eq_true rfl) (wX ca ad ((v.1.1, (v.1.2.1.1, 0), v.1.2.2), v.2)) rfl 22 rfl ?_
  refine v_iload_n h dX6_dry_22 1 rfl 23 rfl ?_
  cases (Option.some.inj hf)
  exact hE 23 _ rfl dX6_dry_23
abbrev rX6_of : Room := { frames := 3, cells := 0, slots := 0, locals := 65 }
theorem nX6_of : zNoMH yX6_of 2 := ⟨by decide +kernel, by decide +kernel, by decide +kernel⟩
theorem iX6_of_X6 : ∀ w ∈ wsX60, w ∈ wsX6_of := fun _ h => (List.mem_cons_of_mem _ (List.mem_append_left _ (List.mem_append_left _ (List.mem_append_right _ h))))
theorem iX6_of_X1 : ∀ w ∈ wsX10, w ∈ wsX6_of := fun _ h => (List.mem_cons_of_mem _ (List.mem_append_left _ (List.mem_append_right _ h)))
theorem iX6_of_X0 : ∀ w ∈ wsX00, w ∈ wsX6_of := fun _ h => (List.mem_cons_of_mem _ (List.mem_append_right _ h))
def fX6_of (v : XV) (x1 : Int32) (x2 : Int32) : Option Int32 := ((fX0_has v.1.2.2.1 x1) : Option Int32).bind (fun u1 => if u1 = 0 then (some (-1)) else (if x2 = 0 then (zgrd (zix x1 10) (some (zgt v.1.2.2.1.1 x1))) else (if x2 = 1 then (zgrd (zix x1 10) (some (zgt v.1.2.2.1.2.1 x1))) else (if x2 = 2 then (zgrd (zix x1 10) (some (zgt v.1.2.2.1.2.2.1 x1))) else (if x2 = 3 then (zgrd (zix x1 10) (some (zgt v.1.2.2.1.2.2.2.1 x1))) else (if x2 = 4 then (((fX0_mostTaken v.1.2.2.1 x1) : Option Int32).bind (fun u12 => some u12)) else (if x2 = 5 then (((fX0_mostTakenAbove v.1.2.2.1 x1) : Option Int32).bind (fun u14 => some u14)) else (some (-1)))))))))
set_option maxRecDepth 100000 in
set_option maxHeartbeats 4000000 in
theorem tX6_of (l : Launch) (G : va_G) (ca : Nat → ClassId) (ad : Nat → Nat) (v : XV) (x1 : Int32) (x2 : Int32) {o : Int32} (hf : fX6_of v x1 x2 = some o) : zMi l yX6_of wsX6_of rX6_of G ca [.ref (ad 0), .int x1, .int x2] (wX ca ad v) o (wX ca ad v) := by
  refine zMi.of (cc := cX6_of) (nL := 4) (own := RX6) (ty := .int) (by decide) rfl rfl (Nat.le_of_ble_eq_true rfl) (fun X h hE => ?_)
  show V X G 4 0 0 (wX ca ad v) 0 [(0, .ref (ad 0)), (1, .int x1), (2, .int x2)] []
  unfold fX6_of at hf
  refine v_aload_n h dX6_of_0 0 rfl 1 rfl ?_
  refine v_get h (v := .ref (ad 1)) dX6_of_1 iX6_of_X6 0 rfl rfl 0 (by decide) (zwi 1 rfl) rfl 4 rfl ?_
  refine v_get h (v := .ref (ad 4)) dX6_of_4 iX6_of_X1 1 rfl rfl 2 (by decide) (zwi 2 rfl) rfl 7 rfl ?_
  refine v_astore_n h dX6_of_7 (Nat.le_of_ble_eq_true rfl) rfl rfl [(0, .ref (ad 0)), (1, .int x1), (2, .int x2), (3, .ref (ad 4))] rfl 8 rfl ?_
  refine v_aload_n h dX6_of_8 3 rfl 9 rfl ?_
  refine v_iload_n h dX6_of_9 1 rfl 10 rfl ?_
  obtain ⟨u1, hu1, hf⟩ := zb hf
  refine v_callVi h (rest := []) dX6_of_10 (tX0_has l G ca (fun i => ad (4 + i)) v.1.2.2.1 x1 hu1) gX6_of_X0_has rfl rfl ⟨rfl, rfl⟩ nX0_has ⟨Nat.le_of_ble_eq_true rfl, Nat.le_of_ble_eq_true rfl⟩ [4, 5, 6, 7, 8] rfl rfl 0 rfl rfl rfl rfl (Nat.le_of_ble_eq_true rfl) ⟨Nat.zero_le _, Nat.zero_le _⟩ rfl (wX ca ad v) rfl (wX_adr _ _ _ _) 13 rfl ?_
  refine v_if_ne h dX6_of_13 18 (by decide) 16 rfl (fun c2 => ?_) (fun c2 => ?_)
  · replace hf := zf c2 hf
    refine v_iload_n h dX6_of_18 2 rfl 19 rfl ?_
    by_cases c3 : x2 = 0
    · replace hf := zt c3 hf
      refine v_tsIn h dX6_of_19 c3 (by decide) (by decide) rfl 56 (by decide) ?_
      refine v_aload_n h dX6_of_56 3 rfl 57 rfl ?_
      refine v_get h (v := .ref (ad 5)) dX6_of_57 iX6_of_X0 4 rfl rfl 0 (by decide) (zwi 3 rfl) rfl 60 rfl ?_
      refine v_iload_n h dX6_of_60 1 rfl 61 rfl ?_
      obtain ⟨g4, hf⟩ := zg hf
      refine v_iald h (f := v.1.2.2.1.1) dX6_of_61 5 0 rfl rfl (zix_in g4) 62 rfl ?_
      cases (Option.some.inj hf)
      exact hE 62 _ rfl dX6_of_62
    · replace hf := zf c3 hf
      by_cases c5 : x2 = 1
      · replace hf := zt c5 hf
        refine v_tsIn h dX6_of_19 c5 (by decide) (by decide) rfl 63 (by decide) ?_
        refine v_aload_n h dX6_of_63 3 rfl 64 rfl ?_
        refine v_get h (v := .ref (ad 6)) dX6_of_64 iX6_of_X0 4 rfl rfl 1 (by decide) (zwi 4 rfl) rfl 67 rfl ?_
        refine v_iload_n h dX6_of_67 1 rfl 68 rfl ?_
        obtain ⟨g6, hf⟩ := zg hf
        refine v_iald h (f := v.1.2.2.1.2.1) dX6_of_68 6 0 rfl rfl (zix_in g6) 69 rfl ?_
        cases (Option.some.inj hf)
        exact hE 69 _ rfl dX6_of_69
      · replace hf := zf c5 hf
        by_cases c7 : x2 = 2
        · replace hf := zt c7 hf
          refine v_tsIn h dX6_of_19 c7 (by decide) (by decide) rfl 70 (by decide) ?_
          refine v_aload_n h dX6_of_70 3 rfl 71 rfl ?_
          refine v_get h (v := .ref (ad 7)) dX6_of_71 iX6_of_X0 4 rfl rfl 2 (by decide) (zwi 5 rfl) rfl 74 rfl ?_
          refine v_iload_n h dX6_of_74 1 rfl 75 rfl ?_
          obtain ⟨g8, hf⟩ := zg hf
          refine v_iald h (f := v.1.2.2.1.2.2.1) dX6_of_75 7 0 rfl rfl (zix_in g8) 76 rfl ?_
          cases (Option.some.inj hf)
          exact hE 76 _ rfl dX6_of_76
        · replace hf := zf c7 hf
          by_cases c9 : x2 = 3
          · replace hf := zt c9 hf
            refine v_tsIn h dX6_of_19 c9 (by decide) (by decide) rfl 77 (by decide) ?_
            refine v_aload_n h dX6_of_77 3 rfl 78 rfl ?_
            refine v_get h (v := .ref (ad 8)) dX6_of_78 iX6_of_X0 4 rfl rfl 3 (by decide) (zwi 6 rfl) rfl 81 rfl ?_
            refine v_iload_n h dX6_of_81 1 rfl 82 rfl ?_
            obtain ⟨g10, hf⟩ := zg hf
            refine v_iald h (f := v.1.2.2.1.2.2.2.1) dX6_of_82 8 0 rfl rfl (zix_in g10) 83 rfl ?_
            cases (Option.some.inj hf)
            exact hE 83 _ rfl dX6_of_83
          · replace hf := zf c9 hf
            by_cases c11 : x2 = 4
            · replace hf := zt c11 hf
              refine v_tsIn h dX6_of_19 c11 (by decide) (by decide) rfl 84 (by decide) ?_
              refine v_aload_n h dX6_of_84 3 rfl 85 rfl ?_
              refine v_iload_n h dX6_of_85 1 rfl 86 rfl ?_
              obtain ⟨u12, hu12, hf⟩ := zb hf
              refine v_callVi h (rest := []) dX6_of_86 (tX0_mostTaken l G ca (fun i => ad (4 + i)) v.1.2.2.1 x1 hu12) gX6_of_X0_mostTaken rfl rfl ⟨rfl, rfl⟩ nX0_mostTaken ⟨Nat.le_of_ble_eq_true rfl, Nat.le_of_ble_eq_true rfl⟩ [4, 5, 6, 7, 8] rfl rfl 0 rfl rfl rfl rfl (Nat.le_of_ble_eq_true rfl) ⟨Nat.zero_le _, Nat.zero_le _⟩ rfl (wX ca ad v) rfl (wX_adr _ _ _ _) 89 rfl ?_
              cases (Option.some.inj hf)
              exact hE 89 _ rfl dX6_of_89
            · replace hf := zf c11 hf
              by_cases c13 : x2 = 5
              · replace hf := zt c13 hf
                refine v_tsIn h dX6_of_19 c13 (by decide) (by decide) rfl 90 (by decide) ?_
                refine v_aload_n h dX6_of_90 3 rfl 91 rfl ?_
                refine v_iload_n h dX6_of_91 1 rfl 92 rfl ?_
                obtain ⟨u14, hu14, hf⟩ := zb hf
                refine v_callVi h (rest := []) dX6_of_92 (tX0_mostTakenAbove l G ca (fun i => ad (4 + i)) v.1.2.2.1 x1 hu14) gX6_of_X0_mostTakenAbove rfl rfl ⟨rfl, rfl⟩ nX0_mostTakenAbove ⟨Nat.le_of_ble_eq_true rfl, Nat.le_of_ble_eq_true rfl⟩ [4, 5, 6, 7, 8] rfl rfl 0 rfl rfl rfl rfl (Nat.le_of_ble_eq_true rfl) ⟨Nat.zero_le _, Nat.zero_le _⟩ rfl (wX ca ad v) rfl (wX_adr _ _ _ _) 95 rfl ?_
                cases (Option.some.inj hf)
                exact hE 95 _ rfl dX6_of_95
              · replace hf := zf c13 hf
                refine v_tsOut h dX6_of_19 (by have := lv_neT c3 (a := 0) (by decide); have := lv_neT c5 (a := 1) (by decide); have := lv_neT c7 (a := 2) (by decide); have := lv_neT c9 (a := 3) (by decide); have := lv_neT c11 (a := 4) (by decide); have := lv_neT c13 (a := 5) (by decide); omega) 96 (by decide) ?_
                refine v_iconst h dX6_of_96 (-1) rfl 97 rfl ?_
                cases (Option.some.inj hf)
                exact hE 97 _ rfl dX6_of_97
  · replace hf := zt c2 hf
    refine v_iconst h dX6_of_16 (-1) rfl 17 rfl ?_
    cases (Option.some.inj hf)
    exact hE 17 _ rfl dX6_of_17
abbrev rX6_rains : Room := { frames := 1, cells := 0, slots := 0, locals := 22 }
theorem nX6_rains : zNoMH yX6_rains 1 := ⟨by decide +kernel, by decide +kernel, by decide +kernel⟩
theorem iX6_rains_X6 : ∀ w ∈ wsX60, w ∈ wsX6_rains := fun _ h => (List.mem_cons_of_mem _ (List.mem_append_left _ (List.mem_append_left _ (List.mem_append_left _ (List.mem_append_right _ h)))))
theorem iX6_rains_X1 : ∀ w ∈ wsX10, w ∈ wsX6_rains := fun _ h => (List.mem_cons_of_mem _ (List.mem_append_left _ (List.mem_append_left _ (List.mem_append_right _ h))))
theorem iX6_rains_X0 : ∀ w ∈ wsX00, w ∈ wsX6_rains := fun _ h => (List.mem_cons_of_mem _ (List.mem_append_left _ (List.mem_append_right _ h)))
theorem iX6_rains_X5 : ∀ w ∈ wsX50, w ∈ wsX6_rains := fun _ h => (List.mem_cons_of_mem _ (List.mem_append_right _ h))
def fX6_rains (v : XV) (x1 : Int32) : Option Int32 := ((fX6_outside x1 0 40) : Option Int32).bind (fun u1 => if u1 = 0 then (((fX5_inYear v.1.2.1 (v.1.2.2.1.2.2.2.2.2.1 + x1)) : Option Int32).bind (fun u3 => some u3)) else (some (-1)))
set_option maxRecDepth 100000 in
set_option maxHeartbeats 4000000 in
theorem tX6_rains (l : Launch) (G : va_G) (ca : Nat → ClassId) (ad : Nat → Nat) (v : XV) (x1 : Int32) {o : Int32} (hf : fX6_rains v x1 = some o) : zMi l yX6_rains wsX6_rains rX6_rains G ca [.ref (ad 0), .int x1] (wX ca ad v) o (wX ca ad v) := by
  refine zMi.of (cc := cX6_rains) (nL := 2) (own := RX6) (ty := .int) (by decide) rfl rfl (Nat.le_of_ble_eq_true rfl) (fun X h hE => ?_)
  show V X G 2 0 0 (wX ca ad v) 0 [(0, .ref (ad 0)), (1, .int x1)] []
  unfold fX6_rains at hf
  refine v_iload_n h dX6_rains_0 1 rfl 1 rfl ?_
  refine v_iconst h dX6_rains_1 0 rfl 2 rfl ?_
  refine v_bipush h dX6_rains_2 40 rfl 4 rfl ?_
  obtain ⟨u1, hu1, hf⟩ := zb hf
  refine v_callSi h (rest := []) dX6_rains_4 (tX6_outside l G ca   x1 0 40 hu1) gX6_rains_X6_outside rfl ⟨rfl, rfl⟩ nX6_outside ⟨Nat.le_of_ble_eq_true rfl, Nat.le_of_ble_eq_true rfl⟩ [] rfl rfl rfl rfl (Nat.le_of_ble_eq_true rfl) ⟨Nat.zero_le _, Nat.zero_le _⟩ rfl (wX ca ad v) rfl (wX_adr _ _ _ _) 7 rfl ?_
  refine v_if_eq h dX6_rains_7 12 (by decide) 10 rfl (fun c2 => ?_) (fun c2 => ?_)
  · replace hf := zt c2 hf
    refine v_aload_n h dX6_rains_12 0 rfl 13 rfl ?_
    refine v_get h (v := .ref (ad 1)) dX6_rains_13 iX6_rains_X6 0 rfl rfl 0 (by decide) (zwi 1 rfl) rfl 16 rfl ?_
    refine v_get h (v := .ref (ad 2)) dX6_rains_16 iX6_rains_X1 1 rfl rfl 1 (by decide) (zwi 2 rfl) rfl 19 rfl ?_
    refine v_aload_n h dX6_rains_19 0 rfl 20 rfl ?_
    refine v_get h (v := .ref (ad 1)) dX6_rains_20 iX6_rains_X6 0 rfl rfl 0 (by decide) (zwi 1 rfl) rfl 23 rfl ?_
    refine v_get h (v := .ref (ad 4)) dX6_rains_23 iX6_rains_X1 1 rfl rfl 2 (by decide) (zwi 3 rfl) rfl 26 rfl ?_
    refine v_get h (v := .int v.1.2.2.1.2.2.2.2.2.1) dX6_rains_26 iX6_rains_X0 4 rfl rfl 5 (by decide) (zwi 4 rfl) rfl 29 rfl ?_
    refine v_iload_n h dX6_rains_29 1 rfl 30 rfl ?_
    refine v_iadd h dX6_rains_30 31 rfl ?_
    obtain ⟨u3, hu3, hf⟩ := zb hf
    refine v_callVi h (rest := []) dX6_rains_31 (tX5_inYear l G ca (fun i => ad (2 + i)) v.1.2.1 (v.1.2.2.1.2.2.2.2.2.1 + x1) hu3) gX6_rains_X5_inYear rfl rfl ⟨rfl, rfl⟩ nX5_inYear ⟨Nat.le_of_ble_eq_true rfl, Nat.le_of_ble_eq_true rfl⟩ [2, 3] rfl rfl 0 rfl rfl rfl rfl (Nat.le_of_ble_eq_true rfl) ⟨Nat.zero_le _, Nat.zero_le _⟩ rfl (wX ca ad v) rfl (wX_adr _ _ _ _) 34 rfl ?_
    cases (Option.some.inj hf)
    exact hE 34 _ rfl dX6_rains_34
  · replace hf := zf c2 hf
    refine v_iconst h dX6_rains_10 (-1) rfl 11 rfl ?_
    cases (Option.some.inj hf)
    exact hE 11 _ rfl dX6_rains_11
abbrev rX6_type : Room := { frames := 1, cells := 0, slots := 0, locals := 22 }
theorem nX6_type : zNoMH yX6_type 1 := ⟨by decide +kernel, by decide +kernel, by decide +kernel⟩
theorem iX6_type_X6 : ∀ w ∈ wsX60, w ∈ wsX6_type := fun _ h => (List.mem_cons_of_mem _ (List.mem_append_left _ (List.mem_append_right _ h)))
theorem iX6_type_X4 : ∀ w ∈ wsX40, w ∈ wsX6_type := fun _ h => (List.mem_cons_of_mem _ (List.mem_append_right _ h))
def fX6_type (v : XV) (x1 : Int32) : Option (Int32 × TV) := ((fX6_outside x1 32 126) : Option Int32).bind (fun u1 => if u1 = 0 then (if v.2.2.2.2.1.2.2.2.1 < 90 then (zlet ((x1.toUInt32 % 65536).toInt32 : Int32) (fun d4 => ((fX4_append v.2.2.2.2.1 d4) : Option TV).bind (fun u5 => some (u5.2.2.2.1, u5)))) else (some ((-3), v.2.2.2.2.1))) else (some ((-1), v.2.2.2.2.1)))
set_option maxRecDepth 100000 in
set_option maxHeartbeats 4000000 in
theorem tX6_type (l : Launch) (G : va_G) (ca : Nat → ClassId) (ad : Nat → Nat) (v : XV) (x1 : Int32) {o : (Int32 × TV)} (hf : fX6_type v x1 = some o) : zMi l yX6_type wsX6_type rX6_type G ca [.ref (ad 0), .int x1] (wX ca ad v) o.1 (wX ca ad (v.1, v.2.1, v.2.2.1, v.2.2.2.1, o.2, v.2.2.2.2.2)) := by
  refine zMi.of (cc := cX6_type) (nL := 2) (own := RX6) (ty := .int) (by decide) rfl rfl (Nat.le_of_ble_eq_true rfl) (fun X h hE => ?_)
  show V X G 2 0 0 (wX ca ad v) 0 [(0, .ref (ad 0)), (1, .int x1)] []
  unfold fX6_type at hf
  refine v_iload_n h dX6_type_0 1 rfl 1 rfl ?_
  refine v_bipush h dX6_type_1 32 rfl 3 rfl ?_
  refine v_bipush h dX6_type_3 126 rfl 5 rfl ?_
  obtain ⟨u1, hu1, hf⟩ := zb hf
  refine v_callSi h (rest := []) dX6_type_5 (tX6_outside l G ca   x1 32 126 hu1) gX6_type_X6_outside rfl ⟨rfl, rfl⟩ nX6_outside ⟨Nat.le_of_ble_eq_true rfl, Nat.le_of_ble_eq_true rfl⟩ [] rfl rfl rfl rfl (Nat.le_of_ble_eq_true rfl) ⟨Nat.zero_le _, Nat.zero_le _⟩ rfl (wX ca ad v) rfl (wX_adr _ _ _ _) 8 rfl ?_
  refine v_if_eq h dX6_type_8 13 (by decide) 11 rfl (fun c2 => ?_) (fun c2 => ?_)
  · replace hf := zt c2 hf
    refine v_aload_n h dX6_type_13 0 rfl 14 rfl ?_
    refine v_get h (v := .ref (ad 107)) dX6_type_14 iX6_type_X6 0 rfl rfl 4 (by decide) (zwi 1 rfl) rfl 17 rfl ?_
    refine v_get h (v := .int v.2.2.2.2.1.2.2.2.1) dX6_type_17 iX6_type_X4 107 rfl rfl 3 (by decide) (zwi 2 rfl) rfl 20 rfl ?_
    refine v_bipush h dX6_type_20 90 rfl 22 rfl ?_
    refine v_icmp_lt h dX6_type_22 28 (by decide) 25 rfl (fun c3 => ?_) (fun c3 => ?_)
    · replace hf := zt c3 hf
      refine v_aload_n h dX6_type_28 0 rfl 29 rfl ?_
      refine v_get h (v := .ref (ad 107)) dX6_type_29 iX6_type_X6 0 rfl rfl 4 (by decide) (zwi 1 rfl) rfl 32 rfl ?_
      refine v_iload_n h dX6_type_32 1 rfl 33 rfl ?_
      refine v_i2c h dX6_type_33 34 rfl ?_
      obtain ⟨d4, ed4, hf⟩ := zl hf
      refine v_topi ed4 ?_
      obtain ⟨u5, hu5, hf⟩ := zb hf
      refine v_gcallVv h (rest := []) dX6_type_34 (tX4_append l G ca (fun i => ad (107 + i)) v.2.2.2.2.1 d4 hu5) gX6_type_X4_append rfl rfl ⟨rfl, rfl⟩ nX4_append ⟨Nat.le_of_ble_eq_true rfl, Nat.le_of_ble_eq_true rfl⟩ (List.range' 107 9) (seg_at 107 9 rfl rfl) (nd_range 107 9) 0 rfl rfl rfl rfl (Nat.le_of_ble_eq_true rfl) ⟨Nat.zero_le _, Nat.zero_le _⟩ (wX ca ad (v.1, v.2.1, v.2.2.1, v.2.2.2.1, u5, v.2.2.2.2.2)) (seg_get (k := 107) (n := 9) rfl rfl (Nat.le_of_ble_eq_true rfl)) (wX_adr _ _ _ _) 37 rfl ?_
      refine v_aload_n h dX6_type_37 0 rfl 38 rfl ?_
      refine v_get h (v := .ref (ad 107)) dX6_type_38 iX6_type_X6 0 rfl rfl 4 (by decide) (zwi 1 rfl) rfl 41 rfl ?_
      refine v_get h (v := .int u5.2.2.2.1) dX6_type_41 iX6_type_X4 107 rfl rfl 3 (by decide) (zwi 2 rfl) rfl 44 rfl ?_
      cases (Option.some.inj hf)
      exact hE 44 _ rfl dX6_type_44
    · replace hf := zf c3 hf
      refine v_bipush h dX6_type_25 (-3) rfl 27 rfl ?_
      cases (Option.some.inj hf)
      exact hE 27 _ rfl dX6_type_27
  · replace hf := zf c2 hf
    refine v_iconst h dX6_type_11 (-1) rfl 12 rfl ?_
    cases (Option.some.inj hf)
    exact hE 12 _ rfl dX6_type_12
abbrev rX6_roof : Room := { frames := 6, cells := 0, slots := 0, locals := 130 }
theorem nX6_roof : zNoMH yX6_roof 0 := ⟨by decide +kernel, by decide +kernel, by decide +kernel⟩
theorem iX6_roof_X6 : ∀ w ∈ wsX60, w ∈ wsX6_roof := fun _ h => (List.mem_cons_of_mem _ (List.mem_append_left _ (List.mem_append_left _ (List.mem_append_left _ (List.mem_append_left _ (List.mem_append_right _ h))))))
theorem iX6_roof_X4 : ∀ w ∈ wsX40, w ∈ wsX6_roof := fun _ h => (List.mem_cons_of_mem _ (List.mem_append_left _ (List.mem_append_left _ (List.mem_append_left _ (List.mem_append_right _ h)))))
theorem iX6_roof_X1 : ∀ w ∈ wsX10, w ∈ wsX6_roof := fun _ h => (List.mem_cons_of_mem _ (List.mem_append_left _ (List.mem_append_left _ (List.mem_append_right _ h))))
theorem iX6_roof_X0 : ∀ w ∈ wsX00, w ∈ wsX6_roof := fun _ h => (List.mem_cons_of_mem _ (List.mem_append_left _ (List.mem_append_right _ h)))
theorem iX6_roof_X5 : ∀ w ∈ wsX50, w ∈ wsX6_roof := fun _ h => (List.mem_cons_of_mem _ (List.mem_append_right _ h))
def fX6_roof (v : XV) : Option (Int32 × HV × TV) := ((fX4_readRoof v.2.2.2.2.1) : Option (Int32 × TV)).bind (fun u1 => if u1.1 < 0 then (((fX1_takeOver v.1 (u1.2.1, u1.2.2.1, u1.2.2.2.1, 0, u1.2.2.2.2.2)) : Option HV).bind (fun u3 => some (u3.2.2.1.2.2.2.2.1, u3, (u1.2.1, u1.2.2.1, u1.2.2.2.1, 0, u1.2.2.2.2.2)))) else (some (((-20) - u1.1), v.1, (u1.2.1, u1.2.2.1, u1.2.2.2.1, 0, u1.2.2.2.2.2))))
set_option maxRecDepth 100000 in
set_option maxHeartbeats 4000000 in
theorem tX6_roof (l : Launch) (G : va_G) (ca : Nat → ClassId) (ad : Nat → Nat) (v : XV)  {o : (Int32 × HV × TV)} (hf : fX6_roof v = some o) : zMi l yX6_roof wsX6_roof rX6_roof G ca [.ref (ad 0)] (wX ca ad v) o.1 (wX ca ad (o.2.1, v.2.1, v.2.2.1, v.2.2.2.1, o.2.2, v.2.2.2.2.2)) := by
  refine zMi.of (cc := cX6_roof) (nL := 2) (own := RX6) (ty := .int) (by decide) rfl rfl (Nat.le_of_ble_eq_true rfl) (fun X h hE => ?_)
  show V X G 2 0 0 (wX ca ad v) 0 [(0, .ref (ad 0))] []
  unfold fX6_roof at hf
  refine v_aload_n h dX6_roof_0 0 rfl 1 rfl ?_
  refine v_get h (v := .ref (ad 107)) dX6_roof_1 iX6_roof_X6 0 rfl rfl 4 (by decide) (zwi 1 rfl) rfl 4 rfl ?_
  obtain ⟨u1, hu1, hf⟩ := zb hf
  refine v_gcallVi h (rest := []) dX6_roof_4 (tX4_readRoof l G ca (fun i => ad (107 + i)) v.2.2.2.2.1  hu1) gX6_roof_X4_readRoof rfl rfl ⟨rfl, rfl⟩ nX4_readRoof ⟨Nat.le_of_ble_eq_true rfl, Nat.le_of_ble_eq_true rfl⟩ (List.range' 107 9) (seg_at 107 9 rfl rfl) (nd_range 107 9) 0 rfl rfl rfl rfl (Nat.le_of_ble_eq_true rfl) ⟨Nat.zero_le _, Nat.zero_le _⟩ (wX ca ad (v.1, v.2.1, v.2.2.1, v.2.2.2.1, u1.2, v.2.2.2.2.2)) (seg_get (k := 107) (n := 9) rfl rfl (Nat.le_of_ble_eq_true rfl)) (wX_adr _ _ _ _) 7 rfl ?_
  refine v_istore_n h dX6_roof_7 (Nat.le_of_ble_eq_true rfl) rfl rfl [(0, .ref (ad 0)), (1, .int u1.1)] rfl 8 rfl ?_
  refine v_aload_n h dX6_roof_8 0 rfl 9 rfl ?_
  refine v_get h (v := .ref (ad 107)) dX6_roof_9 iX6_roof_X6 0 rfl rfl 4 (by decide) (zwi 1 rfl) rfl 12 rfl ?_
  refine v_iconst h dX6_roof_12 0 rfl 13 rfl ?_
  refine v_put h dX6_roof_13 iX6_roof_X4 tyX4 tyX4_ok nmX4 107 rfl rfl 3 (by decide) (zwi 2 rfl) rfl rfl rfl (Nat.le_of_ble_eq_true rfl) (wX ca ad (v.1, v.2.1, v.2.2.1, v.2.2.2.1, (u1.2.1, u1.2.2.1, u1.2.2.2.1, 0, u1.2.2.2.2.2), v.2.2.2.2.2)) rfl 16 rfl ?_
  refine v_iload_n h dX6_roof_16 1 rfl 17 rfl ?_
  refine v_if_lt h dX6_roof_17 25 (by decide) 20 rfl (fun c2 => ?_) (fun c2 => ?_)
  · replace hf := zt c2 hf
    refine v_aload_n h dX6_roof_25 0 rfl 26 rfl ?_
    refine v_get h (v := .ref (ad 1)) dX6_roof_26 iX6_roof_X6 0 rfl rfl 0 (by decide) (zwi 3 rfl) rfl 29 rfl ?_
    refine v_aload_n h dX6_roof_29 0 rfl 30 rfl ?_
    refine v_get h (v := .ref (ad 107)) dX6_roof_30 iX6_roof_X6 0 rfl rfl 4 (by decide) (zwi 1 rfl) rfl 33 rfl ?_
    obtain ⟨u3, hu3, hf⟩ := zb hf
    refine v_gcallVv h (rest := []) dX6_roof_33 (tX1_takeOver l G ca (fun i => ad (1 + i)) (fun i => ad (107 + i)) v.1 (u1.2.1, u1.2.2.1, u1.2.2.2.1, 0, u1.2.2.2.2.2)  hu3) gX6_roof_X1_takeOver rfl rfl ⟨rfl, rfl⟩ nX1_takeOver ⟨Nat.le_of_ble_eq_true rfl, Nat.le_of_ble_eq_true rfl⟩ (List.range' 1 49 ++ List.range' 107 9) (seg2_at 1 49 107 9 rfl rfl rfl rfl) (nd_2 (by decide)) 0 rfl rfl rfl rfl (Nat.le_of_ble_eq_true rfl) ⟨Nat.zero_le _, Nat.zero_le _⟩ (wX ca ad (u3, v.2.1, v.2.2.1, v.2.2.2.1, (u1.2.1, u1.2.2.1, u1.2.2.2.1, 0, u1.2.2.2.2.2), v.2.2.2.2.2)) (seg2_get (k1 := 1) (n1 := 49) (k2 := 107) (n2 := 9) rfl rfl (Nat.le_of_ble_eq_true rfl) rfl rfl (Nat.le_of_ble_eq_true rfl)) (wX_adr _ _ _ _) 36 rfl ?_
    refine v_aload_n h dX6_roof_36 0 rfl 37 rfl ?_
    refine v_get h (v := .ref (ad 1)) dX6_roof_37 iX6_roof_X6 0 rfl rfl 0 (by decide) (zwi 3 rfl) rfl 40 rfl ?_
    refine v_get h (v := .ref (ad 4)) dX6_roof_40 iX6_roof_X1 1 rfl rfl 2 (by decide) (zwi 4 rfl) rfl 43 rfl ?_
    refine v_get h (v := .int u3.2.2.1.2.2.2.2.1) dX6_roof_43 iX6_roof_X0 4 rfl rfl 4 (by decide) (zwi 5 rfl) rfl 46 rfl ?_
    cases (Option.some.inj hf)
    exact hE 46 _ rfl dX6_roof_46
  · replace hf := zf c2 hf
    refine v_bipush h dX6_roof_20 (-20) rfl 22 rfl ?_
    refine v_iload_n h dX6_roof_22 1 rfl 23 rfl ?_
    refine v_isub h dX6_roof_23 24 rfl ?_
    cases (Option.some.inj hf)
    exact hE 24 _ rfl dX6_roof_24
abbrev rX6_count : Room := { frames := 2, cells := 0, slots := 0, locals := 43 }
theorem nX6_count : zNoMH yX6_count 1 := ⟨by decide +kernel, by decide +kernel, by decide +kernel⟩
theorem iX6_count_X6 : ∀ w ∈ wsX60, w ∈ wsX6_count := fun _ h => (List.mem_cons_of_mem _ (List.mem_append_left _ (List.mem_append_left _ (List.mem_append_left _ (List.mem_append_right _ h)))))
theorem iX6_count_X1 : ∀ w ∈ wsX10, w ∈ wsX6_count := fun _ h => (List.mem_cons_of_mem _ (List.mem_append_left _ (List.mem_append_left _ (List.mem_append_right _ h))))
theorem iX6_count_X0 : ∀ w ∈ wsX00, w ∈ wsX6_count := fun _ h => (List.mem_cons_of_mem _ (List.mem_append_left _ (List.mem_append_right _ h)))
theorem iX6_count_X5 : ∀ w ∈ wsX50, w ∈ wsX6_count := fun _ h => (List.mem_cons_of_mem _ (List.mem_append_right _ h))
def fX6_count (v : XV) (x1 : Int32) : Option Int32 := if x1 = 0 then (some v.1.2.2.1.2.2.2.2.1) else (if x1 = 1 then (some v.1.1) else (if x1 = 2 then (some v.1.2.1.2) else (if x1 = 3 then (some v.1.2.2.1.2.2.2.2.2.1) else (if x1 = 4 then (some v.1.2.2.1.2.2.2.2.2.2.1) else (if x1 = 5 then (((fX0_heaviness v.1.2.2.1) : Option Int32).bind (fun u7 => some u7)) else (if x1 = 6 then (((fX0_thickness v.1.2.2.1) : Option Int32).bind (fun u9 => some u9)) else (if x1 = 7 then (((fX0_heaviness v.1.2.2.1) : Option Int32).bind (fun u11 => if v.1.1 < u11 then (some 0) else (some 1))) else (if x1 = 8 then (some v.1.2.2.2.2.1) else (some (-1))))))))))
set_option maxRecDepth 100000 in
set_option maxHeartbeats 4000000 in
theorem tX6_count (l : Launch) (G : va_G) (ca : Nat → ClassId) (ad : Nat → Nat) (v : XV) (x1 : Int32) {o : Int32} (hf : fX6_count v x1 = some o) : zMi l yX6_count wsX6_count rX6_count G ca [.ref (ad 0), .int x1] (wX ca ad v) o (wX ca ad v) := by
  refine zMi.of (cc := cX6_count) (nL := 3) (own := RX6) (ty := .int) (by decide) rfl rfl (Nat.le_of_ble_eq_true rfl) (fun X h hE => ?_)
  show V X G 3 0 0 (wX ca ad v) 0 [(0, .ref (ad 0)), (1, .int x1)] []
  unfold fX6_count at hf
  refine v_aload_n h dX6_count_0 0 rfl 1 rfl ?_
  refine v_get h (v := .ref (ad 1)) dX6_count_1 iX6_count_X6 0 rfl rfl 0 (by decide) (zwi 1 rfl) rfl 4 rfl ?_
  refine v_get h (v := .ref (ad 4)) dX6_count_4 iX6_count_X1 1 rfl rfl 2 (by decide) (zwi 2 rfl) rfl 7 rfl ?_
  refine v_astore_n h dX6_count_7 (Nat.le_of_ble_eq_true rfl) rfl rfl [(0, .ref (ad 0)), (1, .int x1), (2, .ref (ad 4))] rfl 8 rfl ?_
  refine v_iload_n h dX6_count_8 1 rfl 9 rfl ?_
  by_cases c1 : x1 = 0
  · replace hf := zt c1 hf
    refine v_tsIn h dX6_count_9 c1 (by decide) (by decide) rfl 60 (by decide) ?_
    refine v_aload_n h dX6_count_60 2 rfl 61 rfl ?_
    refine v_get h (v := .int v.1.2.2.1.2.2.2.2.1) dX6_count_61 iX6_count_X0 4 rfl rfl 4 (by decide) (zwi 3 rfl) rfl 64 rfl ?_
    cases (Option.some.inj hf)
    exact hE 64 _ rfl dX6_count_64
  · replace hf := zf c1 hf
    by_cases c2 : x1 = 1
    · replace hf := zt c2 hf
      refine v_tsIn h dX6_count_9 c2 (by decide) (by decide) rfl 65 (by decide) ?_
      refine v_aload_n h dX6_count_65 0 rfl 66 rfl ?_
      refine v_get h (v := .ref (ad 1)) dX6_count_66 iX6_count_X6 0 rfl rfl 0 (by decide) (zwi 1 rfl) rfl 69 rfl ?_
      refine v_get h (v := .int v.1.1) dX6_count_69 iX6_count_X1 1 rfl rfl 0 (by decide) (zwi 4 rfl) rfl 72 rfl ?_
      cases (Option.some.inj hf)
      exact hE 72 _ rfl dX6_count_72
    · replace hf := zf c2 hf
      by_cases c3 : x1 = 2
      · replace hf := zt c3 hf
        refine v_tsIn h dX6_count_9 c3 (by decide) (by decide) rfl 73 (by decide) ?_
        refine v_aload_n h dX6_count_73 0 rfl 74 rfl ?_
        refine v_get h (v := .ref (ad 1)) dX6_count_74 iX6_count_X6 0 rfl rfl 0 (by decide) (zwi 1 rfl) rfl 77 rfl ?_
        refine v_get h (v := .ref (ad 2)) dX6_count_77 iX6_count_X1 1 rfl rfl 1 (by decide) (zwi 5 rfl) rfl 80 rfl ?_
        refine v_get h (v := .int v.1.2.1.2) dX6_count_80 iX6_count_X5 2 rfl rfl 1 (by decide) (zwi 6 rfl) rfl 83 rfl ?_
        cases (Option.some.inj hf)
        exact hE 83 _ rfl dX6_count_83
      · replace hf := zf c3 hf
        by_cases c4 : x1 = 3
        · replace hf := zt c4 hf
          refine v_tsIn h dX6_count_9 c4 (by decide) (by decide) rfl 84 (by decide) ?_
          refine v_aload_n h dX6_count_84 2 rfl 85 rfl ?_
          refine v_get h (v := .int v.1.2.2.1.2.2.2.2.2.1) dX6_count_85 iX6_count_X0 4 rfl rfl 5 (by decide) (zwi 7 rfl) rfl 88 rfl ?_
          cases (Option.some.inj hf)
          exact hE 88 _ rfl dX6_count_88
        · replace hf := zf c4 hf
          by_cases c5 : x1 = 4
          · replace hf := zt c5 hf
            refine v_tsIn h dX6_count_9 c5 (by decide) (by decide) rfl 89 (by decide) ?_
            refine v_aload_n h dX6_count_89 2 rfl 90 rfl ?_
            refine v_get h (v := .int v.1.2.2.1.2.2.2.2.2.2.1) dX6_count_90 iX6_count_X0 4 rfl rfl 6 (by decide) (zwi 8 rfl) rfl 93 rfl ?_
            cases (Option.some.inj hf)
            exact hE 93 _ rfl dX6_count_93
          · replace hf := zf c5 hf
            by_cases c6 : x1 = 5
            · replace hf := zt c6 hf
              refine v_tsIn h dX6_count_9 c6 (by decide) (by decide) rfl 94 (by decide) ?_
              refine v_aload_n h dX6_count_94 2 rfl 95 rfl ?_
              obtain ⟨u7, hu7, hf⟩ := zb hf
              refine v_callVi h (rest := []) dX6_count_95 (tX0_heaviness l G ca (fun i => ad (4 + i)) v.1.2.2.1  hu7) gX6_count_X0_heaviness rfl rfl ⟨rfl, rfl⟩ nX0_heaviness ⟨Nat.le_of_ble_eq_true rfl, Nat.le_of_ble_eq_true rfl⟩ [4, 5, 6, 7, 8] rfl rfl 0 rfl rfl rfl rfl (Nat.le_of_ble_eq_true rfl) ⟨Nat.zero_le _, Nat.zero_le _⟩ rfl (wX ca ad v) rfl (wX_adr _ _ _ _) 98 rfl ?_
              cases (Option.some.inj hf)
              exact hE 98 _ rfl dX6_count_98
            · replace hf := zf c6 hf
              by_cases c8 : x1 = 6
              · replace hf := zt c8 hf
                refine v_tsIn h dX6_count_9 c8 (by decide) (by decide) rfl 99 (by decide) ?_
                refine v_aload_n h dX6_count_99 2 rfl 100 rfl ?_
                obtain ⟨u9, hu9, hf⟩ := zb hf
                refine v_callVi h (rest := []) dX6_count_100 (tX0_thickness l G ca (fun i => ad (4 + i)) v.1.2.2.1  hu9) gX6_count_X0_thickness rfl rfl ⟨rfl, rfl⟩ nX0_thickness ⟨Nat.le_of_ble_eq_true rfl, Nat.le_of_ble_eq_true rfl⟩ [4, 5, 6, 7, 8] rfl rfl 0 rfl rfl rfl rfl (Nat.le_of_ble_eq_true rfl) ⟨Nat.zero_le _, Nat.zero_le _⟩ rfl (wX ca ad v) rfl (wX_adr _ _ _ _) 103 rfl ?_
                cases (Option.some.inj hf)
                exact hE 103 _ rfl dX6_count_103
              · replace hf := zf c8 hf
                by_cases c10 : x1 = 7
                · replace hf := zt c10 hf
                  refine v_tsIn h dX6_count_9 c10 (by decide) (by decide) rfl 104 (by decide) ?_
                  refine v_aload_n h dX6_count_104 2 rfl 105 rfl ?_
                  obtain ⟨u11, hu11, hf⟩ := zb hf
                  refine v_callVi h (rest := []) dX6_count_105 (tX0_heaviness l G ca (fun i => ad (4 + i)) v.1.2.2.1  hu11) gX6_count_X0_heaviness rfl rfl ⟨rfl, rfl⟩ nX0_heaviness ⟨Nat.le_of_ble_eq_true rfl, Nat.le_of_ble_eq_true rfl⟩ [4, 5, 6, 7, 8] rfl rfl 0 rfl rfl rfl rfl (Nat.le_of_ble_eq_true rfl) ⟨Nat.zero_le _, Nat.zero_le _⟩ rfl (wX ca ad v) rfl (wX_adr _ _ _ _) 108 rfl ?_
                  refine v_aload_n h dX6_count_108 0 rfl 109 rfl ?_
                  refine v_get h (v := .ref (ad 1)) dX6_count_109 iX6_count_X6 0 rfl rfl 0 (by decide) (zwi 1 rfl) rfl 112 rfl ?_
                  refine v_get h (v := .int v.1.1) dX6_count_112 iX6_count_X1 1 rfl rfl 0 (by decide) (zwi 4 rfl) rfl 115 rfl ?_
                  refine v_icmp_gt h dX6_count_115 122 (by decide) 118 rfl (fun c12 => ?_) (fun c12 => ?_)
                  · replace hf := zt c12 hf
                    refine v_iconst h dX6_count_122 0 rfl 123 rfl ?_
                    cases (Option.some.inj hf)
                    exact hE 123 _ rfl dX6_count_123
                  · replace hf := zf c12 hf
                    refine v_iconst h dX6_count_118 1 rfl 119 rfl ?_
                    refine v_goto h dX6_count_119 123 (by decide) ?_
                    cases (Option.some.inj hf)
                    exact hE 123 _ rfl dX6_count_123
                · replace hf := zf c10 hf
                  by_cases c13 : x1 = 8
                  · replace hf := zt c13 hf
                    refine v_tsIn h dX6_count_9 c13 (by decide) (by decide) rfl 124 (by decide) ?_
                    refine v_aload_n h dX6_count_124 0 rfl 125 rfl ?_
                    refine v_get h (v := .ref (ad 1)) dX6_count_125 iX6_count_X6 0 rfl rfl 0 (by decide) (zwi 1 rfl) rfl 128 rfl ?_
                    refine v_get h (v := .int v.1.2.2.2.2.1) dX6_count_128 iX6_count_X1 1 rfl rfl 4 (by decide) (zwi 9 rfl) rfl 131 rfl ?_
                    cases (Option.some.inj hf)
                    exact hE 131 _ rfl dX6_count_131
                  · replace hf := zf c13 hf
                    refine v_tsOut h dX6_count_9 (by have := lv_neT c1 (a := 0) (by decide); have := lv_neT c2 (a := 1) (by decide); have := lv_neT c3 (a := 2) (by decide); have := lv_neT c4 (a := 3) (by decide); have := lv_neT c5 (a := 4) (by decide); have := lv_neT c6 (a := 5) (by decide); have := lv_neT c8 (a := 6) (by decide); have := lv_neT c10 (a := 7) (by decide); have := lv_neT c13 (a := 8) (by decide); omega) 132 (by decide) ?_
                    refine v_iconst h dX6_count_132 (-1) rfl 133 rfl ?_
                    cases (Option.some.inj hf)
                    exact hE 133 _ rfl dX6_count_133
abbrev rX6_refuseYears : Room := { frames := 1, cells := 0, slots := 0, locals := 22 }
theorem nX6_refuseYears : zNoMH yX6_refuseYears 1 := ⟨by decide +kernel, by decide +kernel, by decide +kernel⟩
theorem iX6_refuseYears_X6 : ∀ w ∈ wsX60, w ∈ wsX6_refuseYears := fun _ h => (List.mem_cons_of_mem _ (List.mem_append_left _ (List.mem_append_left _ (List.mem_append_right _ h))))
theorem iX6_refuseYears_X1 : ∀ w ∈ wsX10, w ∈ wsX6_refuseYears := fun _ h => (List.mem_cons_of_mem _ (List.mem_append_left _ (List.mem_append_right _ h)))
theorem iX6_refuseYears_X0 : ∀ w ∈ wsX00, w ∈ wsX6_refuseYears := fun _ h => (List.mem_cons_of_mem _ (List.mem_append_right _ h))
def fX6_refuseYears (v : XV) (x1 : Int32) : Option Int32 := ((fX6_outside x1 1 40) : Option Int32).bind (fun u1 => if u1 = 0 then (if (v.1.2.2.1.2.2.2.2.2.1 + x1) ≤ 9999 then (some 0) else (some (-3))) else (some (-1)))
set_option maxRecDepth 100000 in
set_option maxHeartbeats 4000000 in
theorem tX6_refuseYears (l : Launch) (G : va_G) (ca : Nat → ClassId) (ad : Nat → Nat) (v : XV) (x1 : Int32) {o : Int32} (hf : fX6_refuseYears v x1 = some o) : zMi l yX6_refuseYears wsX6_refuseYears rX6_refuseYears G ca [.ref (ad 0), .int x1] (wX ca ad v) o (wX ca ad v) := by
  refine zMi.of (cc := cX6_refuseYears) (nL := 2) (own := RX6) (ty := .int) (by decide) rfl rfl (Nat.le_of_ble_eq_true rfl) (fun X h hE => ?_)
  show V X G 2 0 0 (wX ca ad v) 0 [(0, .ref (ad 0)), (1, .int x1)] []
  unfold fX6_refuseYears at hf
  refine v_iload_n h dX6_refuseYears_0 1 rfl 1 rfl ?_
  refine v_iconst h dX6_refuseYears_1 1 rfl 2 rfl ?_
  refine v_bipush h dX6_refuseYears_2 40 rfl 4 rfl ?_
  obtain ⟨u1, hu1, hf⟩ := zb hf
  refine v_callSi h (rest := []) dX6_refuseYears_4 (tX6_outside l G ca   x1 1 40 hu1) gX6_refuseYears_X6_outside rfl ⟨rfl, rfl⟩ nX6_outside ⟨Nat.le_of_ble_eq_true rfl, Nat.le_of_ble_eq_true rfl⟩ [] rfl rfl rfl rfl (Nat.le_of_ble_eq_true rfl) ⟨Nat.zero_le _, Nat.zero_le _⟩ rfl (wX ca ad v) rfl (wX_adr _ _ _ _) 7 rfl ?_
  refine v_if_eq h dX6_refuseYears_7 12 (by decide) 10 rfl (fun c2 => ?_) (fun c2 => ?_)
  · replace hf := zt c2 hf
    refine v_aload_n h dX6_refuseYears_12 0 rfl 13 rfl ?_
    refine v_get h (v := .ref (ad 1)) dX6_refuseYears_13 iX6_refuseYears_X6 0 rfl rfl 0 (by decide) (zwi 1 rfl) rfl 16 rfl ?_
    refine v_get h (v := .ref (ad 4)) dX6_refuseYears_16 iX6_refuseYears_X1 1 rfl rfl 2 (by decide) (zwi 2 rfl) rfl 19 rfl ?_
    refine v_get h (v := .int v.1.2.2.1.2.2.2.2.2.1) dX6_refuseYears_19 iX6_refuseYears_X0 4 rfl rfl 5 (by decide) (zwi 3 rfl) rfl 22 rfl ?_
    refine v_iload_n h dX6_refuseYears_22 1 rfl 23 rfl ?_
    refine v_iadd h dX6_refuseYears_23 24 rfl ?_
    refine v_sipush h dX6_refuseYears_24 9999 rfl 27 rfl ?_
    refine v_icmp_le h dX6_refuseYears_27 35 (by decide) 30 rfl (fun c3 => ?_) (fun c3 => ?_)
    · replace hf := zt c3 hf
      refine v_iconst h dX6_refuseYears_35 0 rfl 36 rfl ?_
      cases (Option.some.inj hf)
      exact hE 36 _ rfl dX6_refuseYears_36
    · replace hf := zf c3 hf
      refine v_bipush h dX6_refuseYears_30 (-3) rfl 32 rfl ?_
      refine v_goto h dX6_refuseYears_32 36 (by decide) ?_
      cases (Option.some.inj hf)
      exact hE 36 _ rfl dX6_refuseYears_36
  · replace hf := zf c2 hf
    refine v_iconst h dX6_refuseYears_10 (-1) rfl 11 rfl ?_
    cases (Option.some.inj hf)
    exact hE 11 _ rfl dX6_refuseYears_11
abbrev rX6_liveThrough : Room := { frames := 4, cells := 0, slots := 0, locals := 80 }
theorem nX6_liveThrough : zNoMH yX6_liveThrough 2 := ⟨by decide +kernel, by decide +kernel, by decide +kernel⟩
theorem iX6_liveThrough_X6 : ∀ w ∈ wsX60, w ∈ wsX6_liveThrough := fun _ h => (List.mem_cons_of_mem _ (List.mem_append_left _ (List.mem_append_left _ (List.mem_append_left _ (List.mem_append_right _ h)))))
theorem iX6_liveThrough_X1 : ∀ w ∈ wsX10, w ∈ wsX6_liveThrough := fun _ h => (List.mem_cons_of_mem _ (List.mem_append_left _ (List.mem_append_left _ (List.mem_append_right _ h))))
theorem iX6_liveThrough_X0 : ∀ w ∈ wsX00, w ∈ wsX6_liveThrough := fun _ h => (List.mem_cons_of_mem _ (List.mem_append_left _ (List.mem_append_right _ h)))
theorem iX6_liveThrough_X5 : ∀ w ∈ wsX50, w ∈ wsX6_liveThrough := fun _ h => (List.mem_cons_of_mem _ (List.mem_append_right _ h))
def fX6_liveThrough_L5 : Nat → XV → Int32 → Int32 → Int32 → Int32 → HV → Option (Int32 × HV)
  | 0, _, _, _, _, _, _ => none
  | n + 1, v, x1, x2, x3, x4, m0 => if x1 ≤ x4 then (some (x3, m0)) else (((fX1_remember m0) : Option HV).bind (fun u2 => if x2 = 0 then (((fX5_inYear u2.2.1 u2.2.2.1.2.2.2.2.2.1) : Option Int32).bind (fun u4 => ((fX0_passYear u2.2.2.1 u4) : Option (Int32 × CV)).bind (fun u5 => fX6_liveThrough_L5 n v x1 x2 (x3 + u5.1) (x4 + 1) (u2.1, u2.2.1, u5.2, u2.2.2.2)))) else (((fX0_drawOut u2.2.2.1) : Option CV).bind (fun u6 => ((fX5_inYear u2.2.1 u6.2.2.2.2.2.1) : Option Int32).bind (fun u7 => ((fX0_passYear u6 u7) : Option (Int32 × CV)).bind (fun u8 => fX6_liveThrough_L5 n v x1 x2 (x3 + u8.1) (x4 + 1) (u2.1, u2.2.1, u8.2, u2.2.2.2)))))))
set_option maxRecDepth 100000 in
set_option maxHeartbeats 4000000 in
theorem tX6_liveThrough_l5 {X : zX} {l : Launch} {G : va_G} {ca : Nat → ClassId} {ad : Nat → Nat} (h : zOk X l G ca cX6_liveThrough RX6 wsX6_liveThrough 5 rX6_liveThrough) : ∀ (n : Nat) (v : XV) (x1 : Int32) (x2 : Int32) (x3 : Int32) (x4 : Int32) (m0 : HV) (out : (Int32 × HV)), fX6_liveThrough_L5 n v x1 x2 x3 x4 m0 = some out → (V X G 5 0 0 (wX ca ad (out.2, v.2)) 71 [(3, .int out.1)] []) → V X G 5 0 0 (wX ca ad (m0, v.2)) 5 [(0, .ref (ad 0)), (1, .int x1), (2, .int x2), (3, .int x3), (4, .int x4)] [] := by
  intro n
  induction n with
  | zero => intro v x1 x2 x3 x4 m0 out hf; rw [fX6_liveThrough_L5] at hf; cases hf
  | succ n ih =>
    intro v x1 x2 x3 x4 m0 out hf kx
    rw [fX6_liveThrough_L5] at hf
    refine v_iload h dX6_liveThrough_5 4 rfl 7 rfl ?_
    refine v_iload_n h dX6_liveThrough_7 1 rfl 8 rfl ?_
    refine v_icmp_ge h dX6_liveThrough_8 71 (by decide) 11 rfl (fun c1 => ?_) (fun c1 => ?_)
    · replace hf := zt c1 hf
      cases (Option.some.inj hf)
      exact v_sub [3] rfl (kx)
    · replace hf := zf c1 hf
      refine v_aload_n h dX6_liveThrough_11 0 rfl 12 rfl ?_
      refine v_get h (v := .ref (ad 1)) dX6_liveThrough_12 iX6_liveThrough_X6 0 rfl rfl 0 (by decide) (zwi 1 rfl) rfl 15 rfl ?_
      obtain ⟨u2, hu2, hf⟩ := zb hf
      refine v_gcallVv h (rest := []) dX6_liveThrough_15 (tX1_remember l G ca (fun i => ad (1 + i)) m0  hu2) gX6_liveThrough_X1_remember rfl rfl ⟨rfl, rfl⟩ nX1_remember ⟨Nat.le_of_ble_eq_true rfl, Nat.le_of_ble_eq_true rfl⟩ (List.range' 1 49) (seg_at 1 49 rfl rfl) (nd_range 1 49) 0 rfl rfl rfl rfl (Nat.le_of_ble_eq_true rfl) ⟨Nat.zero_le _, Nat.zero_le _⟩ (wX ca ad (u2, v.2)) (seg_get (k := 1) (n := 49) rfl rfl (Nat.le_of_ble_eq_true rfl)) (wX_adr _ _ _ _) 18 rfl ?_
      refine v_iload_n h dX6_liveThrough_18 2 rfl 19 rfl ?_
      refine v_if_eq h dX6_liveThrough_19 32 (by decide) 22 rfl (fun c3 => ?_) (fun c3 => ?_)
      · replace hf := zt c3 hf
        refine v_iload_n h dX6_liveThrough_32 3 rfl 33 rfl ?_
        refine v_aload_n h dX6_liveThrough_33 0 rfl 34 rfl ?_
        refine v_get h (v := .ref (ad 1)) dX6_liveThrough_34 iX6_liveThrough_X6 0 rfl rfl 0 (by decide) (zwi 1 rfl) rfl 37 rfl ?_
        refine v_get h (v := .ref (ad 4)) dX6_liveThrough_37 iX6_liveThrough_X1 1 rfl rfl 2 (by decide) (zwi 2 rfl) rfl 40 rfl ?_
        refine v_aload_n h dX6_liveThrough_40 0 rfl 41 rfl ?_
        refine v_get h (v := .ref (ad 1)) dX6_liveThrough_41 iX6_liveThrough_X6 0 rfl rfl 0 (by decide) (zwi 1 rfl) rfl 44 rfl ?_
        refine v_get h (v := .ref (ad 2)) dX6_liveThrough_44 iX6_liveThrough_X1 1 rfl rfl 1 (by decide) (zwi 3 rfl) rfl 47 rfl ?_
        refine v_aload_n h dX6_liveThrough_47 0 rfl 48 rfl ?_
        refine v_get h (v := .ref (ad 1)) dX6_liveThrough_48 iX6_liveThrough_X6 0 rfl rfl 0 (by decide) (zwi 1 rfl) rfl 51 rfl ?_
        refine v_get h (v := .ref (ad 4)) dX6_liveThrough_51 iX6_liveThrough_X1 1 rfl rfl 2 (by decide) (zwi 2 rfl) rfl 54 rfl ?_
        refine v_get h (v := .int u2.2.2.1.2.2.2.2.2.1) dX6_liveThrough_54 iX6_liveThrough_X0 4 rfl rfl 5 (by decide) (zwi 4 rfl) rfl 57 rfl ?_
        obtain ⟨u4, hu4, hf⟩ := zb hf
        refine v_callVi h (rest := [.ref (ad 4), .int x3]) dX6_liveThrough_57 (tX5_inYear l G ca (fun i => ad (2 + i)) u2.2.1 u2.2.2.1.2.2.2.2.2.1 hu4) gX6_liveThrough_X5_inYear rfl rfl ⟨rfl, rfl⟩ nX5_inYear ⟨Nat.le_of_ble_eq_true rfl, Nat.le_of_ble_eq_true rfl⟩ [2, 3] rfl rfl 0 rfl rfl rfl rfl (Nat.le_of_ble_eq_true rfl) ⟨Nat.zero_le _, Nat.zero_le _⟩ rfl (wX ca ad (u2, v.2)) rfl (wX_adr _ _ _ _) 60 rfl ?_
        obtain ⟨u5, hu5, hf⟩ := zb hf
        refine v_callVi h (rest := [.int x3]) dX6_liveThrough_60 (tX0_passYear l G ca (fun i => ad (4 + i)) u2.2.2.1 u4 hu5) gX6_liveThrough_X0_passYear rfl rfl ⟨rfl, rfl⟩ nX0_passYear ⟨Nat.le_of_ble_eq_true rfl, Nat.le_of_ble_eq_true rfl⟩ [4, 5, 6, 7, 8] rfl rfl 0 rfl rfl rfl rfl (Nat.le_of_ble_eq_true rfl) ⟨Nat.zero_le _, Nat.zero_le _⟩ rfl (wX ca ad ((u2.1, u2.2.1, u5.2, u2.2.2.2), v.2)) rfl (wX_adr _ _ _ _) 63 rfl ?_
        refine v_iadd h dX6_liveThrough_63 64 rfl ?_
        refine v_istore_n h dX6_liveThrough_64 (Nat.le_of_ble_eq_true rfl) rfl rfl [(0, .ref (ad 0)), (1, .int x1), (2, .int x2), (3, .int (x3 + u5.1)), (4, .int x4)] rfl 65 rfl ?_
        refine v_iinc h dX6_liveThrough_65 4 rfl (x4 + 1) rfl (Nat.le_of_ble_eq_true rfl) rfl rfl [(0, .ref (ad 0)), (1, .int x1), (2, .int x2), (3, .int (x3 + u5.1)), (4, .int (x4 + 1))] rfl 68 rfl ?_
        refine v_goto h dX6_liveThrough_68 5 (by decide) ?_
        exact v_sub [0, 1, 2, 3, 4] rfl (ih v x1 x2 (x3 + u5.1) (x4 + 1) (u2.1, u2.2.1, u5.2, u2.2.2.2) _ hf kx)
      · replace hf := zf c3 hf
        refine v_aload_n h dX6_liveThrough_22 0 rfl 23 rfl ?_
        refine v_get h (v := .ref (ad 1)) dX6_liveThrough_23 iX6_liveThrough_X6 0 rfl rfl 0 (by decide) (zwi 1 rfl) rfl 26 rfl ?_
        refine v_get h (v := .ref (ad 4)) dX6_liveThrough_26 iX6_liveThrough_X1 1 rfl rfl 2 (by decide) (zwi 2 rfl) rfl 29 rfl ?_
        obtain ⟨u6, hu6, hf⟩ := zb hf
        refine v_callVv h (rest := []) dX6_liveThrough_29 (tX0_drawOut l G ca (fun i => ad (4 + i)) u2.2.2.1  hu6) gX6_liveThrough_X0_drawOut rfl rfl ⟨rfl, rfl⟩ nX0_drawOut ⟨Nat.le_of_ble_eq_true rfl, Nat.le_of_ble_eq_true rfl⟩ [4, 5, 6, 7, 8] rfl rfl 0 rfl rfl rfl rfl (Nat.le_of_ble_eq_true rfl) ⟨Nat.zero_le _, Nat.zero_le _⟩ rfl (wX ca ad ((u2.1, u2.2.1, u6, u2.2.2.2), v.2)) rfl (wX_adr _ _ _ _) 32 rfl ?_
        refine v_iload_n h dX6_liveThrough_32 3 rfl 33 rfl ?_
        refine v_aload_n h dX6_liveThrough_33 0 rfl 34 rfl ?_
        refine v_get h (v := .ref (ad 1)) dX6_liveThrough_34 iX6_liveThrough_X6 0 rfl rfl 0 (by decide) (zwi 1 rfl) rfl 37 rfl ?_
        refine v_get h (v := .ref (ad 4)) dX6_liveThrough_37 iX6_liveThrough_X1 1 rfl rfl 2 (by decide) (zwi 2 rfl) rfl 40 rfl ?_
        refine v_aload_n h dX6_liveThrough_40 0 rfl 41 rfl ?_
        refine v_get h (v := .ref (ad 1)) dX6_liveThrough_41 iX6_liveThrough_X6 0 rfl rfl 0 (by decide) (zwi 1 rfl) rfl 44 rfl ?_
        refine v_get h (v := .ref (ad 2)) dX6_liveThrough_44 iX6_liveThrough_X1 1 rfl rfl 1 (by decide) (zwi 3 rfl) rfl 47 rfl ?_
        refine v_aload_n h dX6_liveThrough_47 0 rfl 48 rfl ?_
        refine v_get h (v := .ref (ad 1)) dX6_liveThrough_48 iX6_liveThrough_X6 0 rfl rfl 0 (by decide) (zwi 1 rfl) rfl 51 rfl ?_
        refine v_get h (v := .ref (ad 4)) dX6_liveThrough_51 iX6_liveThrough_X1 1 rfl rfl 2 (by decide) (zwi 2 rfl) rfl 54 rfl ?_
        refine v_get h (v := .int u6.2.2.2.2.2.1) dX6_liveThrough_54 iX6_liveThrough_X0 4 rfl rfl 5 (by decide) (zwi 4 rfl) rfl 57 rfl ?_
        obtain ⟨u7, hu7, hf⟩ := zb hf
        refine v_callVi h (rest := [.ref (ad 4), .int x3]) dX6_liveThrough_57 (tX5_inYear l G ca (fun i => ad (2 + i)) u2.2.1 u6.2.2.2.2.2.1 hu7) gX6_liveThrough_X5_inYear rfl rfl ⟨rfl, rfl⟩ nX5_inYear ⟨Nat.le_of_ble_eq_true rfl, Nat.le_of_ble_eq_true rfl⟩ [2, 3] rfl rfl 0 rfl rfl rfl rfl (Nat.le_of_ble_eq_true rfl) ⟨Nat.zero_le _, Nat.zero_le _⟩ rfl (wX ca ad ((u2.1, u2.2.1, u6, u2.2.2.2), v.2)) rfl (wX_adr _ _ _ _) 60 rfl ?_
        obtain ⟨u8, hu8, hf⟩ := zb hf
        refine v_callVi h (rest := [.int x3]) dX6_liveThrough_60 (tX0_passYear l G ca (fun i => ad (4 + i)) u6 u7 hu8) gX6_liveThrough_X0_passYear rfl rfl ⟨rfl, rfl⟩ nX0_passYear ⟨Nat.le_of_ble_eq_true rfl, Nat.le_of_ble_eq_true rfl⟩ [4, 5, 6, 7, 8] rfl rfl 0 rfl rfl rfl rfl (Nat.le_of_ble_eq_true rfl) ⟨Nat.zero_le _, Nat.zero_le _⟩ rfl (wX ca ad ((u2.1, u2.2.1, u8.2, u2.2.2.2), v.2)) rfl (wX_adr _ _ _ _) 63 rfl ?_
        refine v_iadd h dX6_liveThrough_63 64 rfl ?_
        refine v_istore_n h dX6_liveThrough_64 (Nat.le_of_ble_eq_true rfl) rfl rfl [(0, .ref (ad 0)), (1, .int x1), (2, .int x2), (3, .int (x3 + u8.1)), (4, .int x4)] rfl 65 rfl ?_
        refine v_iinc h dX6_liveThrough_65 4 rfl (x4 + 1) rfl (Nat.le_of_ble_eq_true rfl) rfl rfl [(0, .ref (ad 0)), (1, .int x1), (2, .int x2), (3, .int (x3 + u8.1)), (4, .int (x4 + 1))] rfl 68 rfl ?_
        refine v_goto h dX6_liveThrough_68 5 (by decide) ?_
        exact v_sub [0, 1, 2, 3, 4] rfl (ih v x1 x2 (x3 + u8.1) (x4 + 1) (u2.1, u2.2.1, u8.2, u2.2.2.2) _ hf kx)
def fX6_liveThrough (v : XV) (x1 : Int32) (x2 : Int32) : Option (Int32 × HV) := ((fX6_liveThrough_L5 zF v x1 x2 0 0 v.1) : Option (Int32 × HV)).bind (fun u1 => some (u1.1, u1.2))
set_option maxRecDepth 100000 in
set_option maxHeartbeats 4000000 in
theorem tX6_liveThrough (l : Launch) (G : va_G) (ca : Nat → ClassId) (ad : Nat → Nat) (v : XV) (x1 : Int32) (x2 : Int32) {o : (Int32 × HV)} (hf : fX6_liveThrough v x1 x2 = some o) : zMi l yX6_liveThrough wsX6_liveThrough rX6_liveThrough G ca [.ref (ad 0), .int x1, .int x2] (wX ca ad v) o.1 (wX ca ad (o.2, v.2)) := by
  refine zMi.of (cc := cX6_liveThrough) (nL := 5) (own := RX6) (ty := .int) (by decide) rfl rfl (Nat.le_of_ble_eq_true rfl) (fun X h hE => ?_)
  show V X G 5 0 0 (wX ca ad v) 0 [(0, .ref (ad 0)), (1, .int x1), (2, .int x2)] []
  unfold fX6_liveThrough at hf
  refine v_iconst h dX6_liveThrough_0 0 rfl 1 rfl ?_
  refine v_istore_n h dX6_liveThrough_1 (Nat.le_of_ble_eq_true rfl) rfl rfl [(0, .ref (ad 0)), (1, .int x1), (2, .int x2), (3, .int 0)] rfl 2 rfl ?_
  refine v_iconst h dX6_liveThrough_2 0 rfl 3 rfl ?_
  refine v_istore h dX6_liveThrough_3 (Nat.le_of_ble_eq_true rfl) rfl rfl [(0, .ref (ad 0)), (1, .int x1), (2, .int x2), (3, .int 0), (4, .int 0)] rfl 5 rfl ?_
  obtain ⟨u1, hu1, hf⟩ := zb hf
  refine v_sub [0, 1, 2, 3, 4] rfl ?_
  refine tX6_liveThrough_l5 h zF v x1 x2 0 0 v.1 _ hu1 ?_
  refine v_iload_n h dX6_liveThrough_71 0 rfl 72 rfl ?_
  cases (Option.some.inj hf)
  exact hE 72 _ rfl dX6_liveThrough_72
abbrev rX6_years : Room := { frames := 5, cells := 0, slots := 0, locals := 104 }
theorem nX6_years : zNoMH yX6_years 1 := ⟨by decide +kernel, by decide +kernel, by decide +kernel⟩
theorem iX6_years_X6 : ∀ w ∈ wsX60, w ∈ wsX6_years := fun _ h => (List.mem_cons_of_mem _ (List.mem_append_left _ (List.mem_append_left _ (List.mem_append_left _ (List.mem_append_right _ h)))))
theorem iX6_years_X1 : ∀ w ∈ wsX10, w ∈ wsX6_years := fun _ h => (List.mem_cons_of_mem _ (List.mem_append_left _ (List.mem_append_left _ (List.mem_append_right _ h))))
theorem iX6_years_X0 : ∀ w ∈ wsX00, w ∈ wsX6_years := fun _ h => (List.mem_cons_of_mem _ (List.mem_append_left _ (List.mem_append_right _ h)))
theorem iX6_years_X5 : ∀ w ∈ wsX50, w ∈ wsX6_years := fun _ h => (List.mem_cons_of_mem _ (List.mem_append_right _ h))
def fX6_years (v : XV) (x1 : Int32) : Option (Int32 × HV) := ((fX6_refuseYears v x1) : Option Int32).bind (fun u1 => if 0 ≤ u1 then (((fX6_liveThrough v x1 0) : Option (Int32 × HV)).bind (fun u3 => some (u3.1, u3.2))) else (some (u1, v.1)))
set_option maxRecDepth 100000 in
set_option maxHeartbeats 4000000 in
theorem tX6_years (l : Launch) (G : va_G) (ca : Nat → ClassId) (ad : Nat → Nat) (v : XV) (x1 : Int32) {o : (Int32 × HV)} (hf : fX6_years v x1 = some o) : zMi l yX6_years wsX6_years rX6_years G ca [.ref (ad 0), .int x1] (wX ca ad v) o.1 (wX ca ad (o.2, v.2)) := by
  refine zMi.of (cc := cX6_years) (nL := 3) (own := RX6) (ty := .int) (by decide) rfl rfl (Nat.le_of_ble_eq_true rfl) (fun X h hE => ?_)
  show V X G 3 0 0 (wX ca ad v) 0 [(0, .ref (ad 0)), (1, .int x1)] []
  unfold fX6_years at hf
  refine v_aload_n h dX6_years_0 0 rfl 1 rfl ?_
  refine v_iload_n h dX6_years_1 1 rfl 2 rfl ?_
  obtain ⟨u1, hu1, hf⟩ := zb hf
  refine v_wcallVi h (rest := []) dX6_years_2 (tX6_refuseYears l G ca ad v x1 hu1) gX6_years_X6_refuseYears rfl rfl ⟨rfl, rfl⟩ nX6_refuseYears ⟨Nat.le_of_ble_eq_true rfl, Nat.le_of_ble_eq_true rfl⟩ 0 rfl rfl rfl rfl (Nat.le_of_ble_eq_true rfl) ⟨Nat.zero_le _, Nat.zero_le _⟩ (wX_adr _ _ _ _) 5 rfl ?_
  refine v_istore_n h dX6_years_5 (Nat.le_of_ble_eq_true rfl) rfl rfl [(0, .ref (ad 0)), (1, .int x1), (2, .int u1)] rfl 6 rfl ?_
  refine v_iload_n h dX6_years_6 2 rfl 7 rfl ?_
  refine v_if_ge h dX6_years_7 14 (by decide) 10 rfl (fun c2 => ?_) (fun c2 => ?_)
  · replace hf := zt c2 hf
    refine v_aload_n h dX6_years_14 0 rfl 15 rfl ?_
    refine v_iload_n h dX6_years_15 1 rfl 16 rfl ?_
    refine v_iconst h dX6_years_16 0 rfl 17 rfl ?_
    obtain ⟨u3, hu3, hf⟩ := zb hf
    refine v_wcallVi h (rest := []) dX6_years_17 (tX6_liveThrough l G ca ad v x1 0 hu3) gX6_years_X6_liveThrough rfl rfl ⟨rfl, rfl⟩ nX6_liveThrough ⟨Nat.le_of_ble_eq_true rfl, Nat.le_of_ble_eq_true rfl⟩ 0 rfl rfl rfl rfl (Nat.le_of_ble_eq_true rfl) ⟨Nat.zero_le _, Nat.zero_le _⟩ (wX_adr _ _ _ _) 20 rfl ?_
    cases (Option.some.inj hf)
    exact hE 20 _ rfl dX6_years_20
  · replace hf := zf c2 hf
    refine v_iload_n h dX6_years_10 2 rfl 11 rfl ?_
    refine v_goto h dX6_years_11 20 (by decide) ?_
    cases (Option.some.inj hf)
    exact hE 20 _ rfl dX6_years_20
abbrev rX6_lay : Room := { frames := 4, cells := 0, slots := 0, locals := 80 }
theorem nX6_lay : zNoMH yX6_lay 2 := ⟨by decide +kernel, by decide +kernel, by decide +kernel⟩
theorem iX6_lay_X6 : ∀ w ∈ wsX60, w ∈ wsX6_lay := fun _ h => (List.mem_cons_of_mem _ (List.mem_append_left _ (List.mem_append_left _ (List.mem_append_right _ h))))
theorem iX6_lay_X1 : ∀ w ∈ wsX10, w ∈ wsX6_lay := fun _ h => (List.mem_cons_of_mem _ (List.mem_append_left _ (List.mem_append_right _ h)))
theorem iX6_lay_X0 : ∀ w ∈ wsX00, w ∈ wsX6_lay := fun _ h => (List.mem_cons_of_mem _ (List.mem_append_right _ h))
def fX6_lay (v : XV) (x1 : Int32) (x2 : Int32) : Option (Int32 × HV) := ((fX6_isKind x1) : Option Int32).bind (fun u1 => if u1 = 0 then (some ((-1), v.1)) else (((fX6_outside x2 1 20) : Option Int32).bind (fun u3 => if u3 = 0 then (if v.1.2.2.1.2.2.2.2.1 < 10 then (((fX0_heaviness v.1.2.2.1) : Option Int32).bind (fun u6 => if (u6 + x2) ≤ v.1.1 then (((fX1_remember v.1) : Option HV).bind (fun u8 => ((fX0_putOver u8.2.2.1 x1 x2 0) : Option CV).bind (fun u9 => some ((u9.2.2.2.2.1 - 1), (u8.1, u8.2.1, u9, u8.2.2.2))))) else (some ((-2), v.1)))) else (some ((-3), v.1))) else (some ((-1), v.1)))))
set_option maxRecDepth 100000 in
set_option maxHeartbeats 4000000 in
theorem tX6_lay (l : Launch) (G : va_G) (ca : Nat → ClassId) (ad : Nat → Nat) (v : XV) (x1 : Int32) (x2 : Int32) {o : (Int32 × HV)} (hf : fX6_lay v x1 x2 = some o) : zMi l yX6_lay wsX6_lay rX6_lay G ca [.ref (ad 0), .int x1, .int x2] (wX ca ad v) o.1 (wX ca ad (o.2, v.2)) := by
  refine zMi.of (cc := cX6_lay) (nL := 4) (own := RX6) (ty := .int) (by decide) rfl rfl (Nat.le_of_ble_eq_true rfl) (fun X h hE => ?_)
  show V X G 4 0 0 (wX ca ad v) 0 [(0, .ref (ad 0)), (1, .int x1), (2, .int x2)] []
  unfold fX6_lay at hf
  refine v_iload_n h dX6_lay_0 1 rfl 1 rfl ?_
  obtain ⟨u1, hu1, hf⟩ := zb hf
  refine v_callSi h (rest := []) dX6_lay_1 (tX6_isKind l G ca   x1 hu1) gX6_lay_X6_isKind rfl ⟨rfl, rfl⟩ nX6_isKind ⟨Nat.le_of_ble_eq_true rfl, Nat.le_of_ble_eq_true rfl⟩ [] rfl rfl rfl rfl (Nat.le_of_ble_eq_true rfl) ⟨Nat.zero_le _, Nat.zero_le _⟩ rfl (wX ca ad v) rfl (wX_adr _ _ _ _) 4 rfl ?_
  refine v_if_eq h dX6_lay_4 17 (by decide) 7 rfl (fun c2 => ?_) (fun c2 => ?_)
  · replace hf := zt c2 hf
    refine v_iconst h dX6_lay_17 (-1) rfl 18 rfl ?_
    cases (Option.some.inj hf)
    exact hE 18 _ rfl dX6_lay_18
  · replace hf := zf c2 hf
    refine v_iload_n h dX6_lay_7 2 rfl 8 rfl ?_
    refine v_iconst h dX6_lay_8 1 rfl 9 rfl ?_
    refine v_bipush h dX6_lay_9 20 rfl 11 rfl ?_
    obtain ⟨u3, hu3, hf⟩ := zb hf
    refine v_callSi h (rest := []) dX6_lay_11 (tX6_outside l G ca   x2 1 20 hu3) gX6_lay_X6_outside rfl ⟨rfl, rfl⟩ nX6_outside ⟨Nat.le_of_ble_eq_true rfl, Nat.le_of_ble_eq_true rfl⟩ [] rfl rfl rfl rfl (Nat.le_of_ble_eq_true rfl) ⟨Nat.zero_le _, Nat.zero_le _⟩ rfl (wX ca ad v) rfl (wX_adr _ _ _ _) 14 rfl ?_
    refine v_if_eq h dX6_lay_14 19 (by decide) 17 rfl (fun c4 => ?_) (fun c4 => ?_)
    · replace hf := zt c4 hf
      refine v_aload_n h dX6_lay_19 0 rfl 20 rfl ?_
      refine v_get h (v := .ref (ad 1)) dX6_lay_20 iX6_lay_X6 0 rfl rfl 0 (by decide) (zwi 1 rfl) rfl 23 rfl ?_
      refine v_get h (v := .ref (ad 4)) dX6_lay_23 iX6_lay_X1 1 rfl rfl 2 (by decide) (zwi 2 rfl) rfl 26 rfl ?_
      refine v_astore_n h dX6_lay_26 (Nat.le_of_ble_eq_true rfl) rfl rfl [(0, .ref (ad 0)), (1, .int x1), (2, .int x2), (3, .ref (ad 4))] rfl 27 rfl ?_
      refine v_aload_n h dX6_lay_27 3 rfl 28 rfl ?_
      refine v_get h (v := .int v.1.2.2.1.2.2.2.2.1) dX6_lay_28 iX6_lay_X0 4 rfl rfl 4 (by decide) (zwi 3 rfl) rfl 31 rfl ?_
      refine v_bipush h dX6_lay_31 10 rfl 33 rfl ?_
      refine v_icmp_lt h dX6_lay_33 39 (by decide) 36 rfl (fun c5 => ?_) (fun c5 => ?_)
      · replace hf := zt c5 hf
        refine v_aload_n h dX6_lay_39 3 rfl 40 rfl ?_
        obtain ⟨u6, hu6, hf⟩ := zb hf
        refine v_callVi h (rest := []) dX6_lay_40 (tX0_heaviness l G ca (fun i => ad (4 + i)) v.1.2.2.1  hu6) gX6_lay_X0_heaviness rfl rfl ⟨rfl, rfl⟩ nX0_heaviness ⟨Nat.le_of_ble_eq_true rfl, Nat.le_of_ble_eq_true rfl⟩ [4, 5, 6, 7, 8] rfl rfl 0 rfl rfl rfl rfl (Nat.le_of_ble_eq_true rfl) ⟨Nat.zero_le _, Nat.zero_le _⟩ rfl (wX ca ad v) rfl (wX_adr _ _ _ _) 43 rfl ?_
        refine v_iload_n h dX6_lay_43 2 rfl 44 rfl ?_
        refine v_iadd h dX6_lay_44 45 rfl ?_
        refine v_aload_n h dX6_lay_45 0 rfl 46 rfl ?_
        refine v_get h (v := .ref (ad 1)) dX6_lay_46 iX6_lay_X6 0 rfl rfl 0 (by decide) (zwi 1 rfl) rfl 49 rfl ?_
        refine v_get h (v := .int v.1.1) dX6_lay_49 iX6_lay_X1 1 rfl rfl 0 (by decide) (zwi 4 rfl) rfl 52 rfl ?_
        refine v_icmp_le h dX6_lay_52 58 (by decide) 55 rfl (fun c7 => ?_) (fun c7 => ?_)
        · replace hf := zt c7 hf
          refine v_aload_n h dX6_lay_58 0 rfl 59 rfl ?_
          refine v_get h (v := .ref (ad 1)) dX6_lay_59 iX6_lay_X6 0 rfl rfl 0 (by decide) (zwi 1 rfl) rfl 62 rfl ?_
          obtain ⟨u8, hu8, hf⟩ := zb hf
          refine v_gcallVv h (rest := []) dX6_lay_62 (tX1_remember l G ca (fun i => ad (1 + i)) v.1  hu8) gX6_lay_X1_remember rfl rfl ⟨rfl, rfl⟩ nX1_remember ⟨Nat.le_of_ble_eq_true rfl, Nat.le_of_ble_eq_true rfl⟩ (List.range' 1 49) (seg_at 1 49 rfl rfl) (nd_range 1 49) 0 rfl rfl rfl rfl (Nat.le_of_ble_eq_true rfl) ⟨Nat.zero_le _, Nat.zero_le _⟩ (wX ca ad (u8, v.2)) (seg_get (k := 1) (n := 49) rfl rfl (Nat.le_of_ble_eq_true rfl)) (wX_adr _ _ _ _) 65 rfl ?_
          refine v_aload_n h dX6_lay_65 3 rfl 66 rfl ?_
          refine v_iload_n h dX6_lay_66 1 rfl 67 rfl ?_
          refine v_iload_n h dX6_lay_67 2 rfl 68 rfl ?_
          refine v_iconst h dX6_lay_68 0 rfl 69 rfl ?_
          obtain ⟨u9, hu9, hf⟩ := zb hf
          refine v_callVv h (rest := []) dX6_lay_69 (tX0_putOver l G ca (fun i => ad (4 + i)) u8.2.2.1 x1 x2 0 hu9) gX6_lay_X0_putOver rfl rfl ⟨rfl, rfl⟩ nX0_putOver ⟨Nat.le_of_ble_eq_true rfl, Nat.le_of_ble_eq_true rfl⟩ [4, 5, 6, 7, 8] rfl rfl 0 rfl rfl rfl rfl (Nat.le_of_ble_eq_true rfl) ⟨Nat.zero_le _, Nat.zero_le _⟩ rfl (wX ca ad ((u8.1, u8.2.1, u9, u8.2.2.2), v.2)) rfl (wX_adr _ _ _ _) 72 rfl ?_
          refine v_aload_n h dX6_lay_72 3 rfl 73 rfl ?_
          refine v_get h (v := .int u9.2.2.2.2.1) dX6_lay_73 iX6_lay_X0 4 rfl rfl 4 (by decide) (zwi 3 rfl) rfl 76 rfl ?_
          refine v_iconst h dX6_lay_76 1 rfl 77 rfl ?_
          refine v_isub h dX6_lay_77 78 rfl ?_
          cases (Option.some.inj hf)
          exact hE 78 _ rfl dX6_lay_78
        · replace hf := zf c7 hf
          refine v_bipush h dX6_lay_55 (-2) rfl 57 rfl ?_
          cases (Option.some.inj hf)
          exact hE 57 _ rfl dX6_lay_57
      · replace hf := zf c5 hf
        refine v_bipush h dX6_lay_36 (-3) rfl 38 rfl ?_
        cases (Option.some.inj hf)
        exact hE 38 _ rfl dX6_lay_38
    · replace hf := zf c4 hf
      refine v_iconst h dX6_lay_17 (-1) rfl 18 rfl ?_
      cases (Option.some.inj hf)
      exact hE 18 _ rfl dX6_lay_18
abbrev rX6_strip : Room := { frames := 4, cells := 0, slots := 0, locals := 80 }
theorem nX6_strip : zNoMH yX6_strip 1 := ⟨by decide +kernel, by decide +kernel, by decide +kernel⟩
theorem iX6_strip_X6 : ∀ w ∈ wsX60, w ∈ wsX6_strip := fun _ h => (List.mem_cons_of_mem _ (List.mem_append_left _ (List.mem_append_left _ (List.mem_append_right _ h))))
theorem iX6_strip_X1 : ∀ w ∈ wsX10, w ∈ wsX6_strip := fun _ h => (List.mem_cons_of_mem _ (List.mem_append_left _ (List.mem_append_right _ h)))
theorem iX6_strip_X0 : ∀ w ∈ wsX00, w ∈ wsX6_strip := fun _ h => (List.mem_cons_of_mem _ (List.mem_append_right _ h))
def fX6_strip (v : XV) (x1 : Int32) : Option (Int32 × HV) := ((fX6_outside x1 1 10) : Option Int32).bind (fun u1 => if u1 = 0 then (if x1 ≤ v.1.2.2.1.2.2.2.2.1 then (((fX1_remember v.1) : Option HV).bind (fun u4 => some ((u4.2.2.1.2.2.2.2.1 - x1), (u4.1, u4.2.1, (u4.2.2.1.1, u4.2.2.1.2.1, u4.2.2.1.2.2.1, u4.2.2.1.2.2.2.1, (u4.2.2.1.2.2.2.2.1 - x1), u4.2.2.1.2.2.2.2.2), u4.2.2.2)))) else (some ((-2), v.1))) else (some ((-1), v.1)))
set_option maxRecDepth 100000 in
set_option maxHeartbeats 4000000 in
theorem tX6_strip (l : Launch) (G : va_G) (ca : Nat → ClassId) (ad : Nat → Nat) (v : XV) (x1 : Int32) {o : (Int32 × HV)} (hf : fX6_strip v x1 = some o) : zMi l yX6_strip wsX6_strip rX6_strip G ca [.ref (ad 0), .int x1] (wX ca ad v) o.1 (wX ca ad (o.2, v.2)) := by
  refine zMi.of (cc := cX6_strip) (nL := 2) (own := RX6) (ty := .int) (by decide) rfl rfl (Nat.le_of_ble_eq_true rfl) (fun X h hE => ?_)
  show V X G 2 0 0 (wX ca ad v) 0 [(0, .ref (ad 0)), (1, .int x1)] []
  unfold fX6_strip at hf
  refine v_iload_n h dX6_strip_0 1 rfl 1 rfl ?_
  refine v_iconst h dX6_strip_1 1 rfl 2 rfl ?_
  refine v_bipush h dX6_strip_2 10 rfl 4 rfl ?_
  obtain ⟨u1, hu1, hf⟩ := zb hf
  refine v_callSi h (rest := []) dX6_strip_4 (tX6_outside l G ca   x1 1 10 hu1) gX6_strip_X6_outside rfl ⟨rfl, rfl⟩ nX6_outside ⟨Nat.le_of_ble_eq_true rfl, Nat.le_of_ble_eq_true rfl⟩ [] rfl rfl rfl rfl (Nat.le_of_ble_eq_true rfl) ⟨Nat.zero_le _, Nat.zero_le _⟩ rfl (wX ca ad v) rfl (wX_adr _ _ _ _) 7 rfl ?_
  refine v_if_eq h dX6_strip_7 12 (by decide) 10 rfl (fun c2 => ?_) (fun c2 => ?_)
  · replace hf := zt c2 hf
    refine v_iload_n h dX6_strip_12 1 rfl 13 rfl ?_
    refine v_aload_n h dX6_strip_13 0 rfl 14 rfl ?_
    refine v_get h (v := .ref (ad 1)) dX6_strip_14 iX6_strip_X6 0 rfl rfl 0 (by decide) (zwi 1 rfl) rfl 17 rfl ?_
    refine v_get h (v := .ref (ad 4)) dX6_strip_17 iX6_strip_X1 1 rfl rfl 2 (by decide) (zwi 2 rfl) rfl 20 rfl ?_
    refine v_get h (v := .int v.1.2.2.1.2.2.2.2.1) dX6_strip_20 iX6_strip_X0 4 rfl rfl 4 (by decide) (zwi 3 rfl) rfl 23 rfl ?_
    refine v_icmp_le h dX6_strip_23 29 (by decide) 26 rfl (fun c3 => ?_) (fun c3 => ?_)
    · replace hf := zt c3 hf
      refine v_aload_n h dX6_strip_29 0 rfl 30 rfl ?_
      refine v_get h (v := .ref (ad 1)) dX6_strip_30 iX6_strip_X6 0 rfl rfl 0 (by decide) (zwi 1 rfl) rfl 33 rfl ?_
      obtain ⟨u4, hu4, hf⟩ := zb hf
      refine v_gcallVv h (rest := []) dX6_strip_33 (tX1_remember l G ca (fun i => ad (1 + i)) v.1  hu4) gX6_strip_X1_remember rfl rfl ⟨rfl, rfl⟩ nX1_remember ⟨Nat.le_of_ble_eq_true rfl, Nat.le_of_ble_eq_true rfl⟩ (List.range' 1 49) (seg_at 1 49 rfl rfl) (nd_range 1 49) 0 rfl rfl rfl rfl (Nat.le_of_ble_eq_true rfl) ⟨Nat.zero_le _, Nat.zero_le _⟩ (wX ca ad (u4, v.2)) (seg_get (k := 1) (n := 49) rfl rfl (Nat.le_of_ble_eq_true rfl)) (wX_adr _ _ _ _) 36 rfl ?_
      refine v_aload_n h dX6_strip_36 0 rfl 37 rfl ?_
      refine v_get h (v := .ref (ad 1)) dX6_strip_37 iX6_strip_X6 0 rfl rfl 0 (by decide) (zwi 1 rfl) rfl 40 rfl ?_
      refine v_get h (v := .ref (ad 4)) dX6_strip_40 iX6_strip_X1 1 rfl rfl 2 (by decide) (zwi 2 rfl) rfl 43 rfl ?_
      refine v_dup h dX6_strip_43 rfl 44 rfl ?_
      refine v_get h (v := .int u4.2.2.1.2.2.2.2.1) dX6_strip_44 iX6_strip_X0 4 rfl rfl 4 (by decide) (zwi 3 rfl) rfl 47 rfl ?_
      refine v_iload_n h dX6_strip_47 1 rfl 48 rfl ?_
      refine v_isub h dX6_strip_48 49 rfl ?_
      refine v_put h dX6_strip_49 iX6_strip_X0 tyX0 tyX0_ok nmX0 4 rfl rfl 4 (by decide) (zwi 3 rfl) rfl rfl rfl (Nat.le_of_ble_eq_true rfl) (wX ca ad ((u4.1, u4.2.1, (u4.2.2.1.1, u4.2.2.1.2.1, u4.2.2.1.2.2.1, u4.2.2.1.2.2.2.1, (u4.2.2.1.2.2.2.2.1 - x1), u4.2.2.1.2.2.2.2.2), u4.2.2.2), v.2)) rfl 52 rfl ?_
      refine v_aload_n h dX6_strip_52 0 rfl 53 rfl ?_
      refine v_get h (v := .ref (ad 1)) dX6_strip_53 iX6_strip_X6 0 rfl rfl 0 (by decide) (zwi 1 rfl) rfl 56 rfl ?_
      refine v_get h (v := .ref (ad 4)) dX6_strip_56 iX6_strip_X1 1 rfl rfl 2 (by decide) (zwi 2 rfl) rfl 59 rfl ?_
      refine v_get h (v := .int (u4.2.2.1.2.2.2.2.1 - x1)) dX6_strip_59 iX6_strip_X0 4 rfl rfl 4 (by decide) (zwi 3 rfl) rfl 62 rfl ?_
      cases (Option.some.inj hf)
      exact hE 62 _ rfl dX6_strip_62
    · replace hf := zf c3 hf
      refine v_bipush h dX6_strip_26 (-2) rfl 28 rfl ?_
      cases (Option.some.inj hf)
      exact hE 28 _ rfl dX6_strip_28
  · replace hf := zf c2 hf
    refine v_iconst h dX6_strip_10 (-1) rfl 11 rfl ?_
    cases (Option.some.inj hf)
    exact hE 11 _ rfl dX6_strip_11
abbrev rX6_pull : Room := { frames := 4, cells := 0, slots := 0, locals := 80 }
theorem nX6_pull : zNoMH yX6_pull 2 := ⟨by decide +kernel, by decide +kernel, by decide +kernel⟩
theorem iX6_pull_X6 : ∀ w ∈ wsX60, w ∈ wsX6_pull := fun _ h => (List.mem_cons_of_mem _ (List.mem_append_left _ (List.mem_append_left _ (List.mem_append_right _ h))))
theorem iX6_pull_X1 : ∀ w ∈ wsX10, w ∈ wsX6_pull := fun _ h => (List.mem_cons_of_mem _ (List.mem_append_left _ (List.mem_append_right _ h)))
theorem iX6_pull_X0 : ∀ w ∈ wsX00, w ∈ wsX6_pull := fun _ h => (List.mem_cons_of_mem _ (List.mem_append_right _ h))
def fX6_pull (v : XV) (x1 : Int32) (x2 : Int32) : Option (Int32 × HV) := ((fX0_has v.1.2.2.1 x1) : Option Int32).bind (fun u1 => if u1 = 0 then (some ((-1), v.1)) else (((fX6_outside x2 1 20) : Option Int32).bind (fun u3 => if u3 = 0 then (zgrd (zix x1 10) (if 1 < (zgt v.1.2.2.1.2.1 x1) then (((fX1_remember v.1) : Option HV).bind (fun u7 => some ((zgt (zpt u7.2.2.1.2.1 x1 (if (1 : Int32) < ((zgt u7.2.2.1.2.1 x1) - x2) then ((zgt u7.2.2.1.2.1 x1) - x2) else 1)) x1), (u7.1, u7.2.1, (u7.2.2.1.1, (zpt u7.2.2.1.2.1 x1 (if (1 : Int32) < ((zgt u7.2.2.1.2.1 x1) - x2) then ((zgt u7.2.2.1.2.1 x1) - x2) else 1)), u7.2.2.1.2.2), u7.2.2.2)))) else (some ((-2), v.1)))) else (some ((-1), v.1)))))
set_option maxRecDepth 100000 in
set_option maxHeartbeats 4000000 in
theorem tX6_pull (l : Launch) (G : va_G) (ca : Nat → ClassId) (ad : Nat → Nat) (v : XV) (x1 : Int32) (x2 : Int32) {o : (Int32 × HV)} (hf : fX6_pull v x1 x2 = some o) : zMi l yX6_pull wsX6_pull rX6_pull G ca [.ref (ad 0), .int x1, .int x2] (wX ca ad v) o.1 (wX ca ad (o.2, v.2)) := by
  refine zMi.of (cc := cX6_pull) (nL := 4) (own := RX6) (ty := .int) (by decide) rfl rfl (Nat.le_of_ble_eq_true rfl) (fun X h hE => ?_)
  show V X G 4 0 0 (wX ca ad v) 0 [(0, .ref (ad 0)), (1, .int x1), (2, .int x2)] []
  unfold fX6_pull at hf
  refine v_aload_n h dX6_pull_0 0 rfl 1 rfl ?_
  refine v_get h (v := .ref (ad 1)) dX6_pull_1 iX6_pull_X6 0 rfl rfl 0 (by decide) (zwi 1 rfl) rfl 4 rfl ?_
  refine v_get h (v := .ref (ad 4)) dX6_pull_4 iX6_pull_X1 1 rfl rfl 2 (by decide) (zwi 2 rfl) rfl 7 rfl ?_
  refine v_astore_n h dX6_pull_7 (Nat.le_of_ble_eq_true rfl) rfl rfl [(0, .ref (ad 0)), (1, .int x1), (2, .int x2), (3, .ref (ad 4))] rfl 8 rfl ?_
  refine v_aload_n h dX6_pull_8 3 rfl 9 rfl ?_
  refine v_iload_n h dX6_pull_9 1 rfl 10 rfl ?_
  obtain ⟨u1, hu1, hf⟩ := zb hf
  refine v_callVi h (rest := []) dX6_pull_10 (tX0_has l G ca (fun i => ad (4 + i)) v.1.2.2.1 x1 hu1) gX6_pull_X0_has rfl rfl ⟨rfl, rfl⟩ nX0_has ⟨Nat.le_of_ble_eq_true rfl, Nat.le_of_ble_eq_true rfl⟩ [4, 5, 6, 7, 8] rfl rfl 0 rfl rfl rfl rfl (Nat.le_of_ble_eq_true rfl) ⟨Nat.zero_le _, Nat.zero_le _⟩ rfl (wX ca ad v) rfl (wX_adr _ _ _ _) 13 rfl ?_
  refine v_if_eq h dX6_pull_13 26 (by decide) 16 rfl (fun c2 => ?_) (fun c2 => ?_)
  · replace hf := zt c2 hf
    refine v_iconst h dX6_pull_26 (-1) rfl 27 rfl ?_
    cases (Option.some.inj hf)
    exact hE 27 _ rfl dX6_pull_27
  · replace hf := zf c2 hf
    refine v_iload_n h dX6_pull_16 2 rfl 17 rfl ?_
    refine v_iconst h dX6_pull_17 1 rfl 18 rfl ?_
    refine v_bipush h dX6_pull_18 20 rfl 20 rfl ?_
    obtain ⟨u3, hu3, hf⟩ := zb hf
    refine v_callSi h (rest := []) dX6_pull_20 (tX6_outside l G ca   x2 1 20 hu3) gX6_pull_X6_outside rfl ⟨rfl, rfl⟩ nX6_outside ⟨Nat.le_of_ble_eq_true rfl, Nat.le_of_ble_eq_true rfl⟩ [] rfl rfl rfl rfl (Nat.le_of_ble_eq_true rfl) ⟨Nat.zero_le _, Nat.zero_le _⟩ rfl (wX ca ad v) rfl (wX_adr _ _ _ _) 23 rfl ?_
    refine v_if_eq h dX6_pull_23 28 (by decide) 26 rfl (fun c4 => ?_) (fun c4 => ?_)
    · replace hf := zt c4 hf
      refine v_aload_n h dX6_pull_28 3 rfl 29 rfl ?_
      refine v_get h (v := .ref (ad 6)) dX6_pull_29 iX6_pull_X0 4 rfl rfl 1 (by decide) (zwi 3 rfl) rfl 32 rfl ?_
      refine v_iload_n h dX6_pull_32 1 rfl 33 rfl ?_
      obtain ⟨g5, hf⟩ := zg hf
      refine v_iald h (f := v.1.2.2.1.2.1) dX6_pull_33 6 0 rfl rfl (zix_in g5) 34 rfl ?_
      refine v_iconst h dX6_pull_34 1 rfl 35 rfl ?_
      refine v_icmp_gt h dX6_pull_35 41 (by decide) 38 rfl (fun c6 => ?_) (fun c6 => ?_)
      · replace hf := zt c6 hf
        refine v_aload_n h dX6_pull_41 0 rfl 42 rfl ?_
        refine v_get h (v := .ref (ad 1)) dX6_pull_42 iX6_pull_X6 0 rfl rfl 0 (by decide) (zwi 1 rfl) rfl 45 rfl ?_
        obtain ⟨u7, hu7, hf⟩ := zb hf
        refine v_gcallVv h (rest := []) dX6_pull_45 (tX1_remember l G ca (fun i => ad (1 + i)) v.1  hu7) gX6_pull_X1_remember rfl rfl ⟨rfl, rfl⟩ nX1_remember ⟨Nat.le_of_ble_eq_true rfl, Nat.le_of_ble_eq_true rfl⟩ (List.range' 1 49) (seg_at 1 49 rfl rfl) (nd_range 1 49) 0 rfl rfl rfl rfl (Nat.le_of_ble_eq_true rfl) ⟨Nat.zero_le _, Nat.zero_le _⟩ (wX ca ad (u7, v.2)) (seg_get (k := 1) (n := 49) rfl rfl (Nat.le_of_ble_eq_true rfl)) (wX_adr _ _ _ _) 48 rfl ?_
        refine v_aload_n h dX6_pull_48 3 rfl 49 rfl ?_
        refine v_get h (v := .ref (ad 6)) dX6_pull_49 iX6_pull_X0 4 rfl rfl 1 (by decide) (zwi 3 rfl) rfl 52 rfl ?_
        refine v_iload_n h dX6_pull_52 1 rfl 53 rfl ?_
        refine v_iconst h dX6_pull_53 1 rfl 54 rfl ?_
        refine v_aload_n h dX6_pull_54 3 rfl 55 rfl ?_
        refine v_get h (v := .ref (ad 6)) dX6_pull_55 iX6_pull_X0 4 rfl rfl 1 (by decide) (zwi 3 rfl) rfl 58 rfl ?_
        refine v_iload_n h dX6_pull_58 1 rfl 59 rfl ?_
        refine v_iald h (f := u7.2.2.1.2.1) dX6_pull_59 6 0 rfl rfl (zix_in g5) 60 rfl ?_
        refine v_iload_n h dX6_pull_60 2 rfl 61 rfl ?_
        refine v_isub h dX6_pull_61 62 rfl ?_
        refine v_mmax h dX6_pull_62 (zwi 4 rfl) (zwi 5 rfl) (zwi 6 rfl) (zwi 7 rfl) (Nat.le_of_ble_eq_true rfl) (Nat.le_of_ble_eq_true rfl) (Nat.zero_le _) (Nat.zero_le _) 65 rfl ?_
        refine v_iast h (f := u7.2.2.1.2.1) dX6_pull_65 6 0 rfl rfl (zix_in g5) (wX ca ad ((u7.1, u7.2.1, (u7.2.2.1.1, (zpt u7.2.2.1.2.1 x1 (if (1 : Int32) < ((zgt u7.2.2.1.2.1 x1) - x2) then ((zgt u7.2.2.1.2.1 x1) - x2) else 1)), u7.2.2.1.2.2), u7.2.2.2), v.2)) rfl 66 rfl ?_
        refine v_aload_n h dX6_pull_66 3 rfl 67 rfl ?_
        refine v_get h (v := .ref (ad 6)) dX6_pull_67 iX6_pull_X0 4 rfl rfl 1 (by decide) (zwi 3 rfl) rfl 70 rfl ?_
        refine v_iload_n h dX6_pull_70 1 rfl 71 rfl ?_
        refine v_iald h (f := (zpt u7.2.2.1.2.1 x1 (if (1 : Int32) < ((zgt u7.2.2.1.2.1 x1) - x2) then ((zgt u7.2.2.1.2.1 x1) - x2) else 1))) dX6_pull_71 6 0 rfl rfl (zix_in g5) 72 rfl ?_
        cases (Option.some.inj hf)
        exact hE 72 _ rfl dX6_pull_72
      · replace hf := zf c6 hf
        refine v_bipush h dX6_pull_38 (-2) rfl 40 rfl ?_
        cases (Option.some.inj hf)
        exact hE 40 _ rfl dX6_pull_40
    · replace hf := zf c4 hf
      refine v_iconst h dX6_pull_26 (-1) rfl 27 rfl ?_
      cases (Option.some.inj hf)
      exact hE 27 _ rfl dX6_pull_27
abbrev rX6_fire : Room := { frames := 4, cells := 0, slots := 0, locals := 80 }
theorem nX6_fire : zNoMH yX6_fire 1 := ⟨by decide +kernel, by decide +kernel, by decide +kernel⟩
theorem iX6_fire_X6 : ∀ w ∈ wsX60, w ∈ wsX6_fire := fun _ h => (List.mem_cons_of_mem _ (List.mem_append_left _ (List.mem_append_left _ (List.mem_append_right _ h))))
theorem iX6_fire_X1 : ∀ w ∈ wsX10, w ∈ wsX6_fire := fun _ h => (List.mem_cons_of_mem _ (List.mem_append_left _ (List.mem_append_right _ h)))
theorem iX6_fire_X0 : ∀ w ∈ wsX00, w ∈ wsX6_fire := fun _ h => (List.mem_cons_of_mem _ (List.mem_append_right _ h))
def fX6_fire (v : XV) (x1 : Int32) : Option (Int32 × HV) := ((fX6_outside x1 0 999) : Option Int32).bind (fun u1 => if u1 = 0 then (((fX1_remember v.1) : Option HV).bind (fun u3 => ((fX0_burn u3.2.2.1 x1) : Option (Int32 × CV)).bind (fun u4 => some (u4.1, (u3.1, u3.2.1, u4.2, u3.2.2.2))))) else (some ((-1), v.1)))
set_option maxRecDepth 100000 in
set_option maxHeartbeats 4000000 in
theorem tX6_fire (l : Launch) (G : va_G) (ca : Nat → ClassId) (ad : Nat → Nat) (v : XV) (x1 : Int32) {o : (Int32 × HV)} (hf : fX6_fire v x1 = some o) : zMi l yX6_fire wsX6_fire rX6_fire G ca [.ref (ad 0), .int x1] (wX ca ad v) o.1 (wX ca ad (o.2, v.2)) := by
  refine zMi.of (cc := cX6_fire) (nL := 2) (own := RX6) (ty := .int) (by decide) rfl rfl (Nat.le_of_ble_eq_true rfl) (fun X h hE => ?_)
  show V X G 2 0 0 (wX ca ad v) 0 [(0, .ref (ad 0)), (1, .int x1)] []
  unfold fX6_fire at hf
  refine v_iload_n h dX6_fire_0 1 rfl 1 rfl ?_
  refine v_iconst h dX6_fire_1 0 rfl 2 rfl ?_
  refine v_sipush h dX6_fire_2 999 rfl 5 rfl ?_
  obtain ⟨u1, hu1, hf⟩ := zb hf
  refine v_callSi h (rest := []) dX6_fire_5 (tX6_outside l G ca   x1 0 999 hu1) gX6_fire_X6_outside rfl ⟨rfl, rfl⟩ nX6_outside ⟨Nat.le_of_ble_eq_true rfl, Nat.le_of_ble_eq_true rfl⟩ [] rfl rfl rfl rfl (Nat.le_of_ble_eq_true rfl) ⟨Nat.zero_le _, Nat.zero_le _⟩ rfl (wX ca ad v) rfl (wX_adr _ _ _ _) 8 rfl ?_
  refine v_if_eq h dX6_fire_8 13 (by decide) 11 rfl (fun c2 => ?_) (fun c2 => ?_)
  · replace hf := zt c2 hf
    refine v_aload_n h dX6_fire_13 0 rfl 14 rfl ?_
    refine v_get h (v := .ref (ad 1)) dX6_fire_14 iX6_fire_X6 0 rfl rfl 0 (by decide) (zwi 1 rfl) rfl 17 rfl ?_
    obtain ⟨u3, hu3, hf⟩ := zb hf
    refine v_gcallVv h (rest := []) dX6_fire_17 (tX1_remember l G ca (fun i => ad (1 + i)) v.1  hu3) gX6_fire_X1_remember rfl rfl ⟨rfl, rfl⟩ nX1_remember ⟨Nat.le_of_ble_eq_true rfl, Nat.le_of_ble_eq_true rfl⟩ (List.range' 1 49) (seg_at 1 49 rfl rfl) (nd_range 1 49) 0 rfl rfl rfl rfl (Nat.le_of_ble_eq_true rfl) ⟨Nat.zero_le _, Nat.zero_le _⟩ (wX ca ad (u3, v.2)) (seg_get (k := 1) (n := 49) rfl rfl (Nat.le_of_ble_eq_true rfl)) (wX_adr _ _ _ _) 20 rfl ?_
    refine v_aload_n h dX6_fire_20 0 rfl 21 rfl ?_
    refine v_get h (v := .ref (ad 1)) dX6_fire_21 iX6_fire_X6 0 rfl rfl 0 (by decide) (zwi 1 rfl) rfl 24 rfl ?_
    refine v_get h (v := .ref (ad 4)) dX6_fire_24 iX6_fire_X1 1 rfl rfl 2 (by decide) (zwi 2 rfl) rfl 27 rfl ?_
    refine v_iload_n h dX6_fire_27 1 rfl 28 rfl ?_
    obtain ⟨u4, hu4, hf⟩ := zb hf
    refine v_callVi h (rest := []) dX6_fire_28 (tX0_burn l G ca (fun i => ad (4 + i)) u3.2.2.1 x1 hu4) gX6_fire_X0_burn rfl rfl ⟨rfl, rfl⟩ nX0_burn ⟨Nat.le_of_ble_eq_true rfl, Nat.le_of_ble_eq_true rfl⟩ [4, 5, 6, 7, 8] rfl rfl 0 rfl rfl rfl rfl (Nat.le_of_ble_eq_true rfl) ⟨Nat.zero_le _, Nat.zero_le _⟩ rfl (wX ca ad ((u3.1, u3.2.1, u4.2, u3.2.2.2), v.2)) rfl (wX_adr _ _ _ _) 31 rfl ?_
    cases (Option.some.inj hf)
    exact hE 31 _ rfl dX6_fire_31
  · replace hf := zf c2 hf
    refine v_iconst h dX6_fire_11 (-1) rfl 12 rfl ?_
    cases (Option.some.inj hf)
    exact hE 12 _ rfl dX6_fire_12
abbrev rX6_drift : Room := { frames := 5, cells := 0, slots := 0, locals := 104 }
theorem nX6_drift : zNoMH yX6_drift 1 := ⟨by decide +kernel, by decide +kernel, by decide +kernel⟩
theorem iX6_drift_X6 : ∀ w ∈ wsX60, w ∈ wsX6_drift := fun _ h => (List.mem_cons_of_mem _ (List.mem_append_left _ (List.mem_append_left _ (List.mem_append_left _ (List.mem_append_right _ h)))))
theorem iX6_drift_X1 : ∀ w ∈ wsX10, w ∈ wsX6_drift := fun _ h => (List.mem_cons_of_mem _ (List.mem_append_left _ (List.mem_append_left _ (List.mem_append_right _ h))))
theorem iX6_drift_X0 : ∀ w ∈ wsX00, w ∈ wsX6_drift := fun _ h => (List.mem_cons_of_mem _ (List.mem_append_left _ (List.mem_append_right _ h)))
theorem iX6_drift_X5 : ∀ w ∈ wsX50, w ∈ wsX6_drift := fun _ h => (List.mem_cons_of_mem _ (List.mem_append_right _ h))
def fX6_drift (v : XV) (x1 : Int32) : Option (Int32 × HV) := ((fX6_refuseYears v x1) : Option Int32).bind (fun u1 => if 0 ≤ u1 then (((fX6_liveThrough v x1 1) : Option (Int32 × HV)).bind (fun u3 => some (u3.1, u3.2))) else (some (u1, v.1)))
set_option maxRecDepth 100000 in
set_option maxHeartbeats 4000000 in
theorem tX6_drift (l : Launch) (G : va_G) (ca : Nat → ClassId) (ad : Nat → Nat) (v : XV) (x1 : Int32) {o : (Int32 × HV)} (hf : fX6_drift v x1 = some o) : zMi l yX6_drift wsX6_drift rX6_drift G ca [.ref (ad 0), .int x1] (wX ca ad v) o.1 (wX ca ad (o.2, v.2)) := by
  refine zMi.of (cc := cX6_drift) (nL := 3) (own := RX6) (ty := .int) (by decide) rfl rfl (Nat.le_of_ble_eq_true rfl) (fun X h hE => ?_)
  show V X G 3 0 0 (wX ca ad v) 0 [(0, .ref (ad 0)), (1, .int x1)] []
  unfold fX6_drift at hf
  refine v_aload_n h dX6_drift_0 0 rfl 1 rfl ?_
  refine v_iload_n h dX6_drift_1 1 rfl 2 rfl ?_
  obtain ⟨u1, hu1, hf⟩ := zb hf
  refine v_wcallVi h (rest := []) dX6_drift_2 (tX6_refuseYears l G ca ad v x1 hu1) gX6_drift_X6_refuseYears rfl rfl ⟨rfl, rfl⟩ nX6_refuseYears ⟨Nat.le_of_ble_eq_true rfl, Nat.le_of_ble_eq_true rfl⟩ 0 rfl rfl rfl rfl (Nat.le_of_ble_eq_true rfl) ⟨Nat.zero_le _, Nat.zero_le _⟩ (wX_adr _ _ _ _) 5 rfl ?_
  refine v_istore_n h dX6_drift_5 (Nat.le_of_ble_eq_true rfl) rfl rfl [(0, .ref (ad 0)), (1, .int x1), (2, .int u1)] rfl 6 rfl ?_
  refine v_iload_n h dX6_drift_6 2 rfl 7 rfl ?_
  refine v_if_ge h dX6_drift_7 14 (by decide) 10 rfl (fun c2 => ?_) (fun c2 => ?_)
  · replace hf := zt c2 hf
    refine v_aload_n h dX6_drift_14 0 rfl 15 rfl ?_
    refine v_iload_n h dX6_drift_15 1 rfl 16 rfl ?_
    refine v_iconst h dX6_drift_16 1 rfl 17 rfl ?_
    obtain ⟨u3, hu3, hf⟩ := zb hf
    refine v_wcallVi h (rest := []) dX6_drift_17 (tX6_liveThrough l G ca ad v x1 1 hu3) gX6_drift_X6_liveThrough rfl rfl ⟨rfl, rfl⟩ nX6_liveThrough ⟨Nat.le_of_ble_eq_true rfl, Nat.le_of_ble_eq_true rfl⟩ 0 rfl rfl rfl rfl (Nat.le_of_ble_eq_true rfl) ⟨Nat.zero_le _, Nat.zero_le _⟩ (wX_adr _ _ _ _) 20 rfl ?_
    cases (Option.some.inj hf)
    exact hE 20 _ rfl dX6_drift_20
  · replace hf := zf c2 hf
    refine v_iload_n h dX6_drift_10 2 rfl 11 rfl ?_
    refine v_goto h dX6_drift_11 20 (by decide) ?_
    cases (Option.some.inj hf)
    exact hE 20 _ rfl dX6_drift_20
abbrev rX6_undo : Room := { frames := 4, cells := 0, slots := 0, locals := 80 }
theorem nX6_undo : zNoMH yX6_undo 0 := ⟨by decide +kernel, by decide +kernel, by decide +kernel⟩
theorem iX6_undo_X6 : ∀ w ∈ wsX60, w ∈ wsX6_undo := fun _ h => (List.mem_cons_of_mem _ (List.mem_append_left _ (List.mem_append_left _ (List.mem_append_right _ h))))
theorem iX6_undo_X1 : ∀ w ∈ wsX10, w ∈ wsX6_undo := fun _ h => (List.mem_cons_of_mem _ (List.mem_append_left _ (List.mem_append_right _ h)))
theorem iX6_undo_X0 : ∀ w ∈ wsX00, w ∈ wsX6_undo := fun _ h => (List.mem_cons_of_mem _ (List.mem_append_right _ h))
def fX6_undo (v : XV) : Option (Int32 × HV) := if v.1.2.2.2.2.1 = 0 then (some ((-4), v.1)) else (((fX1_goBack v.1) : Option HV).bind (fun u2 => some (u2.2.2.2.2.1, u2)))
set_option maxRecDepth 100000 in
set_option maxHeartbeats 4000000 in
theorem tX6_undo (l : Launch) (G : va_G) (ca : Nat → ClassId) (ad : Nat → Nat) (v : XV)  {o : (Int32 × HV)} (hf : fX6_undo v = some o) : zMi l yX6_undo wsX6_undo rX6_undo G ca [.ref (ad 0)] (wX ca ad v) o.1 (wX ca ad (o.2, v.2)) := by
  refine zMi.of (cc := cX6_undo) (nL := 1) (own := RX6) (ty := .int) (by decide) rfl rfl (Nat.le_of_ble_eq_true rfl) (fun X h hE => ?_)
  show V X G 1 0 0 (wX ca ad v) 0 [(0, .ref (ad 0))] []
  unfold fX6_undo at hf
  refine v_aload_n h dX6_undo_0 0 rfl 1 rfl ?_
  refine v_get h (v := .ref (ad 1)) dX6_undo_1 iX6_undo_X6 0 rfl rfl 0 (by decide) (zwi 1 rfl) rfl 4 rfl ?_
  refine v_get h (v := .int v.1.2.2.2.2.1) dX6_undo_4 iX6_undo_X1 1 rfl rfl 4 (by decide) (zwi 2 rfl) rfl 7 rfl ?_
  refine v_if_ne h dX6_undo_7 13 (by decide) 10 rfl (fun c1 => ?_) (fun c1 => ?_)
  · replace hf := zf c1 hf
    refine v_aload_n h dX6_undo_13 0 rfl 14 rfl ?_
    refine v_get h (v := .ref (ad 1)) dX6_undo_14 iX6_undo_X6 0 rfl rfl 0 (by decide) (zwi 1 rfl) rfl 17 rfl ?_
    obtain ⟨u2, hu2, hf⟩ := zb hf
    refine v_gcallVv h (rest := []) dX6_undo_17 (tX1_goBack l G ca (fun i => ad (1 + i)) v.1  hu2) gX6_undo_X1_goBack rfl rfl ⟨rfl, rfl⟩ nX1_goBack ⟨Nat.le_of_ble_eq_true rfl, Nat.le_of_ble_eq_true rfl⟩ (List.range' 1 49) (seg_at 1 49 rfl rfl) (nd_range 1 49) 0 rfl rfl rfl rfl (Nat.le_of_ble_eq_true rfl) ⟨Nat.zero_le _, Nat.zero_le _⟩ (wX ca ad (u2, v.2)) (seg_get (k := 1) (n := 49) rfl rfl (Nat.le_of_ble_eq_true rfl)) (wX_adr _ _ _ _) 20 rfl ?_
    refine v_aload_n h dX6_undo_20 0 rfl 21 rfl ?_
    refine v_get h (v := .ref (ad 1)) dX6_undo_21 iX6_undo_X6 0 rfl rfl 0 (by decide) (zwi 1 rfl) rfl 24 rfl ?_
    refine v_get h (v := .int u2.2.2.2.2.1) dX6_undo_24 iX6_undo_X1 1 rfl rfl 4 (by decide) (zwi 2 rfl) rfl 27 rfl ?_
    cases (Option.some.inj hf)
    exact hE 27 _ rfl dX6_undo_27
  · replace hf := zt c1 hf
    refine v_bipush h dX6_undo_10 (-4) rfl 12 rfl ?_
    cases (Option.some.inj hf)
    exact hE 12 _ rfl dX6_undo_12
abbrev rX6_seed : Room := { frames := 0, cells := 0, slots := 0, locals := 0 }
theorem nX6_seed : zNoMH yX6_seed 1 := ⟨by decide +kernel, by decide +kernel, by decide +kernel⟩
theorem iX6_seed_X6 : ∀ w ∈ wsX60, w ∈ wsX6_seed := fun _ h => (List.mem_cons_of_mem _ (List.mem_append_left _ (List.mem_append_left _ (List.mem_append_right _ h))))
theorem iX6_seed_X1 : ∀ w ∈ wsX10, w ∈ wsX6_seed := fun _ h => (List.mem_cons_of_mem _ (List.mem_append_left _ (List.mem_append_right _ h)))
theorem iX6_seed_X0 : ∀ w ∈ wsX00, w ∈ wsX6_seed := fun _ h => (List.mem_cons_of_mem _ (List.mem_append_right _ h))
def fX6_seed (v : XV) (x1 : Int32) : Option (Int32 × HV) := if 0 ≤ x1 then (some (v.1.2.2.1.2.2.2.2.2.2.2, (v.1.1, v.1.2.1, (v.1.2.2.1.1, v.1.2.2.1.2.1, v.1.2.2.1.2.2.1, v.1.2.2.1.2.2.2.1, v.1.2.2.1.2.2.2.2.1, v.1.2.2.1.2.2.2.2.2.1, v.1.2.2.1.2.2.2.2.2.2.1, x1), v.1.2.2.2))) else (some ((-1), v.1))
set_option maxRecDepth 100000 in
set_option maxHeartbeats 4000000 in
theorem tX6_seed (l : Launch) (G : va_G) (ca : Nat → ClassId) (ad : Nat → Nat) (v : XV) (x1 : Int32) {o : (Int32 × HV)} (hf : fX6_seed v x1 = some o) : zMi l yX6_seed wsX6_seed rX6_seed G ca [.ref (ad 0), .int x1] (wX ca ad v) o.1 (wX ca ad (o.2, v.2)) := by
  refine zMi.of (cc := cX6_seed) (nL := 3) (own := RX6) (ty := .int) (by decide) rfl rfl (Nat.le_of_ble_eq_true rfl) (fun X h hE => ?_)
  show V X G 3 0 0 (wX ca ad v) 0 [(0, .ref (ad 0)), (1, .int x1)] []
  unfold fX6_seed at hf
  refine v_iload_n h dX6_seed_0 1 rfl 1 rfl ?_
  refine v_if_ge h dX6_seed_1 6 (by decide) 4 rfl (fun c1 => ?_) (fun c1 => ?_)
  · replace hf := zt c1 hf
    refine v_aload_n h dX6_seed_6 0 rfl 7 rfl ?_
    refine v_get h (v := .ref (ad 1)) dX6_seed_7 iX6_seed_X6 0 rfl rfl 0 (by decide) (zwi 1 rfl) rfl 10 rfl ?_
    refine v_get h (v := .ref (ad 4)) dX6_seed_10 iX6_seed_X1 1 rfl rfl 2 (by decide) (zwi 2 rfl) rfl 13 rfl ?_
    refine v_get h (v := .int v.1.2.2.1.2.2.2.2.2.2.2) dX6_seed_13 iX6_seed_X0 4 rfl rfl 7 (by decide) (zwi 3 rfl) rfl 16 rfl ?_
    refine v_istore_n h dX6_seed_16 (Nat.le_of_ble_eq_true rfl) rfl rfl [(0, .ref (ad 0)), (1, .int x1), (2, .int v.1.2.2.1.2.2.2.2.2.2.2)] rfl 17 rfl ?_
    refine v_aload_n h dX6_seed_17 0 rfl 18 rfl ?_
    refine v_get h (v := .ref (ad 1)) dX6_seed_18 iX6_seed_X6 0 rfl rfl 0 (by decide) (zwi 1 rfl) rfl 21 rfl ?_
    refine v_get h (v := .ref (ad 4)) dX6_seed_21 iX6_seed_X1 1 rfl rfl 2 (by decide) (zwi 2 rfl) rfl 24 rfl ?_
    refine v_iload_n h dX6_seed_24 1 rfl 25 rfl ?_
    refine v_put h dX6_seed_25 iX6_seed_X0 tyX0 tyX0_ok nmX0 4 rfl rfl 7 (by decide) (zwi 3 rfl) rfl rfl rfl (Nat.le_of_ble_eq_true rfl) (wX ca ad ((v.1.1, v.1.2.1, (v.1.2.2.1.1, v.1.2.2.1.2.1, v.1.2.2.1.2.2.1, v.1.2.2.1.2.2.2.1, v.1.2.2.1.2.2.2.2.1, v.1.2.2.1.2.2.2.2.2.1, v.1.2.2.1.2.2.2.2.2.2.1, x1), v.1.2.2.2), v.2)) rfl 28 rfl ?_
    refine v_iload_n h dX6_seed_28 2 rfl 29 rfl ?_
    cases (Option.some.inj hf)
    exact hE 29 _ rfl dX6_seed_29
  · replace hf := zf c1 hf
    refine v_iconst h dX6_seed_4 (-1) rfl 5 rfl ?_
    cases (Option.some.inj hf)
    exact hE 5 _ rfl dX6_seed_5
