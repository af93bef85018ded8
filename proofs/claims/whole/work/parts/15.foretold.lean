abbrev rX6_startTrial : Room := { frames := 3, cells := 0, slots := 0, locals := 60 }
theorem nX6_startTrial : zNoMH yX6_startTrial 0 := ⟨by decide +kernel, by decide +kernel, by decide +kernel⟩
theorem iX6_startTrial_X6 : ∀ w ∈ wsX60, w ∈ wsX6_startTrial := fun _ h => (List.mem_cons_of_mem _ (List.mem_append_left _ (List.mem_append_left _ (List.mem_append_right _ h))))
theorem iX6_startTrial_X1 : ∀ w ∈ wsX10, w ∈ wsX6_startTrial := fun _ h => (List.mem_cons_of_mem _ (List.mem_append_left _ (List.mem_append_right _ h)))
theorem iX6_startTrial_X0 : ∀ w ∈ wsX00, w ∈ wsX6_startTrial := fun _ h => (List.mem_cons_of_mem _ (List.mem_append_right _ h))
def fX6_startTrial (v : XV) : Option CV := ((fX0_become v.2.2.1 v.1.2.2.1) : Option CV).bind (fun u1 => some u1)
set_option maxRecDepth 100000 in
set_option maxHeartbeats 4000000 in
theorem tX6_startTrial (l : Launch) (G : va_G) (ca : Nat → ClassId) (ad : Nat → Nat) (v : XV)  {o : CV} (hf : fX6_startTrial v = some o) : zMv l yX6_startTrial wsX6_startTrial rX6_startTrial G ca [.ref (ad 0)] (wX ca ad v) (wX ca ad (v.1, v.2.1, o, v.2.2.2)) := by
  refine zMv.of (cc := cX6_startTrial) (nL := 1) (own := RX6) (by decide) rfl rfl (Nat.le_of_ble_eq_true rfl) (fun X h hE => ?_)
  show V X G 1 0 0 (wX ca ad v) 0 [(0, .ref (ad 0))] []
  unfold fX6_startTrial at hf
  refine v_aload_n h dX6_startTrial_0 0 rfl 1 rfl ?_
  refine v_get h (v := .ref (ad 99)) dX6_startTrial_1 iX6_startTrial_X6 0 rfl rfl 2 (by decide) (zwi 1 rfl) rfl 4 rfl ?_
  refine v_aload_n h dX6_startTrial_4 0 rfl 5 rfl ?_
  refine v_get h (v := .ref (ad 1)) dX6_startTrial_5 iX6_startTrial_X6 0 rfl rfl 0 (by decide) (zwi 2 rfl) rfl 8 rfl ?_
  refine v_get h (v := .ref (ad 4)) dX6_startTrial_8 iX6_startTrial_X1 1 rfl rfl 2 (by decide) (zwi 3 rfl) rfl 11 rfl ?_
  obtain ⟨u1, hu1, hf⟩ := zb hf
  refine v_gcallVv h (rest := []) dX6_startTrial_11 (tX0_become l G ca (fun i => ad (99 + i)) (fun i => ad (4 + i)) v.2.2.1 v.1.2.2.1  hu1) gX6_startTrial_X0_become rfl rfl ⟨rfl, rfl⟩ nX0_become ⟨Nat.le_of_ble_eq_true rfl, Nat.le_of_ble_eq_true rfl⟩ (List.range' 99 5 ++ List.range' 4 5) (seg2_at 99 5 4 5 rfl rfl rfl rfl) (nd_2 (by decide)) 0 rfl rfl rfl rfl (Nat.le_of_ble_eq_true rfl) ⟨Nat.zero_le _, Nat.zero_le _⟩ (wX ca ad (v.1, v.2.1, u1, v.2.2.2)) (seg2_get (k1 := 99) (n1 := 5) (k2 := 4) (n2 := 5) rfl rfl (Nat.le_of_ble_eq_true rfl) rfl rfl (Nat.le_of_ble_eq_true rfl)) (wX_adr _ _ _ _) 14 rfl ?_
  cases (Option.some.inj hf)
  exact hE 14 _ dX6_startTrial_14
abbrev rX6_yearOfTrial : Room := { frames := 3, cells := 0, slots := 0, locals := 66 }
theorem nX6_yearOfTrial : zNoMH yX6_yearOfTrial 0 := ⟨by decide +kernel, by decide +kernel, by decide +kernel⟩
theorem iX6_yearOfTrial_X6 : ∀ w ∈ wsX60, w ∈ wsX6_yearOfTrial := fun _ h => (List.mem_cons_of_mem _ (List.mem_append_left _ (List.mem_append_left _ (List.mem_append_left _ (List.mem_append_right _ h)))))
theorem iX6_yearOfTrial_X1 : ∀ w ∈ wsX10, w ∈ wsX6_yearOfTrial := fun _ h => (List.mem_cons_of_mem _ (List.mem_append_left _ (List.mem_append_left _ (List.mem_append_right _ h))))
theorem iX6_yearOfTrial_X0 : ∀ w ∈ wsX00, w ∈ wsX6_yearOfTrial := fun _ h => (List.mem_cons_of_mem _ (List.mem_append_left _ (List.mem_append_right _ h)))
theorem iX6_yearOfTrial_X5 : ∀ w ∈ wsX50, w ∈ wsX6_yearOfTrial := fun _ h => (List.mem_cons_of_mem _ (List.mem_append_right _ h))
def fX6_yearOfTrial (v : XV) : Option (Int32 × CV) := ((fX5_inYear v.1.2.1 v.2.2.1.2.2.2.2.2.1) : Option Int32).bind (fun u1 => ((fX0_passYear v.2.2.1 u1) : Option (Int32 × CV)).bind (fun u2 => some (u2.1, u2.2)))
set_option maxRecDepth 100000 in
set_option maxHeartbeats 4000000 in
theorem tX6_yearOfTrial (l : Launch) (G : va_G) (ca : Nat → ClassId) (ad : Nat → Nat) (v : XV)  {o : (Int32 × CV)} (hf : fX6_yearOfTrial v = some o) : zMi l yX6_yearOfTrial wsX6_yearOfTrial rX6_yearOfTrial G ca [.ref (ad 0)] (wX ca ad v) o.1 (wX ca ad (v.1, v.2.1, o.2, v.2.2.2)) := by
  refine zMi.of (cc := cX6_yearOfTrial) (nL := 1) (own := RX6) (ty := .int) (by decide) rfl rfl (Nat.le_of_ble_eq_true rfl) (fun X h hE => ?_)
  show V X G 1 0 0 (wX ca ad v) 0 [(0, .ref (ad 0))] []
  unfold fX6_yearOfTrial at hf
  refine v_aload_n h dX6_yearOfTrial_0 0 rfl 1 rfl ?_
  refine v_get h (v := .ref (ad 99)) dX6_yearOfTrial_1 iX6_yearOfTrial_X6 0 rfl rfl 2 (by decide) (zwi 1 rfl) rfl 4 rfl ?_
  refine v_aload_n h dX6_yearOfTrial_4 0 rfl 5 rfl ?_
  refine v_get h (v := .ref (ad 1)) dX6_yearOfTrial_5 iX6_yearOfTrial_X6 0 rfl rfl 0 (by decide) (zwi 2 rfl) rfl 8 rfl ?_
  refine v_get h (v := .ref (ad 2)) dX6_yearOfTrial_8 iX6_yearOfTrial_X1 1 rfl rfl 1 (by decide) (zwi 3 rfl) rfl 11 rfl ?_
  refine v_aload_n h dX6_yearOfTrial_11 0 rfl 12 rfl ?_
  refine v_get h (v := .ref (ad 99)) dX6_yearOfTrial_12 iX6_yearOfTrial_X6 0 rfl rfl 2 (by decide) (zwi 1 rfl) rfl 15 rfl ?_
  refine v_get h (v := .int v.2.2.1.2.2.2.2.2.1) dX6_yearOfTrial_15 iX6_yearOfTrial_X0 99 rfl rfl 5 (by decide) (zwi 4 rfl) rfl 18 rfl ?_
  obtain ⟨u1, hu1, hf⟩ := zb hf
  refine v_callVi h (rest := [.ref (ad 99)]) dX6_yearOfTrial_18 (tX5_inYear l G ca (fun i => ad (2 + i)) v.1.2.1 v.2.2.1.2.2.2.2.2.1 hu1) gX6_yearOfTrial_X5_inYear rfl rfl ⟨rfl, rfl⟩ nX5_inYear ⟨Nat.le_of_ble_eq_true rfl, Nat.le_of_ble_eq_true rfl⟩ [2, 3] rfl rfl 0 rfl rfl rfl rfl (Nat.le_of_ble_eq_true rfl) ⟨Nat.zero_le _, Nat.zero_le _⟩ rfl (wX ca ad v) rfl (wX_adr _ _ _ _) 21 rfl ?_
  obtain ⟨u2, hu2, hf⟩ := zb hf
  refine v_callVi h (rest := []) dX6_yearOfTrial_21 (tX0_passYear l G ca (fun i => ad (99 + i)) v.2.2.1 u1 hu2) gX6_yearOfTrial_X0_passYear rfl rfl ⟨rfl, rfl⟩ nX0_passYear ⟨Nat.le_of_ble_eq_true rfl, Nat.le_of_ble_eq_true rfl⟩ [99, 100, 101, 102, 103] rfl rfl 0 rfl rfl rfl rfl (Nat.le_of_ble_eq_true rfl) ⟨Nat.zero_le _, Nat.zero_le _⟩ rfl (wX ca ad (v.1, v.2.1, u2.2, v.2.2.2)) rfl (wX_adr _ _ _ _) 24 rfl ?_
  cases (Option.some.inj hf)
  exact hE 24 _ rfl dX6_yearOfTrial_24
abbrev rX6_leaksOfTrialUpTo : Room := { frames := 4, cells := 0, slots := 0, locals := 86 }
theorem nX6_leaksOfTrialUpTo : zNoMH yX6_leaksOfTrialUpTo 2 := ⟨by decide +kernel, by decide +kernel, by decide +kernel⟩
theorem iX6_leaksOfTrialUpTo_X6 : ∀ w ∈ wsX60, w ∈ wsX6_leaksOfTrialUpTo := fun _ h => (List.mem_cons_of_mem _ (List.mem_append_left _ (List.mem_append_left _ (List.mem_append_left _ (List.mem_append_right _ h)))))
theorem iX6_leaksOfTrialUpTo_X1 : ∀ w ∈ wsX10, w ∈ wsX6_leaksOfTrialUpTo := fun _ h => (List.mem_cons_of_mem _ (List.mem_append_left _ (List.mem_append_left _ (List.mem_append_right _ h))))
theorem iX6_leaksOfTrialUpTo_X0 : ∀ w ∈ wsX00, w ∈ wsX6_leaksOfTrialUpTo := fun _ h => (List.mem_cons_of_mem _ (List.mem_append_left _ (List.mem_append_right _ h)))
theorem iX6_leaksOfTrialUpTo_X5 : ∀ w ∈ wsX50, w ∈ wsX6_leaksOfTrialUpTo := fun _ h => (List.mem_cons_of_mem _ (List.mem_append_right _ h))
def fX6_leaksOfTrialUpTo_L5 : Nat → XV → Int32 → Int32 → Int32 → Int32 → CV → Option (Int32 × CV)
  | 0, _, _, _, _, _, _ => none
  | n + 1, v, x1, x2, x3, x4, m2 => if x1 ≤ x4 then (some (x3, m2)) else (if x2 < x3 then (some (x3, m2)) else (((fX6_yearOfTrial (v.1, v.2.1, m2, v.2.2.2)) : Option (Int32 × CV)).bind (fun u3 => fX6_leaksOfTrialUpTo_L5 n v x1 x2 (x3 + u3.1) (x4 + 1) u3.2)))
set_option maxRecDepth 100000 in
set_option maxHeartbeats 4000000 in
theorem tX6_leaksOfTrialUpTo_l5 {X : zX} {l : Launch} {G : va_G} {ca : Nat → ClassId} {ad : Nat → Nat} (h : zOk X l G ca cX6_leaksOfTrialUpTo RX6 wsX6_leaksOfTrialUpTo 5 rX6_leaksOfTrialUpTo) : ∀ (n : Nat) (v : XV) (x1 : Int32) (x2 : Int32) (x3 : Int32) (x4 : Int32) (m2 : CV) (out : (Int32 × CV)), fX6_leaksOfTrialUpTo_L5 n v x1 x2 x3 x4 m2 = some out → (V X G 5 0 0 (wX ca ad (v.1, v.2.1, out.2, v.2.2.2)) 29 [(3, .int out.1)] []) → V X G 5 0 0 (wX ca ad (v.1, v.2.1, m2, v.2.2.2)) 5 [(0, .ref (ad 0)), (1, .int x1), (2, .int x2), (3, .int x3), (4, .int x4)] [] := by
  intro n
  induction n with
  | zero => intro v x1 x2 x3 x4 m2 out hf; rw [fX6_leaksOfTrialUpTo_L5] at hf; cases hf
  | succ n ih =>
    intro v x1 x2 x3 x4 m2 out hf kx
    rw [fX6_leaksOfTrialUpTo_L5] at hf
    refine v_iload h dX6_leaksOfTrialUpTo_5 4 rfl 7 rfl ?_
    refine v_iload_n h dX6_leaksOfTrialUpTo_7 1 rfl 8 rfl ?_
    refine v_icmp_ge h dX6_leaksOfTrialUpTo_8 29 (by decide) 11 rfl (fun c1 => ?_) (fun c1 => ?_)
    · replace hf := zt c1 hf
      cases (Option.some.inj hf)
      exact v_sub [3] rfl (kx)
    · replace hf := zf c1 hf
      refine v_iload_n h dX6_leaksOfTrialUpTo_11 3 rfl 12 rfl ?_
      refine v_iload_n h dX6_leaksOfTrialUpTo_12 2 rfl 13 rfl ?_
      refine v_icmp_gt h dX6_leaksOfTrialUpTo_13 29 (by decide) 16 rfl (fun c2 => ?_) (fun c2 => ?_)
      · replace hf := zt c2 hf
        cases (Option.some.inj hf)
        exact v_sub [3] rfl (kx)
      · replace hf := zf c2 hf
        refine v_iload_n h dX6_leaksOfTrialUpTo_16 3 rfl 17 rfl ?_
        refine v_aload_n h dX6_leaksOfTrialUpTo_17 0 rfl 18 rfl ?_
        obtain ⟨u3, hu3, hf⟩ := zb hf
        refine v_wcallVi h (rest := [.int x3]) dX6_leaksOfTrialUpTo_18 (tX6_yearOfTrial l G ca ad (v.1, v.2.1, m2, v.2.2.2)  hu3) gX6_leaksOfTrialUpTo_X6_yearOfTrial rfl rfl ⟨rfl, rfl⟩ nX6_yearOfTrial ⟨Nat.le_of_ble_eq_true rfl, Nat.le_of_ble_eq_true rfl⟩ 0 rfl rfl rfl rfl (Nat.le_of_ble_eq_true rfl) ⟨Nat.zero_le _, Nat.zero_le _⟩ (wX_adr _ _ _ _) 21 rfl ?_
        refine v_iadd h dX6_leaksOfTrialUpTo_21 22 rfl ?_
        refine v_istore_n h dX6_leaksOfTrialUpTo_22 (Nat.le_of_ble_eq_true rfl) rfl rfl [(0, .ref (ad 0)), (1, .int x1), (2, .int x2), (3, .int (x3 + u3.1)), (4, .int x4)] rfl 23 rfl ?_
        refine v_iinc h dX6_leaksOfTrialUpTo_23 4 rfl (x4 + 1) rfl (Nat.le_of_ble_eq_true rfl) rfl rfl [(0, .ref (ad 0)), (1, .int x1), (2, .int x2), (3, .int (x3 + u3.1)), (4, .int (x4 + 1))] rfl 26 rfl ?_
        refine v_goto h dX6_leaksOfTrialUpTo_26 5 (by decide) ?_
        exact v_sub [0, 1, 2, 3, 4] rfl (ih v x1 x2 (x3 + u3.1) (x4 + 1) u3.2 _ hf kx)
def fX6_leaksOfTrialUpTo (v : XV) (x1 : Int32) (x2 : Int32) : Option (Int32 × CV) := ((fX6_leaksOfTrialUpTo_L5 zF v x1 x2 0 0 v.2.2.1) : Option (Int32 × CV)).bind (fun u1 => some (u1.1, u1.2))
set_option maxRecDepth 100000 in
set_option maxHeartbeats 4000000 in
theorem tX6_leaksOfTrialUpTo (l : Launch) (G : va_G) (ca : Nat → ClassId) (ad : Nat → Nat) (v : XV) (x1 : Int32) (x2 : Int32) {o : (Int32 × CV)} (hf : fX6_leaksOfTrialUpTo v x1 x2 = some o) : zMi l yX6_leaksOfTrialUpTo wsX6_leaksOfTrialUpTo rX6_leaksOfTrialUpTo G ca [.ref (ad 0), .int x1, .int x2] (wX ca ad v) o.1 (wX ca ad (v.1, v.2.1, o.2, v.2.2.2)) := by
  refine zMi.of (cc := cX6_leaksOfTrialUpTo) (nL := 5) (own := RX6) (ty := .int) (by decide) rfl rfl (Nat.le_of_ble_eq_true rfl) (fun X h hE => ?_)
  show V X G 5 0 0 (wX ca ad v) 0 [(0, .ref (ad 0)), (1, .int x1), (2, .int x2)] []
  unfold fX6_leaksOfTrialUpTo at hf
  refine v_iconst h dX6_leaksOfTrialUpTo_0 0 rfl 1 rfl ?_
  refine v_istore_n h dX6_leaksOfTrialUpTo_1 (Nat.le_of_ble_eq_true rfl) rfl rfl [(0, .ref (ad 0)), (1, .int x1), (2, .int x2), (3, .int 0)] rfl 2 rfl ?_
  refine v_iconst h dX6_leaksOfTrialUpTo_2 0 rfl 3 rfl ?_
  refine v_istore h dX6_leaksOfTrialUpTo_3 (Nat.le_of_ble_eq_true rfl) rfl rfl [(0, .ref (ad 0)), (1, .int x1), (2, .int x2), (3, .int 0), (4, .int 0)] rfl 5 rfl ?_
  obtain ⟨u1, hu1, hf⟩ := zb hf
  refine v_sub [0, 1, 2, 3, 4] rfl ?_
  refine tX6_leaksOfTrialUpTo_l5 h zF v x1 x2 0 0 v.2.2.1 _ hu1 ?_
  refine v_iload_n h dX6_leaksOfTrialUpTo_29 0 rfl 30 rfl ?_
  cases (Option.some.inj hf)
  exact hE 30 _ rfl dX6_leaksOfTrialUpTo_30
abbrev rX6_leaksOfTrial : Room := { frames := 5, cells := 0, slots := 0, locals := 110 }
theorem nX6_leaksOfTrial : zNoMH yX6_leaksOfTrial 1 := ⟨by decide +kernel, by decide +kernel, by decide +kernel⟩
theorem iX6_leaksOfTrial_X6 : ∀ w ∈ wsX60, w ∈ wsX6_leaksOfTrial := fun _ h => (List.mem_cons_of_mem _ (List.mem_append_left _ (List.mem_append_left _ (List.mem_append_left _ (List.mem_append_right _ h)))))
theorem iX6_leaksOfTrial_X1 : ∀ w ∈ wsX10, w ∈ wsX6_leaksOfTrial := fun _ h => (List.mem_cons_of_mem _ (List.mem_append_left _ (List.mem_append_left _ (List.mem_append_right _ h))))
theorem iX6_leaksOfTrial_X0 : ∀ w ∈ wsX00, w ∈ wsX6_leaksOfTrial := fun _ h => (List.mem_cons_of_mem _ (List.mem_append_left _ (List.mem_append_right _ h)))
theorem iX6_leaksOfTrial_X5 : ∀ w ∈ wsX50, w ∈ wsX6_leaksOfTrial := fun _ h => (List.mem_cons_of_mem _ (List.mem_append_right _ h))
def fX6_leaksOfTrial (v : XV) (x1 : Int32) : Option (Int32 × CV) := ((fX6_leaksOfTrialUpTo v x1 1000000000) : Option (Int32 × CV)).bind (fun u1 => some (u1.1, u1.2))
set_option maxRecDepth 100000 in
set_option maxHeartbeats 4000000 in
theorem tX6_leaksOfTrial (l : Launch) (G : va_G) (ca : Nat → ClassId) (ad : Nat → Nat) (v : XV) (x1 : Int32) {o : (Int32 × CV)} (hf : fX6_leaksOfTrial v x1 = some o) : zMi l yX6_leaksOfTrial wsX6_leaksOfTrial rX6_leaksOfTrial G ca [.ref (ad 0), .int x1] (wX ca ad v) o.1 (wX ca ad (v.1, v.2.1, o.2, v.2.2.2)) := by
  refine zMi.of (cc := cX6_leaksOfTrial) (nL := 2) (own := RX6) (ty := .int) (by decide) rfl rfl (Nat.le_of_ble_eq_true rfl) (fun X h hE => ?_)
  show V X G 2 0 0 (wX ca ad v) 0 [(0, .ref (ad 0)), (1, .int x1)] []
  unfold fX6_leaksOfTrial at hf
  refine v_aload_n h dX6_leaksOfTrial_0 0 rfl 1 rfl ?_
  refine v_iload_n h dX6_leaksOfTrial_1 1 rfl 2 rfl ?_
  refine v_ldc h dX6_leaksOfTrial_2 1000000000 (zwi 1 rfl) 4 rfl ?_
  obtain ⟨u1, hu1, hf⟩ := zb hf
  refine v_wcallVi h (rest := []) dX6_leaksOfTrial_4 (tX6_leaksOfTrialUpTo l G ca ad v x1 1000000000 hu1) gX6_leaksOfTrial_X6_leaksOfTrialUpTo rfl rfl ⟨rfl, rfl⟩ nX6_leaksOfTrialUpTo ⟨Nat.le_of_ble_eq_true rfl, Nat.le_of_ble_eq_true rfl⟩ 0 rfl rfl rfl rfl (Nat.le_of_ble_eq_true rfl) ⟨Nat.zero_le _, Nat.zero_le _⟩ (wX_adr _ _ _ _) 7 rfl ?_
  cases (Option.some.inj hf)
  exact hE 7 _ rfl dX6_leaksOfTrial_7
abbrev rX6_ahead : Room := { frames := 6, cells := 0, slots := 0, locals := 131 }
theorem nX6_ahead : zNoMH yX6_ahead 2 := ⟨by decide +kernel, by decide +kernel, by decide +kernel⟩
theorem iX6_ahead_X6 : ∀ w ∈ wsX60, w ∈ wsX6_ahead := fun _ h => (List.mem_cons_of_mem _ (List.mem_append_left _ (List.mem_append_left _ (List.mem_append_left _ (List.mem_append_right _ h)))))
theorem iX6_ahead_X0 : ∀ w ∈ wsX00, w ∈ wsX6_ahead := fun _ h => (List.mem_cons_of_mem _ (List.mem_append_left _ (List.mem_append_left _ (List.mem_append_right _ h))))
theorem iX6_ahead_X1 : ∀ w ∈ wsX10, w ∈ wsX6_ahead := fun _ h => (List.mem_cons_of_mem _ (List.mem_append_left _ (List.mem_append_right _ h)))
theorem iX6_ahead_X5 : ∀ w ∈ wsX50, w ∈ wsX6_ahead := fun _ h => (List.mem_cons_of_mem _ (List.mem_append_right _ h))
def fX6_ahead (v : XV) (x1 : Int32) (x2 : Int32) : Option (Int32 × CV) := ((fX6_outside x1 0 40) : Option Int32).bind (fun u1 => if u1 = 0 then (((fX6_outside x2 0 2) : Option Int32).bind (fun u3 => if u3 = 0 then (((fX6_startTrial v) : Option CV).bind (fun u5 => ((fX6_leaksOfTrial (v.1, v.2.1, u5, v.2.2.2) x1) : Option (Int32 × CV)).bind (fun u6 => if x2 = 0 then (some (u6.2.2.2.2.2.1, u6.2)) else (if x2 = 1 then (some (u6.2.2.2.2.2.2.2.1, u6.2)) else (((fX0_heaviness u6.2) : Option Int32).bind (fun u9 => some (u9, u6.2))))))) else (some ((-1), v.2.2.1)))) else (some ((-1), v.2.2.1)))
set_option maxRecDepth 100000 in
set_option maxHeartbeats 4000000 in
theorem tX6_ahead (l : Launch) (G : va_G) (ca : Nat → ClassId) (ad : Nat → Nat) (v : XV) (x1 : Int32) (x2 : Int32) {o : (Int32 × CV)} (hf : fX6_ahead v x1 x2 = some o) : zMi l yX6_ahead wsX6_ahead rX6_ahead G ca [.ref (ad 0), .int x1, .int x2] (wX ca ad v) o.1 (wX ca ad (v.1, v.2.1, o.2, v.2.2.2)) := by
  refine zMi.of (cc := cX6_ahead) (nL := 3) (own := RX6) (ty := .int) (by decide) rfl rfl (Nat.le_of_ble_eq_true rfl) (fun X h hE => ?_)
  show V X G 3 0 0 (wX ca ad v) 0 [(0, .ref (ad 0)), (1, .int x1), (2, .int x2)] []
  unfold fX6_ahead at hf
  refine v_iload_n h dX6_ahead_0 1 rfl 1 rfl ?_
  refine v_iconst h dX6_ahead_1 0 rfl 2 rfl ?_
  refine v_bipush h dX6_ahead_2 40 rfl 4 rfl ?_
  obtain ⟨u1, hu1, hf⟩ := zb hf
  refine v_callSi h (rest := []) dX6_ahead_4 (tX6_outside l G ca   x1 0 40 hu1) gX6_ahead_X6_outside rfl ⟨rfl, rfl⟩ nX6_outside ⟨Nat.le_of_ble_eq_true rfl, Nat.le_of_ble_eq_true rfl⟩ [] rfl rfl rfl rfl (Nat.le_of_ble_eq_true rfl) ⟨Nat.zero_le _, Nat.zero_le _⟩ rfl (wX ca ad v) rfl (wX_adr _ _ _ _) 7 rfl ?_
  refine v_if_ne h dX6_ahead_7 19 (by decide) 10 rfl (fun c2 => ?_) (fun c2 => ?_)
  · replace hf := zf c2 hf
    refine v_iconst h dX6_ahead_19 (-1) rfl 20 rfl ?_
    cases (Option.some.inj hf)
    exact hE 20 _ rfl dX6_ahead_20
  · replace hf := zt c2 hf
    refine v_iload_n h dX6_ahead_10 2 rfl 11 rfl ?_
    refine v_iconst h dX6_ahead_11 0 rfl 12 rfl ?_
    refine v_iconst h dX6_ahead_12 2 rfl 13 rfl ?_
    obtain ⟨u3, hu3, hf⟩ := zb hf
    refine v_callSi h (rest := []) dX6_ahead_13 (tX6_outside l G ca   x2 0 2 hu3) gX6_ahead_X6_outside rfl ⟨rfl, rfl⟩ nX6_outside ⟨Nat.le_of_ble_eq_true rfl, Nat.le_of_ble_eq_true rfl⟩ [] rfl rfl rfl rfl (Nat.le_of_ble_eq_true rfl) ⟨Nat.zero_le _, Nat.zero_le _⟩ rfl (wX ca ad v) rfl (wX_adr _ _ _ _) 16 rfl ?_
    refine v_if_eq h dX6_ahead_16 21 (by decide) 19 rfl (fun c4 => ?_) (fun c4 => ?_)
    · replace hf := zt c4 hf
      refine v_aload_n h dX6_ahead_21 0 rfl 22 rfl ?_
      obtain ⟨u5, hu5, hf⟩ := zb hf
      refine v_wcallVv h (rest := []) dX6_ahead_22 (tX6_startTrial l G ca ad v  hu5) gX6_ahead_X6_startTrial rfl rfl ⟨rfl, rfl⟩ nX6_startTrial ⟨Nat.le_of_ble_eq_true rfl, Nat.le_of_ble_eq_true rfl⟩ 0 rfl rfl rfl rfl (Nat.le_of_ble_eq_true rfl) ⟨Nat.zero_le _, Nat.zero_le _⟩ (wX_adr _ _ _ _) 25 rfl ?_
      refine v_aload_n h dX6_ahead_25 0 rfl 26 rfl ?_
      refine v_iload_n h dX6_ahead_26 1 rfl 27 rfl ?_
      obtain ⟨u6, hu6, hf⟩ := zb hf
      refine v_wcallVi h (rest := []) dX6_ahead_27 (tX6_leaksOfTrial l G ca ad (v.1, v.2.1, u5, v.2.2.2) x1 hu6) gX6_ahead_X6_leaksOfTrial rfl rfl ⟨rfl, rfl⟩ nX6_leaksOfTrial ⟨Nat.le_of_ble_eq_true rfl, Nat.le_of_ble_eq_true rfl⟩ 0 rfl rfl rfl rfl (Nat.le_of_ble_eq_true rfl) ⟨Nat.zero_le _, Nat.zero_le _⟩ (wX_adr _ _ _ _) 30 rfl ?_
      refine v_pop h dX6_ahead_30 rfl 31 rfl ?_
      refine v_iload_n h dX6_ahead_31 2 rfl 32 rfl ?_
      by_cases c7 : x2 = 0
      · replace hf := zt c7 hf
        refine v_lsw h dX6_ahead_32 (by decide) (off := 28) (by rw [c7]; decide) 60 (by decide) ?_
        refine v_aload_n h dX6_ahead_60 0 rfl 61 rfl ?_
        refine v_get h (v := .ref (ad 99)) dX6_ahead_61 iX6_ahead_X6 0 rfl rfl 2 (by decide) (zwi 1 rfl) rfl 64 rfl ?_
        refine v_get h (v := .int u6.2.2.2.2.2.1) dX6_ahead_64 iX6_ahead_X0 99 rfl rfl 4 (by decide) (zwi 2 rfl) rfl 67 rfl ?_
        cases (Option.some.inj hf)
        exact hE 67 _ rfl dX6_ahead_67
      · replace hf := zf c7 hf
        by_cases c8 : x2 = 1
        · replace hf := zt c8 hf
          refine v_lsw h dX6_ahead_32 (by decide) (off := 36) (by rw [c8]; decide) 68 (by decide) ?_
          refine v_aload_n h dX6_ahead_68 0 rfl 69 rfl ?_
          refine v_get h (v := .ref (ad 99)) dX6_ahead_69 iX6_ahead_X6 0 rfl rfl 2 (by decide) (zwi 1 rfl) rfl 72 rfl ?_
          refine v_get h (v := .int u6.2.2.2.2.2.2.2.1) dX6_ahead_72 iX6_ahead_X0 99 rfl rfl 6 (by decide) (zwi 3 rfl) rfl 75 rfl ?_
          cases (Option.some.inj hf)
          exact hE 75 _ rfl dX6_ahead_75
        · replace hf := zf c8 hf
          refine v_lsw h dX6_ahead_32 (by decide) (off := 44) (by show Op.lookupswitch.offset [(0, 28), (1, 36)] _ _ = _; rw [lv_osw c7 (by decide), lv_osw c8 (by decide)]; rfl) 76 (by decide) ?_
          refine v_aload_n h dX6_ahead_76 0 rfl 77 rfl ?_
          refine v_get h (v := .ref (ad 99)) dX6_ahead_77 iX6_ahead_X6 0 rfl rfl 2 (by decide) (zwi 1 rfl) rfl 80 rfl ?_
          obtain ⟨u9, hu9, hf⟩ := zb hf
          refine v_callVi h (rest := []) dX6_ahead_80 (tX0_heaviness l G ca (fun i => ad (99 + i)) u6.2  hu9) gX6_ahead_X0_heaviness rfl rfl ⟨rfl, rfl⟩ nX0_heaviness ⟨Nat.le_of_ble_eq_true rfl, Nat.le_of_ble_eq_true rfl⟩ [99, 100, 101, 102, 103] rfl rfl 0 rfl rfl rfl rfl (Nat.le_of_ble_eq_true rfl) ⟨Nat.zero_le _, Nat.zero_le _⟩ rfl (wX ca ad (v.1, v.2.1, u6.2, v.2.2.2)) rfl (wX_adr _ _ _ _) 83 rfl ?_
          cases (Option.some.inj hf)
          exact hE 83 _ rfl dX6_ahead_83
    · replace hf := zf c4 hf
      refine v_iconst h dX6_ahead_19 (-1) rfl 20 rfl ?_
      cases (Option.some.inj hf)
      exact hE 20 _ rfl dX6_ahead_20
abbrev rX6_leak : Room := { frames := 4, cells := 0, slots := 0, locals := 86 }
theorem nX6_leak : zNoMH yX6_leak 0 := ⟨by decide +kernel, by decide +kernel, by decide +kernel⟩
theorem iX6_leak_X6 : ∀ w ∈ wsX60, w ∈ wsX6_leak := fun _ h => (List.mem_cons_of_mem _ (List.mem_append_left _ (List.mem_append_left _ (List.mem_append_left _ (List.mem_append_right _ h)))))
theorem iX6_leak_X1 : ∀ w ∈ wsX10, w ∈ wsX6_leak := fun _ h => (List.mem_cons_of_mem _ (List.mem_append_left _ (List.mem_append_left _ (List.mem_append_right _ h))))
theorem iX6_leak_X0 : ∀ w ∈ wsX00, w ∈ wsX6_leak := fun _ h => (List.mem_cons_of_mem _ (List.mem_append_left _ (List.mem_append_right _ h)))
theorem iX6_leak_X5 : ∀ w ∈ wsX50, w ∈ wsX6_leak := fun _ h => (List.mem_cons_of_mem _ (List.mem_append_right _ h))
def fX6_leak_L6 : Nat → XV → Int32 → CV → Option ((Int32 × CV) ⊕ CV)
  | 0, _, _, _ => none
  | n + 1, v, x1, m2 => if 40 < x1 then (some (.inr m2)) else (((fX6_yearOfTrial (v.1, v.2.1, m2, v.2.2.2)) : Option (Int32 × CV)).bind (fun u2 => if u2.1 ≤ 0 then (fX6_leak_L6 n v (x1 + 1) u2.2) else (some (.inl (x1, u2.2)))))
set_option maxRecDepth 100000 in
set_option maxHeartbeats 4000000 in
theorem tX6_leak_l6 {X : zX} {l : Launch} {G : va_G} {ca : Nat → ClassId} {ad : Nat → Nat} (h : zOk X l G ca cX6_leak RX6 wsX6_leak 2 rX6_leak) : ∀ (n : Nat) (v : XV) (x1 : Int32) (m2 : CV) (out : ((Int32 × CV) ⊕ CV)), fX6_leak_L6 n v x1 m2 = some out → (∀ e, out = .inr e → V X G 2 0 0 (wX ca ad (v.1, v.2.1, e, v.2.2.2)) 27 [] []) → (∀ r, out = .inl r → zEi X G cX6_leak 2 .int r.1 (wX ca ad (v.1, v.2.1, r.2, v.2.2.2))) → V X G 2 0 0 (wX ca ad (v.1, v.2.1, m2, v.2.2.2)) 6 [(0, .ref (ad 0)), (1, .int x1)] [] := by
  intro n
  induction n with
  | zero => intro v x1 m2 out hf; rw [fX6_leak_L6] at hf; cases hf
  | succ n ih =>
    intro v x1 m2 out hf kx kr
    rw [fX6_leak_L6] at hf
    refine v_iload_n h dX6_leak_6 1 rfl 7 rfl ?_
    refine v_bipush h dX6_leak_7 40 rfl 9 rfl ?_
    refine v_icmp_gt h dX6_leak_9 27 (by decide) 12 rfl (fun c1 => ?_) (fun c1 => ?_)
    · replace hf := zt c1 hf
      cases (Option.some.inj hf)
      exact v_sub [] rfl (kx _ rfl)
    · replace hf := zf c1 hf
      refine v_aload_n h dX6_leak_12 0 rfl 13 rfl ?_
      obtain ⟨u2, hu2, hf⟩ := zb hf
      refine v_wcallVi h (rest := []) dX6_leak_13 (tX6_yearOfTrial l G ca ad (v.1, v.2.1, m2, v.2.2.2)  hu2) gX6_leak_X6_yearOfTrial rfl rfl ⟨rfl, rfl⟩ nX6_yearOfTrial ⟨Nat.le_of_ble_eq_true rfl, Nat.le_of_ble_eq_true rfl⟩ 0 rfl rfl rfl rfl (Nat.le_of_ble_eq_true rfl) ⟨Nat.zero_le _, Nat.zero_le _⟩ (wX_adr _ _ _ _) 16 rfl ?_
      refine v_if_le h dX6_leak_16 21 (by decide) 19 rfl (fun c3 => ?_) (fun c3 => ?_)
      · replace hf := zt c3 hf
        refine v_iinc h dX6_leak_21 1 rfl (x1 + 1) rfl (Nat.le_of_ble_eq_true rfl) rfl rfl [(0, .ref (ad 0)), (1, .int (x1 + 1))] rfl 24 rfl ?_
        refine v_goto h dX6_leak_24 6 (by decide) ?_
        exact v_sub [0, 1] rfl (ih v (x1 + 1) u2.2 _ hf kx kr)
      · replace hf := zf c3 hf
        refine v_iload_n h dX6_leak_19 1 rfl 20 rfl ?_
        cases (Option.some.inj hf)
        exact kr _ rfl 20 _ rfl dX6_leak_20
def fX6_leak (v : XV) : Option (Int32 × CV) := ((fX6_startTrial v) : Option CV).bind (fun u1 => ((fX6_leak_L6 zF (v.1, v.2.1, u1, v.2.2.2) 1 u1) : Option ((Int32 × CV) ⊕ CV)).bind (fun u2 => zrt u2 (fun r => some r) (fun x3 => some ((-4), x3))))
set_option maxRecDepth 100000 in
set_option maxHeartbeats 4000000 in
theorem tX6_leak (l : Launch) (G : va_G) (ca : Nat → ClassId) (ad : Nat → Nat) (v : XV)  {o : (Int32 × CV)} (hf : fX6_leak v = some o) : zMi l yX6_leak wsX6_leak rX6_leak G ca [.ref (ad 0)] (wX ca ad v) o.1 (wX ca ad (v.1, v.2.1, o.2, v.2.2.2)) := by
  refine zMi.of (cc := cX6_leak) (nL := 2) (own := RX6) (ty := .int) (by decide) rfl rfl (Nat.le_of_ble_eq_true rfl) (fun X h hE => ?_)
  show V X G 2 0 0 (wX ca ad v) 0 [(0, .ref (ad 0))] []
  unfold fX6_leak at hf
  refine v_aload_n h dX6_leak_0 0 rfl 1 rfl ?_
  obtain ⟨u1, hu1, hf⟩ := zb hf
  refine v_wcallVv h (rest := []) dX6_leak_1 (tX6_startTrial l G ca ad v  hu1) gX6_leak_X6_startTrial rfl rfl ⟨rfl, rfl⟩ nX6_startTrial ⟨Nat.le_of_ble_eq_true rfl, Nat.le_of_ble_eq_true rfl⟩ 0 rfl rfl rfl rfl (Nat.le_of_ble_eq_true rfl) ⟨Nat.zero_le _, Nat.zero_le _⟩ (wX_adr _ _ _ _) 4 rfl ?_
  refine v_iconst h dX6_leak_4 1 rfl 5 rfl ?_
  refine v_istore_n h dX6_leak_5 (Nat.le_of_ble_eq_true rfl) rfl rfl [(0, .ref (ad 0)), (1, .int 1)] rfl 6 rfl ?_
  obtain ⟨u2, hu2, hf⟩ := zb hf
  refine v_sub [0, 1] rfl ?_
  refine tX6_leak_l6 h zF (v.1, v.2.1, u1, v.2.2.2) 1 u1 _ hu2 (fun x3 ex => ?_) (fun x3 ex => ?_)
  · subst ex
    replace hf := hf
    refine v_bipush h dX6_leak_27 (-4) rfl 29 rfl ?_
    cases (Option.some.inj hf)
    exact hE 29 _ rfl dX6_leak_29
  · subst ex
    cases (Option.some.inj hf)
    exact hE
abbrev rX6_bare : Room := { frames := 4, cells := 0, slots := 0, locals := 86 }
theorem nX6_bare : zNoMH yX6_bare 0 := ⟨by decide +kernel, by decide +kernel, by decide +kernel⟩
theorem iX6_bare_X6 : ∀ w ∈ wsX60, w ∈ wsX6_bare := fun _ h => (List.mem_cons_of_mem _ (List.mem_append_left _ (List.mem_append_left _ (List.mem_append_left _ (List.mem_append_right _ h)))))
theorem iX6_bare_X0 : ∀ w ∈ wsX00, w ∈ wsX6_bare := fun _ h => (List.mem_cons_of_mem _ (List.mem_append_left _ (List.mem_append_left _ (List.mem_append_right _ h))))
theorem iX6_bare_X1 : ∀ w ∈ wsX10, w ∈ wsX6_bare := fun _ h => (List.mem_cons_of_mem _ (List.mem_append_left _ (List.mem_append_right _ h)))
theorem iX6_bare_X5 : ∀ w ∈ wsX50, w ∈ wsX6_bare := fun _ h => (List.mem_cons_of_mem _ (List.mem_append_right _ h))
def fX6_bare_L6 : Nat → XV → Int32 → CV → Option ((Int32 × CV) ⊕ CV)
  | 0, _, _, _ => none
  | n + 1, v, x1, m2 => if 40 < x1 then (some (.inr m2)) else (if m2.2.2.2.2.1 = 0 then (some (.inl (x1, m2))) else (((fX6_yearOfTrial (v.1, v.2.1, m2, v.2.2.2)) : Option (Int32 × CV)).bind (fun u3 => fX6_bare_L6 n v (x1 + 1) u3.2)))
set_option maxRecDepth 100000 in
set_option maxHeartbeats 4000000 in
theorem tX6_bare_l6 {X : zX} {l : Launch} {G : va_G} {ca : Nat → ClassId} {ad : Nat → Nat} (h : zOk X l G ca cX6_bare RX6 wsX6_bare 2 rX6_bare) : ∀ (n : Nat) (v : XV) (x1 : Int32) (m2 : CV) (out : ((Int32 × CV) ⊕ CV)), fX6_bare_L6 n v x1 m2 = some out → (∀ e, out = .inr e → V X G 2 0 0 (wX ca ad (v.1, v.2.1, e, v.2.2.2)) 35 [] []) → (∀ r, out = .inl r → zEi X G cX6_bare 2 .int r.1 (wX ca ad (v.1, v.2.1, r.2, v.2.2.2))) → V X G 2 0 0 (wX ca ad (v.1, v.2.1, m2, v.2.2.2)) 6 [(0, .ref (ad 0)), (1, .int x1)] [] := by
  intro n
  induction n with
  | zero => intro v x1 m2 out hf; rw [fX6_bare_L6] at hf; cases hf
  | succ n ih =>
    intro v x1 m2 out hf kx kr
    rw [fX6_bare_L6] at hf
    refine v_iload_n h dX6_bare_6 1 rfl 7 rfl ?_
    refine v_bipush h dX6_bare_7 40 rfl 9 rfl ?_
    refine v_icmp_gt h dX6_bare_9 35 (by decide) 12 rfl (fun c1 => ?_) (fun c1 => ?_)
    · replace hf := zt c1 hf
      cases (Option.some.inj hf)
      exact v_sub [] rfl (kx _ rfl)
    · replace hf := zf c1 hf
      refine v_aload_n h dX6_bare_12 0 rfl 13 rfl ?_
      refine v_get h (v := .ref (ad 99)) dX6_bare_13 iX6_bare_X6 0 rfl rfl 2 (by decide) (zwi 1 rfl) rfl 16 rfl ?_
      refine v_get h (v := .int m2.2.2.2.2.1) dX6_bare_16 iX6_bare_X0 99 rfl rfl 4 (by decide) (zwi 2 rfl) rfl 19 rfl ?_
      refine v_if_ne h dX6_bare_19 24 (by decide) 22 rfl (fun c2 => ?_) (fun c2 => ?_)
      · replace hf := zf c2 hf
        refine v_aload_n h dX6_bare_24 0 rfl 25 rfl ?_
        obtain ⟨u3, hu3, hf⟩ := zb hf
        refine v_wcallVi h (rest := []) dX6_bare_25 (tX6_yearOfTrial l G ca ad (v.1, v.2.1, m2, v.2.2.2)  hu3) gX6_bare_X6_yearOfTrial rfl rfl ⟨rfl, rfl⟩ nX6_yearOfTrial ⟨Nat.le_of_ble_eq_true rfl, Nat.le_of_ble_eq_true rfl⟩ 0 rfl rfl rfl rfl (Nat.le_of_ble_eq_true rfl) ⟨Nat.zero_le _, Nat.zero_le _⟩ (wX_adr _ _ _ _) 28 rfl ?_
        refine v_pop h dX6_bare_28 rfl 29 rfl ?_
        refine v_iinc h dX6_bare_29 1 rfl (x1 + 1) rfl (Nat.le_of_ble_eq_true rfl) rfl rfl [(0, .ref (ad 0)), (1, .int (x1 + 1))] rfl 32 rfl ?_
        refine v_goto h dX6_bare_32 6 (by decide) ?_
        exact v_sub [0, 1] rfl (ih v (x1 + 1) u3.2 _ hf kx kr)
      · replace hf := zt c2 hf
        refine v_iload_n h dX6_bare_22 1 rfl 23 rfl ?_
        cases (Option.some.inj hf)
        exact kr _ rfl 23 _ rfl dX6_bare_23
def fX6_bare (v : XV) : Option (Int32 × CV) := ((fX6_startTrial v) : Option CV).bind (fun u1 => ((fX6_bare_L6 zF (v.1, v.2.1, u1, v.2.2.2) 0 u1) : Option ((Int32 × CV) ⊕ CV)).bind (fun u2 => zrt u2 (fun r => some r) (fun x3 => some ((-4), x3))))
set_option maxRecDepth 100000 in
set_option maxHeartbeats 4000000 in
theorem tX6_bare (l : Launch) (G : va_G) (ca : Nat → ClassId) (ad : Nat → Nat) (v : XV)  {o : (Int32 × CV)} (hf : fX6_bare v = some o) : zMi l yX6_bare wsX6_bare rX6_bare G ca [.ref (ad 0)] (wX ca ad v) o.1 (wX ca ad (v.1, v.2.1, o.2, v.2.2.2)) := by
  refine zMi.of (cc := cX6_bare) (nL := 2) (own := RX6) (ty := .int) (by decide) rfl rfl (Nat.le_of_ble_eq_true rfl) (fun X h hE => ?_)
  show V X G 2 0 0 (wX ca ad v) 0 [(0, .ref (ad 0))] []
  unfold fX6_bare at hf
  refine v_aload_n h dX6_bare_0 0 rfl 1 rfl ?_
  obtain ⟨u1, hu1, hf⟩ := zb hf
  refine v_wcallVv h (rest := []) dX6_bare_1 (tX6_startTrial l G ca ad v  hu1) gX6_bare_X6_startTrial rfl rfl ⟨rfl, rfl⟩ nX6_startTrial ⟨Nat.le_of_ble_eq_true rfl, Nat.le_of_ble_eq_true rfl⟩ 0 rfl rfl rfl rfl (Nat.le_of_ble_eq_true rfl) ⟨Nat.zero_le _, Nat.zero_le _⟩ (wX_adr _ _ _ _) 4 rfl ?_
  refine v_iconst h dX6_bare_4 0 rfl 5 rfl ?_
  refine v_istore_n h dX6_bare_5 (Nat.le_of_ble_eq_true rfl) rfl rfl [(0, .ref (ad 0)), (1, .int 0)] rfl 6 rfl ?_
  obtain ⟨u2, hu2, hf⟩ := zb hf
  refine v_sub [0, 1] rfl ?_
  refine tX6_bare_l6 h zF (v.1, v.2.1, u1, v.2.2.2) 0 u1 _ hu2 (fun x3 ex => ?_) (fun x3 ex => ?_)
  · subst ex
    replace hf := hf
    refine v_bipush h dX6_bare_35 (-4) rfl 37 rfl ?_
    cases (Option.some.inj hf)
    exact hE 37 _ rfl dX6_bare_37
  · subst ex
    cases (Option.some.inj hf)
    exact hE
abbrev rX6_reach : Room := { frames := 3, cells := 0, slots := 0, locals := 66 }
theorem nX6_reach : zNoMH yX6_reach 1 := ⟨by decide +kernel, by decide +kernel, by decide +kernel⟩
theorem iX6_reach_X6 : ∀ w ∈ wsX60, w ∈ wsX6_reach := fun _ h => (List.mem_cons_of_mem _ (List.mem_append_left _ (List.mem_append_left _ (List.mem_append_left _ (List.mem_append_right _ h)))))
theorem iX6_reach_X1 : ∀ w ∈ wsX10, w ∈ wsX6_reach := fun _ h => (List.mem_cons_of_mem _ (List.mem_append_left _ (List.mem_append_left _ (List.mem_append_right _ h))))
theorem iX6_reach_X0 : ∀ w ∈ wsX00, w ∈ wsX6_reach := fun _ h => (List.mem_cons_of_mem _ (List.mem_append_left _ (List.mem_append_right _ h)))
theorem iX6_reach_X5 : ∀ w ∈ wsX50, w ∈ wsX6_reach := fun _ h => (List.mem_cons_of_mem _ (List.mem_append_right _ h))
def fX6_reach (v : XV) (x1 : Int32) : Option Int32 := ((fX6_outside x1 (-1) 99) : Option Int32).bind (fun u1 => if u1 = 0 then (if x1 = (-1) then (((fX5_inYear v.1.2.1 v.1.2.2.1.2.2.2.2.2.1) : Option Int32).bind (fun u5 => ((fX0_reachedBy v.1.2.2.1 u5) : Option Int32).bind (fun u6 => some u6))) else (((fX0_reachedBy v.1.2.2.1 x1) : Option Int32).bind (fun u4 => some u4))) else (some (-1)))
set_option maxRecDepth 100000 in
set_option maxHeartbeats 4000000 in
theorem tX6_reach (l : Launch) (G : va_G) (ca : Nat → ClassId) (ad : Nat → Nat) (v : XV) (x1 : Int32) {o : Int32} (hf : fX6_reach v x1 = some o) : zMi l yX6_reach wsX6_reach rX6_reach G ca [.ref (ad 0), .int x1] (wX ca ad v) o (wX ca ad v) := by
  refine zMi.of (cc := cX6_reach) (nL := 3) (own := RX6) (ty := .int) (by decide) rfl rfl (Nat.le_of_ble_eq_true rfl) (fun X h hE => ?_)
  show V X G 3 0 0 (wX ca ad v) 0 [(0, .ref (ad 0)), (1, .int x1)] []
  unfold fX6_reach at hf
  refine v_iload_n h dX6_reach_0 1 rfl 1 rfl ?_
  refine v_iconst h dX6_reach_1 (-1) rfl 2 rfl ?_
  refine v_bipush h dX6_reach_2 99 rfl 4 rfl ?_
  obtain ⟨u1, hu1, hf⟩ := zb hf
  refine v_callSi h (rest := []) dX6_reach_4 (tX6_outside l G ca   x1 (-1) 99 hu1) gX6_reach_X6_outside rfl ⟨rfl, rfl⟩ nX6_outside ⟨Nat.le_of_ble_eq_true rfl, Nat.le_of_ble_eq_true rfl⟩ [] rfl rfl rfl rfl (Nat.le_of_ble_eq_true rfl) ⟨Nat.zero_le _, Nat.zero_le _⟩ rfl (wX ca ad v) rfl (wX_adr _ _ _ _) 7 rfl ?_
  refine v_if_eq h dX6_reach_7 12 (by decide) 10 rfl (fun c2 => ?_) (fun c2 => ?_)
  · replace hf := zt c2 hf
    refine v_aload_n h dX6_reach_12 0 rfl 13 rfl ?_
    refine v_get h (v := .ref (ad 1)) dX6_reach_13 iX6_reach_X6 0 rfl rfl 0 (by decide) (zwi 1 rfl) rfl 16 rfl ?_
    refine v_get h (v := .ref (ad 4)) dX6_reach_16 iX6_reach_X1 1 rfl rfl 2 (by decide) (zwi 2 rfl) rfl 19 rfl ?_
    refine v_astore_n h dX6_reach_19 (Nat.le_of_ble_eq_true rfl) rfl rfl [(0, .ref (ad 0)), (1, .int x1), (2, .ref (ad 4))] rfl 20 rfl ?_
    refine v_aload_n h dX6_reach_20 2 rfl 21 rfl ?_
    refine v_iload_n h dX6_reach_21 1 rfl 22 rfl ?_
    refine v_iconst h dX6_reach_22 (-1) rfl 23 rfl ?_
    refine v_icmp_ne h dX6_reach_23 43 (by decide) 26 rfl (fun c3 => ?_) (fun c3 => ?_)
    · replace hf := zf c3 hf
      refine v_iload_n h dX6_reach_43 1 rfl 44 rfl ?_
      obtain ⟨u4, hu4, hf⟩ := zb hf
      refine v_callVi h (rest := []) dX6_reach_44 (tX0_reachedBy l G ca (fun i => ad (4 + i)) v.1.2.2.1 x1 hu4) gX6_reach_X0_reachedBy rfl rfl ⟨rfl, rfl⟩ nX0_reachedBy ⟨Nat.le_of_ble_eq_true rfl, Nat.le_of_ble_eq_true rfl⟩ [4, 5, 6, 7, 8] rfl rfl 0 rfl rfl rfl rfl (Nat.le_of_ble_eq_true rfl) ⟨Nat.zero_le _, Nat.zero_le _⟩ rfl (wX ca ad v) rfl (wX_adr _ _ _ _) 47 rfl ?_
      cases (Option.some.inj hf)
      exact hE 47 _ rfl dX6_reach_47
    · replace hf := zt c3 hf
      refine v_aload_n h dX6_reach_26 0 rfl 27 rfl ?_
      refine v_get h (v := .ref (ad 1)) dX6_reach_27 iX6_reach_X6 0 rfl rfl 0 (by decide) (zwi 1 rfl) rfl 30 rfl ?_
      refine v_get h (v := .ref (ad 2)) dX6_reach_30 iX6_reach_X1 1 rfl rfl 1 (by decide) (zwi 3 rfl) rfl 33 rfl ?_
      refine v_aload_n h dX6_reach_33 2 rfl 34 rfl ?_
      refine v_get h (v := .int v.1.2.2.1.2.2.2.2.2.1) dX6_reach_34 iX6_reach_X0 4 rfl rfl 5 (by decide) (zwi 4 rfl) rfl 37 rfl ?_
      obtain ⟨u5, hu5, hf⟩ := zb hf
      refine v_callVi h (rest := [.ref (ad 4)]) dX6_reach_37 (tX5_inYear l G ca (fun i => ad (2 + i)) v.1.2.1 v.1.2.2.1.2.2.2.2.2.1 hu5) gX6_reach_X5_inYear rfl rfl ⟨rfl, rfl⟩ nX5_inYear ⟨Nat.le_of_ble_eq_true rfl, Nat.le_of_ble_eq_true rfl⟩ [2, 3] rfl rfl 0 rfl rfl rfl rfl (Nat.le_of_ble_eq_true rfl) ⟨Nat.zero_le _, Nat.zero_le _⟩ rfl (wX ca ad v) rfl (wX_adr _ _ _ _) 40 rfl ?_
      refine v_goto h dX6_reach_40 44 (by decide) ?_
      obtain ⟨u6, hu6, hf⟩ := zb hf
      refine v_callVi h (rest := []) dX6_reach_44 (tX0_reachedBy l G ca (fun i => ad (4 + i)) v.1.2.2.1 u5 hu6) gX6_reach_X0_reachedBy rfl rfl ⟨rfl, rfl⟩ nX0_reachedBy ⟨Nat.le_of_ble_eq_true rfl, Nat.le_of_ble_eq_true rfl⟩ [4, 5, 6, 7, 8] rfl rfl 0 rfl rfl rfl rfl (Nat.le_of_ble_eq_true rfl) ⟨Nat.zero_le _, Nat.zero_le _⟩ rfl (wX ca ad v) rfl (wX_adr _ _ _ _) 47 rfl ?_
      cases (Option.some.inj hf)
      exact hE 47 _ rfl dX6_reach_47
  · replace hf := zf c2 hf
    refine v_iconst h dX6_reach_10 (-1) rfl 11 rfl ?_
    cases (Option.some.inj hf)
    exact hE 11 _ rfl dX6_reach_11
abbrev rX6_cover : Room := { frames := 5, cells := 0, slots := 0, locals := 110 }
theorem nX6_cover : zNoMH yX6_cover 2 := ⟨by decide +kernel, by decide +kernel, by decide +kernel⟩
theorem iX6_cover_X6 : ∀ w ∈ wsX60, w ∈ wsX6_cover := fun _ h => (List.mem_cons_of_mem _ (List.mem_append_left _ (List.mem_append_left _ (List.mem_append_left _ (List.mem_append_right _ h)))))
theorem iX6_cover_X1 : ∀ w ∈ wsX10, w ∈ wsX6_cover := fun _ h => (List.mem_cons_of_mem _ (List.mem_append_left _ (List.mem_append_left _ (List.mem_append_right _ h))))
theorem iX6_cover_X0 : ∀ w ∈ wsX00, w ∈ wsX6_cover := fun _ h => (List.mem_cons_of_mem _ (List.mem_append_left _ (List.mem_append_right _ h)))
theorem iX6_cover_X5 : ∀ w ∈ wsX50, w ∈ wsX6_cover := fun _ h => (List.mem_cons_of_mem _ (List.mem_append_right _ h))
def fX6_cover_L39 : Nat → XV → Int32 → Int32 → Int32 → CV → Option ((Int32 × CV) ⊕ CV)
  | 0, _, _, _, _, _ => none
  | n + 1, v, x1, x2, x3, m2 => if 20 < x3 then (some (.inr m2)) else (((fX6_startTrial (v.1, v.2.1, m2, v.2.2.2)) : Option CV).bind (fun u2 => ((fX0_putOver u2 x1 x3 0) : Option CV).bind (fun u3 => ((fX6_leaksOfTrialUpTo (v.1, v.2.1, u3, v.2.2.2) x2 0) : Option (Int32 × CV)).bind (fun u4 => if u4.1 = 0 then (some (.inl (x3, u4.2))) else (fX6_cover_L39 n v x1 x2 (x3 + 1) u4.2)))))
set_option maxRecDepth 100000 in
set_option maxHeartbeats 4000000 in
theorem tX6_cover_l39 {X : zX} {l : Launch} {G : va_G} {ca : Nat → ClassId} {ad : Nat → Nat} (h : zOk X l G ca cX6_cover RX6 wsX6_cover 4 rX6_cover) : ∀ (n : Nat) (v : XV) (x1 : Int32) (x2 : Int32) (x3 : Int32) (m2 : CV) (out : ((Int32 × CV) ⊕ CV)), fX6_cover_L39 n v x1 x2 x3 m2 = some out → (∀ e, out = .inr e → V X G 4 0 0 (wX ca ad (v.1, v.2.1, e, v.2.2.2)) 76 [] []) → (∀ r, out = .inl r → zEi X G cX6_cover 4 .int r.1 (wX ca ad (v.1, v.2.1, r.2, v.2.2.2))) → V X G 4 0 0 (wX ca ad (v.1, v.2.1, m2, v.2.2.2)) 39 [(0, .ref (ad 0)), (1, .int x1), (2, .int x2), (3, .int x3)] [] := by
  intro n
  induction n with
  | zero => intro v x1 x2 x3 m2 out hf; rw [fX6_cover_L39] at hf; cases hf
  | succ n ih =>
    intro v x1 x2 x3 m2 out hf kx kr
    rw [fX6_cover_L39] at hf
    refine v_iload_n h dX6_cover_39 3 rfl 40 rfl ?_
    refine v_bipush h dX6_cover_40 20 rfl 42 rfl ?_
    refine v_icmp_gt h dX6_cover_42 76 (by decide) 45 rfl (fun c1 => ?_) (fun c1 => ?_)
    · replace hf := zt c1 hf
      cases (Option.some.inj hf)
      exact v_sub [] rfl (kx _ rfl)
    · replace hf := zf c1 hf
      refine v_aload_n h dX6_cover_45 0 rfl 46 rfl ?_
      obtain ⟨u2, hu2, hf⟩ := zb hf
      refine v_wcallVv h (rest := []) dX6_cover_46 (tX6_startTrial l G ca ad (v.1, v.2.1, m2, v.2.2.2)  hu2) gX6_cover_X6_startTrial rfl rfl ⟨rfl, rfl⟩ nX6_startTrial ⟨Nat.le_of_ble_eq_true rfl, Nat.le_of_ble_eq_true rfl⟩ 0 rfl rfl rfl rfl (Nat.le_of_ble_eq_true rfl) ⟨Nat.zero_le _, Nat.zero_le _⟩ (wX_adr _ _ _ _) 49 rfl ?_
      refine v_aload_n h dX6_cover_49 0 rfl 50 rfl ?_
      refine v_get h (v := .ref (ad 99)) dX6_cover_50 iX6_cover_X6 0 rfl rfl 2 (by decide) (zwi 4 rfl) rfl 53 rfl ?_
      refine v_iload_n h dX6_cover_53 1 rfl 54 rfl ?_
      refine v_iload_n h dX6_cover_54 3 rfl 55 rfl ?_
      refine v_iconst h dX6_cover_55 0 rfl 56 rfl ?_
      obtain ⟨u3, hu3, hf⟩ := zb hf
      refine v_callVv h (rest := []) dX6_cover_56 (tX0_putOver l G ca (fun i => ad (99 + i)) u2 x1 x3 0 hu3) gX6_cover_X0_putOver rfl rfl ⟨rfl, rfl⟩ nX0_putOver ⟨Nat.le_of_ble_eq_true rfl, Nat.le_of_ble_eq_true rfl⟩ [99, 100, 101, 102, 103] rfl rfl 0 rfl rfl rfl rfl (Nat.le_of_ble_eq_true rfl) ⟨Nat.zero_le _, Nat.zero_le _⟩ rfl (wX ca ad (v.1, v.2.1, u3, v.2.2.2)) rfl (wX_adr _ _ _ _) 59 rfl ?_
      refine v_aload_n h dX6_cover_59 0 rfl 60 rfl ?_
      refine v_iload_n h dX6_cover_60 2 rfl 61 rfl ?_
      refine v_iconst h dX6_cover_61 0 rfl 62 rfl ?_
      obtain ⟨u4, hu4, hf⟩ := zb hf
      refine v_wcallVi h (rest := []) dX6_cover_62 (tX6_leaksOfTrialUpTo l G ca ad (v.1, v.2.1, u3, v.2.2.2) x2 0 hu4) gX6_cover_X6_leaksOfTrialUpTo rfl rfl ⟨rfl, rfl⟩ nX6_leaksOfTrialUpTo ⟨Nat.le_of_ble_eq_true rfl, Nat.le_of_ble_eq_true rfl⟩ 0 rfl rfl rfl rfl (Nat.le_of_ble_eq_true rfl) ⟨Nat.zero_le _, Nat.zero_le _⟩ (wX_adr _ _ _ _) 65 rfl ?_
      refine v_if_ne h dX6_cover_65 70 (by decide) 68 rfl (fun c5 => ?_) (fun c5 => ?_)
      · replace hf := zf c5 hf
        refine v_iinc h dX6_cover_70 3 rfl (x3 + 1) rfl (Nat.le_of_ble_eq_true rfl) rfl rfl [(0, .ref (ad 0)), (1, .int x1), (2, .int x2), (3, .int (x3 + 1))] rfl 73 rfl ?_
        refine v_goto h dX6_cover_73 39 (by decide) ?_
        exact v_sub [0, 1, 2, 3] rfl (ih v x1 x2 (x3 + 1) u4.2 _ hf kx kr)
      · replace hf := zt c5 hf
        refine v_iload_n h dX6_cover_68 3 rfl 69 rfl ?_
        cases (Option.some.inj hf)
        exact kr _ rfl 69 _ rfl dX6_cover_69
def fX6_cover (v : XV) (x1 : Int32) (x2 : Int32) : Option (Int32 × CV) := ((fX6_isKind x1) : Option Int32).bind (fun u1 => if u1 = 0 then (some ((-1), v.2.2.1)) else (((fX6_outside x2 1 20) : Option Int32).bind (fun u3 => if u3 = 0 then (if v.1.2.2.1.2.2.2.2.1 < 10 then (((fX6_cover_L39 zF v x1 x2 1 v.2.2.1) : Option ((Int32 × CV) ⊕ CV)).bind (fun u6 => zrt u6 (fun r => some r) (fun x7 => some ((-4), x7)))) else (some ((-3), v.2.2.1))) else (some ((-1), v.2.2.1)))))
set_option maxRecDepth 100000 in
set_option maxHeartbeats 4000000 in
theorem tX6_cover (l : Launch) (G : va_G) (ca : Nat → ClassId) (ad : Nat → Nat) (v : XV) (x1 : Int32) (x2 : Int32) {o : (Int32 × CV)} (hf : fX6_cover v x1 x2 = some o) : zMi l yX6_cover wsX6_cover rX6_cover G ca [.ref (ad 0), .int x1, .int x2] (wX ca ad v) o.1 (wX ca ad (v.1, v.2.1, o.2, v.2.2.2)) := by
  refine zMi.of (cc := cX6_cover) (nL := 4) (own := RX6) (ty := .int) (by decide) rfl rfl (Nat.le_of_ble_eq_true rfl) (fun X h hE => ?_)
  show V X G 4 0 0 (wX ca ad v) 0 [(0, .ref (ad 0)), (1, .int x1), (2, .int x2)] []
  unfold fX6_cover at hf
  refine v_iload_n h dX6_cover_0 1 rfl 1 rfl ?_
  obtain ⟨u1, hu1, hf⟩ := zb hf
  refine v_callSi h (rest := []) dX6_cover_1 (tX6_isKind l G ca   x1 hu1) gX6_cover_X6_isKind rfl ⟨rfl, rfl⟩ nX6_isKind ⟨Nat.le_of_ble_eq_true rfl, Nat.le_of_ble_eq_true rfl⟩ [] rfl rfl rfl rfl (Nat.le_of_ble_eq_true rfl) ⟨Nat.zero_le _, Nat.zero_le _⟩ rfl (wX ca ad v) rfl (wX_adr _ _ _ _) 4 rfl ?_
  refine v_if_eq h dX6_cover_4 17 (by decide) 7 rfl (fun c2 => ?_) (fun c2 => ?_)
  · replace hf := zt c2 hf
    refine v_iconst h dX6_cover_17 (-1) rfl 18 rfl ?_
    cases (Option.some.inj hf)
    exact hE 18 _ rfl dX6_cover_18
  · replace hf := zf c2 hf
    refine v_iload_n h dX6_cover_7 2 rfl 8 rfl ?_
    refine v_iconst h dX6_cover_8 1 rfl 9 rfl ?_
    refine v_bipush h dX6_cover_9 20 rfl 11 rfl ?_
    obtain ⟨u3, hu3, hf⟩ := zb hf
    refine v_callSi h (rest := []) dX6_cover_11 (tX6_outside l G ca   x2 1 20 hu3) gX6_cover_X6_outside rfl ⟨rfl, rfl⟩ nX6_outside ⟨Nat.le_of_ble_eq_true rfl, Nat.le_of_ble_eq_true rfl⟩ [] rfl rfl rfl rfl (Nat.le_of_ble_eq_true rfl) ⟨Nat.zero_le _, Nat.zero_le _⟩ rfl (wX ca ad v) rfl (wX_adr _ _ _ _) 14 rfl ?_
    refine v_if_eq h dX6_cover_14 19 (by decide) 17 rfl (fun c4 => ?_) (fun c4 => ?_)
    · replace hf := zt c4 hf
      refine v_aload_n h dX6_cover_19 0 rfl 20 rfl ?_
      refine v_get h (v := .ref (ad 1)) dX6_cover_20 iX6_cover_X6 0 rfl rfl 0 (by decide) (zwi 1 rfl) rfl 23 rfl ?_
      refine v_get h (v := .ref (ad 4)) dX6_cover_23 iX6_cover_X1 1 rfl rfl 2 (by decide) (zwi 2 rfl) rfl 26 rfl ?_
      refine v_get h (v := .int v.1.2.2.1.2.2.2.2.1) dX6_cover_26 iX6_cover_X0 4 rfl rfl 4 (by decide) (zwi 3 rfl) rfl 29 rfl ?_
      refine v_bipush h dX6_cover_29 10 rfl 31 rfl ?_
      refine v_icmp_lt h dX6_cover_31 37 (by decide) 34 rfl (fun c5 => ?_) (fun c5 => ?_)
      · replace hf := zt c5 hf
        refine v_iconst h dX6_cover_37 1 rfl 38 rfl ?_
        refine v_istore_n h dX6_cover_38 (Nat.le_of_ble_eq_true rfl) rfl rfl [(0, .ref (ad 0)), (1, .int x1), (2, .int x2), (3, .int 1)] rfl 39 rfl ?_
        obtain ⟨u6, hu6, hf⟩ := zb hf
        refine v_sub [0, 1, 2, 3] rfl ?_
        refine tX6_cover_l39 h zF v x1 x2 1 v.2.2.1 _ hu6 (fun x7 ex => ?_) (fun x7 ex => ?_)
        · subst ex
          replace hf := hf
          refine v_bipush h dX6_cover_76 (-4) rfl 78 rfl ?_
          cases (Option.some.inj hf)
          exact hE 78 _ rfl dX6_cover_78
        · subst ex
          cases (Option.some.inj hf)
          exact hE
      · replace hf := zf c5 hf
        refine v_bipush h dX6_cover_34 (-3) rfl 36 rfl ?_
        cases (Option.some.inj hf)
        exact hE 36 _ rfl dX6_cover_36
    · replace hf := zf c4 hf
      refine v_iconst h dX6_cover_17 (-1) rfl 18 rfl ?_
      cases (Option.some.inj hf)
      exact hE 18 _ rfl dX6_cover_18
abbrev rX6_relief : Room := { frames := 6, cells := 0, slots := 0, locals := 131 }
theorem nX6_relief : zNoMH yX6_relief 2 := ⟨by decide +kernel, by decide +kernel, by decide +kernel⟩
theorem iX6_relief_X6 : ∀ w ∈ wsX60, w ∈ wsX6_relief := fun _ h => (List.mem_cons_of_mem _ (List.mem_append_left _ (List.mem_append_left _ (List.mem_append_left _ (List.mem_append_right _ h)))))
theorem iX6_relief_X1 : ∀ w ∈ wsX10, w ∈ wsX6_relief := fun _ h => (List.mem_cons_of_mem _ (List.mem_append_left _ (List.mem_append_left _ (List.mem_append_right _ h))))
theorem iX6_relief_X0 : ∀ w ∈ wsX00, w ∈ wsX6_relief := fun _ h => (List.mem_cons_of_mem _ (List.mem_append_left _ (List.mem_append_right _ h)))
theorem iX6_relief_X5 : ∀ w ∈ wsX50, w ∈ wsX6_relief := fun _ h => (List.mem_cons_of_mem _ (List.mem_append_right _ h))
def fX6_relief_L31 : Nat → XV → Int32 → Int32 → Int32 → Int32 → Int32 → CV → Option (Int32 × Int32 × CV)
  | 0, _, _, _, _, _, _, _ => none
  | n + 1, v, x1, x2, x3, x4, x5, m2 => if v.1.2.2.1.2.2.2.2.1 ≤ x5 then (some (x3, x4, m2)) else (((fX6_startTrial (v.1, v.2.1, m2, v.2.2.2)) : Option CV).bind (fun u2 => ((fX0_takeOut u2 x5) : Option CV).bind (fun u3 => ((fX0_heaviness u3) : Option Int32).bind (fun u4 => if v.1.1 < u4 then (fX6_relief_L31 n v x1 x2 x3 x4 (x5 + 1) u3) else (((fX6_leaksOfTrial (v.1, v.2.1, u3, v.2.2.2) x1) : Option (Int32 × CV)).bind (fun u6 => if x4 ≤ u6.1 then (fX6_relief_L31 n v x1 x2 x3 x4 (x5 + 1) u6.2) else (fX6_relief_L31 n v x1 x2 x5 u6.1 (x5 + 1) u6.2)))))))
set_option maxRecDepth 100000 in
set_option maxHeartbeats 4000000 in
theorem tX6_relief_l31 {X : zX} {l : Launch} {G : va_G} {ca : Nat → ClassId} {ad : Nat → Nat} (h : zOk X l G ca cX6_relief RX6 wsX6_relief 7 rX6_relief) : ∀ (n : Nat) (v : XV) (x1 : Int32) (x2 : Int32) (x3 : Int32) (x4 : Int32) (x5 : Int32) (m2 : CV) (out : (Int32 × Int32 × CV)), fX6_relief_L31 n v x1 x2 x3 x4 x5 m2 = some out → (V X G 7 0 0 (wX ca ad (v.1, v.2.1, out.2.2, v.2.2.2)) 103 [(2, .int x2), (3, .int out.1), (4, .int out.2.1)] []) → V X G 7 0 0 (wX ca ad (v.1, v.2.1, m2, v.2.2.2)) 31 [(0, .ref (ad 0)), (1, .int x1), (2, .int x2), (3, .int x3), (4, .int x4), (5, .int x5)] [] := by
  intro n
  induction n with
  | zero => intro v x1 x2 x3 x4 x5 m2 out hf; rw [fX6_relief_L31] at hf; cases hf
  | succ n ih =>
    intro v x1 x2 x3 x4 x5 m2 out hf kx
    rw [fX6_relief_L31] at hf
    refine v_iload h dX6_relief_31 5 rfl 33 rfl ?_
    refine v_aload_n h dX6_relief_33 0 rfl 34 rfl ?_
    refine v_get h (v := .ref (ad 1)) dX6_relief_34 iX6_relief_X6 0 rfl rfl 0 (by decide) (zwi 2 rfl) rfl 37 rfl ?_
    refine v_get h (v := .ref (ad 4)) dX6_relief_37 iX6_relief_X1 1 rfl rfl 2 (by decide) (zwi 3 rfl) rfl 40 rfl ?_
    refine v_get h (v := .int v.1.2.2.1.2.2.2.2.1) dX6_relief_40 iX6_relief_X0 4 rfl rfl 4 (by decide) (zwi 4 rfl) rfl 43 rfl ?_
    refine v_icmp_ge h dX6_relief_43 103 (by decide) 46 rfl (fun c1 => ?_) (fun c1 => ?_)
    · replace hf := zt c1 hf
      cases (Option.some.inj hf)
      exact v_sub [2, 3, 4] rfl (kx)
    · replace hf := zf c1 hf
      refine v_aload_n h dX6_relief_46 0 rfl 47 rfl ?_
      obtain ⟨u2, hu2, hf⟩ := zb hf
      refine v_wcallVv h (rest := []) dX6_relief_47 (tX6_startTrial l G ca ad (v.1, v.2.1, m2, v.2.2.2)  hu2) gX6_relief_X6_startTrial rfl rfl ⟨rfl, rfl⟩ nX6_startTrial ⟨Nat.le_of_ble_eq_true rfl, Nat.le_of_ble_eq_true rfl⟩ 0 rfl rfl rfl rfl (Nat.le_of_ble_eq_true rfl) ⟨Nat.zero_le _, Nat.zero_le _⟩ (wX_adr _ _ _ _) 50 rfl ?_
      refine v_aload_n h dX6_relief_50 0 rfl 51 rfl ?_
      refine v_get h (v := .ref (ad 99)) dX6_relief_51 iX6_relief_X6 0 rfl rfl 2 (by decide) (zwi 5 rfl) rfl 54 rfl ?_
      refine v_iload h dX6_relief_54 5 rfl 56 rfl ?_
      obtain ⟨u3, hu3, hf⟩ := zb hf
      refine v_callVv h (rest := []) dX6_relief_56 (tX0_takeOut l G ca (fun i => ad (99 + i)) u2 x5 hu3) gX6_relief_X0_takeOut rfl rfl ⟨rfl, rfl⟩ nX0_takeOut ⟨Nat.le_of_ble_eq_true rfl, Nat.le_of_ble_eq_true rfl⟩ [99, 100, 101, 102, 103] rfl rfl 0 rfl rfl rfl rfl (Nat.le_of_ble_eq_true rfl) ⟨Nat.zero_le _, Nat.zero_le _⟩ rfl (wX ca ad (v.1, v.2.1, u3, v.2.2.2)) rfl (wX_adr _ _ _ _) 59 rfl ?_
      refine v_aload_n h dX6_relief_59 0 rfl 60 rfl ?_
      refine v_get h (v := .ref (ad 99)) dX6_relief_60 iX6_relief_X6 0 rfl rfl 2 (by decide) (zwi 5 rfl) rfl 63 rfl ?_
      obtain ⟨u4, hu4, hf⟩ := zb hf
      refine v_callVi h (rest := []) dX6_relief_63 (tX0_heaviness l G ca (fun i => ad (99 + i)) u3  hu4) gX6_relief_X0_heaviness rfl rfl ⟨rfl, rfl⟩ nX0_heaviness ⟨Nat.le_of_ble_eq_true rfl, Nat.le_of_ble_eq_true rfl⟩ [99, 100, 101, 102, 103] rfl rfl 0 rfl rfl rfl rfl (Nat.le_of_ble_eq_true rfl) ⟨Nat.zero_le _, Nat.zero_le _⟩ rfl (wX ca ad (v.1, v.2.1, u3, v.2.2.2)) rfl (wX_adr _ _ _ _) 66 rfl ?_
      refine v_aload_n h dX6_relief_66 0 rfl 67 rfl ?_
      refine v_get h (v := .ref (ad 1)) dX6_relief_67 iX6_relief_X6 0 rfl rfl 0 (by decide) (zwi 2 rfl) rfl 70 rfl ?_
      refine v_get h (v := .int v.1.1) dX6_relief_70 iX6_relief_X1 1 rfl rfl 0 (by decide) (zwi 6 rfl) rfl 73 rfl ?_
      refine v_icmp_gt h dX6_relief_73 97 (by decide) 76 rfl (fun c5 => ?_) (fun c5 => ?_)
      · replace hf := zt c5 hf
        refine v_iinc h dX6_relief_97 5 rfl (x5 + 1) rfl (Nat.le_of_ble_eq_true rfl) rfl rfl [(0, .ref (ad 0)), (1, .int x1), (2, .int x2), (3, .int x3), (4, .int x4), (5, .int (x5 + 1))] rfl 100 rfl ?_
        refine v_goto h dX6_relief_100 31 (by decide) ?_
        exact v_sub [0, 1, 2, 3, 4, 5] rfl (ih v x1 x2 x3 x4 (x5 + 1) u3 _ hf kx)
      · replace hf := zf c5 hf
        refine v_aload_n h dX6_relief_76 0 rfl 77 rfl ?_
        refine v_iload_n h dX6_relief_77 1 rfl 78 rfl ?_
        obtain ⟨u6, hu6, hf⟩ := zb hf
        refine v_wcallVi h (rest := []) dX6_relief_78 (tX6_leaksOfTrial l G ca ad (v.1, v.2.1, u3, v.2.2.2) x1 hu6) gX6_relief_X6_leaksOfTrial rfl rfl ⟨rfl, rfl⟩ nX6_leaksOfTrial ⟨Nat.le_of_ble_eq_true rfl, Nat.le_of_ble_eq_true rfl⟩ 0 rfl rfl rfl rfl (Nat.le_of_ble_eq_true rfl) ⟨Nat.zero_le _, Nat.zero_le _⟩ (wX_adr _ _ _ _) 81 rfl ?_
        refine v_istore h dX6_relief_81 (Nat.le_of_ble_eq_true rfl) rfl rfl [(0, .ref (ad 0)), (1, .int x1), (2, .int x2), (3, .int x3), (4, .int x4), (5, .int x5), (6, .int u6.1)] rfl 83 rfl ?_
        refine v_iload h dX6_relief_83 6 rfl 85 rfl ?_
        refine v_iload h dX6_relief_85 4 rfl 87 rfl ?_
        refine v_icmp_ge h dX6_relief_87 97 (by decide) 90 rfl (fun c7 => ?_) (fun c7 => ?_)
        · replace hf := zt c7 hf
          refine v_iinc h dX6_relief_97 5 rfl (x5 + 1) rfl (Nat.le_of_ble_eq_true rfl) rfl rfl [(0, .ref (ad 0)), (1, .int x1), (2, .int x2), (3, .int x3), (4, .int x4), (5, .int (x5 + 1)), (6, .int u6.1)] rfl 100 rfl ?_
          refine v_goto h dX6_relief_100 31 (by decide) ?_
          exact v_sub [0, 1, 2, 3, 4, 5] rfl (ih v x1 x2 x3 x4 (x5 + 1) u6.2 _ hf kx)
        · replace hf := zf c7 hf
          refine v_iload h dX6_relief_90 6 rfl 92 rfl ?_
          refine v_istore h dX6_relief_92 (Nat.le_of_ble_eq_true rfl) rfl rfl [(0, .ref (ad 0)), (1, .int x1), (2, .int x2), (3, .int x3), (4, .int u6.1), (5, .int x5), (6, .int u6.1)] rfl 94 rfl ?_
          refine v_iload h dX6_relief_94 5 rfl 96 rfl ?_
          refine v_istore_n h dX6_relief_96 (Nat.le_of_ble_eq_true rfl) rfl rfl [(0, .ref (ad 0)), (1, .int x1), (2, .int x2), (3, .int x5), (4, .int u6.1), (5, .int x5), (6, .int u6.1)] rfl 97 rfl ?_
          refine v_iinc h dX6_relief_97 5 rfl (x5 + 1) rfl (Nat.le_of_ble_eq_true rfl) rfl rfl [(0, .ref (ad 0)), (1, .int x1), (2, .int x2), (3, .int x5), (4, .int u6.1), (5, .int (x5 + 1)), (6, .int u6.1)] rfl 100 rfl ?_
          refine v_goto h dX6_relief_100 31 (by decide) ?_
          exact v_sub [0, 1, 2, 3, 4, 5] rfl (ih v x1 x2 x5 u6.1 (x5 + 1) u6.2 _ hf kx)
def fX6_relief (v : XV) (x1 : Int32) (x2 : Int32) : Option (Int32 × CV) := ((fX6_outside x1 1 20) : Option Int32).bind (fun u1 => if u1 = 0 then (((fX6_outside x2 0 1) : Option Int32).bind (fun u3 => if u3 = 0 then (((fX6_relief_L31 zF v x1 x2 (-4) 1000000000 0 v.2.2.1) : Option (Int32 × Int32 × CV)).bind (fun u5 => if u5.1 = (-4) then (some (u5.1, u5.2.2)) else (if x2 = 0 then (some (u5.1, u5.2.2)) else (some (u5.2.1, u5.2.2))))) else (some ((-1), v.2.2.1)))) else (some ((-1), v.2.2.1)))
set_option maxRecDepth 100000 in
set_option maxHeartbeats 4000000 in
theorem tX6_relief (l : Launch) (G : va_G) (ca : Nat → ClassId) (ad : Nat → Nat) (v : XV) (x1 : Int32) (x2 : Int32) {o : (Int32 × CV)} (hf : fX6_relief v x1 x2 = some o) : zMi l yX6_relief wsX6_relief rX6_relief G ca [.ref (ad 0), .int x1, .int x2] (wX ca ad v) o.1 (wX ca ad (v.1, v.2.1, o.2, v.2.2.2)) := by
  refine zMi.of (cc := cX6_relief) (nL := 7) (own := RX6) (ty := .int) (by decide) rfl rfl (Nat.le_of_ble_eq_true rfl) (fun X h hE => ?_)
  show V X G 7 0 0 (wX ca ad v) 0 [(0, .ref (ad 0)), (1, .int x1), (2, .int x2)] []
  unfold fX6_relief at hf
  refine v_iload_n h dX6_relief_0 1 rfl 1 rfl ?_
  refine v_iconst h dX6_relief_1 1 rfl 2 rfl ?_
  refine v_bipush h dX6_relief_2 20 rfl 4 rfl ?_
  obtain ⟨u1, hu1, hf⟩ := zb hf
  refine v_callSi h (rest := []) dX6_relief_4 (tX6_outside l G ca   x1 1 20 hu1) gX6_relief_X6_outside rfl ⟨rfl, rfl⟩ nX6_outside ⟨Nat.le_of_ble_eq_true rfl, Nat.le_of_ble_eq_true rfl⟩ [] rfl rfl rfl rfl (Nat.le_of_ble_eq_true rfl) ⟨Nat.zero_le _, Nat.zero_le _⟩ rfl (wX ca ad v) rfl (wX_adr _ _ _ _) 7 rfl ?_
  refine v_if_ne h dX6_relief_7 19 (by decide) 10 rfl (fun c2 => ?_) (fun c2 => ?_)
  · replace hf := zf c2 hf
    refine v_iconst h dX6_relief_19 (-1) rfl 20 rfl ?_
    cases (Option.some.inj hf)
    exact hE 20 _ rfl dX6_relief_20
  · replace hf := zt c2 hf
    refine v_iload_n h dX6_relief_10 2 rfl 11 rfl ?_
    refine v_iconst h dX6_relief_11 0 rfl 12 rfl ?_
    refine v_iconst h dX6_relief_12 1 rfl 13 rfl ?_
    obtain ⟨u3, hu3, hf⟩ := zb hf
    refine v_callSi h (rest := []) dX6_relief_13 (tX6_outside l G ca   x2 0 1 hu3) gX6_relief_X6_outside rfl ⟨rfl, rfl⟩ nX6_outside ⟨Nat.le_of_ble_eq_true rfl, Nat.le_of_ble_eq_true rfl⟩ [] rfl rfl rfl rfl (Nat.le_of_ble_eq_true rfl) ⟨Nat.zero_le _, Nat.zero_le _⟩ rfl (wX ca ad v) rfl (wX_adr _ _ _ _) 16 rfl ?_
    refine v_if_eq h dX6_relief_16 21 (by decide) 19 rfl (fun c4 => ?_) (fun c4 => ?_)
    · replace hf := zt c4 hf
      refine v_bipush h dX6_relief_21 (-4) rfl 23 rfl ?_
      refine v_istore_n h dX6_relief_23 (Nat.le_of_ble_eq_true rfl) rfl rfl [(0, .ref (ad 0)), (1, .int x1), (2, .int x2), (3, .int (-4))] rfl 24 rfl ?_
      refine v_ldc h dX6_relief_24 1000000000 (zwi 1 rfl) 26 rfl ?_
      refine v_istore h dX6_relief_26 (Nat.le_of_ble_eq_true rfl) rfl rfl [(0, .ref (ad 0)), (1, .int x1), (2, .int x2), (3, .int (-4)), (4, .int 1000000000)] rfl 28 rfl ?_
      refine v_iconst h dX6_relief_28 0 rfl 29 rfl ?_
      refine v_istore h dX6_relief_29 (Nat.le_of_ble_eq_true rfl) rfl rfl [(0, .ref (ad 0)), (1, .int x1), (2, .int x2), (3, .int (-4)), (4, .int 1000000000), (5, .int 0)] rfl 31 rfl ?_
      obtain ⟨u5, hu5, hf⟩ := zb hf
      refine v_sub [0, 1, 2, 3, 4, 5] rfl ?_
      refine tX6_relief_l31 h zF v x1 x2 (-4) 1000000000 0 v.2.2.1 _ hu5 ?_
      refine v_iload_n h dX6_relief_103 1 rfl 104 rfl ?_
      refine v_bipush h dX6_relief_104 (-4) rfl 106 rfl ?_
      refine v_icmp_eq h dX6_relief_106 113 (by decide) 109 rfl (fun c6 => ?_) (fun c6 => ?_)
      · replace hf := zt c6 hf
        refine v_iload_n h dX6_relief_113 1 rfl 114 rfl ?_
        refine v_goto h dX6_relief_114 119 (by decide) ?_
        cases (Option.some.inj hf)
        exact hE 119 _ rfl dX6_relief_119
      · replace hf := zf c6 hf
        refine v_iload_n h dX6_relief_109 0 rfl 110 rfl ?_
        refine v_if_ne h dX6_relief_110 117 (by decide) 113 rfl (fun c7 => ?_) (fun c7 => ?_)
        · replace hf := zf c7 hf
          refine v_iload h dX6_relief_117 2 rfl 119 rfl ?_
          cases (Option.some.inj hf)
          exact hE 119 _ rfl dX6_relief_119
        · replace hf := zt c7 hf
          refine v_iload_n h dX6_relief_113 1 rfl 114 rfl ?_
          refine v_goto h dX6_relief_114 119 (by decide) ?_
          cases (Option.some.inj hf)
          exact hE 119 _ rfl dX6_relief_119
    · replace hf := zf c4 hf
      refine v_iconst h dX6_relief_19 (-1) rfl 20 rfl ?_
      cases (Option.some.inj hf)
      exact hE 20 _ rfl dX6_relief_20
abbrev rX6_findBestParting : Room := { frames := 5, cells := 0, slots := 0, locals := 110 }
theorem nX6_findBestParting : zNoMH yX6_findBestParting 2 := ⟨by decide +kernel, by decide +kernel, by decide +kernel⟩
theorem iX6_findBestParting_X6 : ∀ w ∈ wsX60, w ∈ wsX6_findBestParting := fun _ h => (List.mem_cons_of_mem _ (List.mem_append_left _ (List.mem_append_left _ (List.mem_append_left _ (List.mem_append_left _ (List.mem_append_right _ h))))))
theorem iX6_findBestParting_X1 : ∀ w ∈ wsX10, w ∈ wsX6_findBestParting := fun _ h => (List.mem_cons_of_mem _ (List.mem_append_left _ (List.mem_append_left _ (List.mem_append_left _ (List.mem_append_right _ h)))))
theorem iX6_findBestParting_X0 : ∀ w ∈ wsX00, w ∈ wsX6_findBestParting := fun _ h => (List.mem_cons_of_mem _ (List.mem_append_left _ (List.mem_append_left _ (List.mem_append_right _ h))))
theorem iX6_findBestParting_X2 : ∀ w ∈ wsX20, w ∈ wsX6_findBestParting := fun _ h => (List.mem_cons_of_mem _ (List.mem_append_left _ (List.mem_append_right _ h)))
theorem iX6_findBestParting_X5 : ∀ w ∈ wsX50, w ∈ wsX6_findBestParting := fun _ h => (List.mem_cons_of_mem _ (List.mem_append_right _ h))
def fX6_findBestParting_L20 : Nat → XV → Int32 → Int32 → CV → PV → Option ((CV × PV) ⊕ (CV × PV))
  | 0, _, _, _, _, _ => none
  | n + 1, v, x2, x3, m2, m3 => if 1000000 ≤ x3 then (some (.inr (m2, m3))) else (((fX6_startTrial (v.1, v.2.1, m2, m3, v.2.2.2.2)) : Option CV).bind (fun u2 => ((fX0_thicken u2 m3.1) : Option CV).bind (fun u3 => ((fX6_leaksOfTrialUpTo (v.1, v.2.1, u3, m3, v.2.2.2.2) x2 m3.2.2.2.1) : Option (Int32 × CV)).bind (fun u4 => if m3.2.2.2.1 < u4.1 then (((fX2_advance m3) : Option (Int32 × PV)).bind (fun u6 => if u6.1 = 0 then (some (.inl (u4.2, u6.2))) else (fX6_findBestParting_L20 n v x2 (x3 + 1) u4.2 u6.2))) else (((fX0_heaviness u4.2) : Option Int32).bind (fun u8 => ((fX2_keepIfBetter m3 u4.1 u8) : Option PV).bind (fun u9 => ((fX2_advance u9) : Option (Int32 × PV)).bind (fun u10 => if u10.1 = 0 then (some (.inl (u4.2, u10.2))) else (fX6_findBestParting_L20 n v x2 (x3 + 1) u4.2 u10.2)))))))))
set_option maxRecDepth 100000 in
set_option maxHeartbeats 4000000 in
theorem tX6_findBestParting_l20 {X : zX} {l : Launch} {G : va_G} {ca : Nat → ClassId} {ad : Nat → Nat} (h : zOk X l G ca cX6_findBestParting RX6 wsX6_findBestParting 5 rX6_findBestParting) : ∀ (n : Nat) (v : XV) (x2 : Int32) (x3 : Int32) (m2 : CV) (m3 : PV) (out : ((CV × PV) ⊕ (CV × PV))), fX6_findBestParting_L20 n v x2 x3 m2 m3 = some out → (∀ e, out = .inr e → V X G 5 0 0 (wX ca ad (v.1, v.2.1, e.1, e.2, v.2.2.2.2)) 104 [] []) → (∀ r, out = .inl r → zEv X G cX6_findBestParting 5 (wX ca ad (v.1, v.2.1, r.1, r.2, v.2.2.2.2))) → V X G 5 0 0 (wX ca ad (v.1, v.2.1, m2, m3, v.2.2.2.2)) 20 [(0, .ref (ad 0)), (2, .int x2), (3, .int x3)] [] := by
  intro n
  induction n with
  | zero => intro v x2 x3 m2 m3 out hf; rw [fX6_findBestParting_L20] at hf; cases hf
  | succ n ih =>
    intro v x2 x3 m2 m3 out hf kx kr
    rw [fX6_findBestParting_L20] at hf
    refine v_iload_n h dX6_findBestParting_20 2 rfl 21 rfl ?_
    refine v_ldcw h dX6_findBestParting_21 1000000 (zwi 5 rfl) 24 rfl ?_
    refine v_icmp_ge h dX6_findBestParting_24 104 (by decide) 27 rfl (fun c1 => ?_) (fun c1 => ?_)
    · replace hf := zt c1 hf
      cases (Option.some.inj hf)
      exact v_sub [] rfl (kx _ rfl)
    · replace hf := zf c1 hf
      refine v_aload_n h dX6_findBestParting_27 0 rfl 28 rfl ?_
      obtain ⟨u2, hu2, hf⟩ := zb hf
      refine v_wcallVv h (rest := []) dX6_findBestParting_28 (tX6_startTrial l G ca ad (v.1, v.2.1, m2, m3, v.2.2.2.2)  hu2) gX6_findBestParting_X6_startTrial rfl rfl ⟨rfl, rfl⟩ nX6_startTrial ⟨Nat.le_of_ble_eq_true rfl, Nat.le_of_ble_eq_true rfl⟩ 0 rfl rfl rfl rfl (Nat.le_of_ble_eq_true rfl) ⟨Nat.zero_le _, Nat.zero_le _⟩ (wX_adr _ _ _ _) 31 rfl ?_
      refine v_aload_n h dX6_findBestParting_31 0 rfl 32 rfl ?_
      refine v_get h (v := .ref (ad 99)) dX6_findBestParting_32 iX6_findBestParting_X6 0 rfl rfl 2 (by decide) (zwi 6 rfl) rfl 35 rfl ?_
      refine v_aload_n h dX6_findBestParting_35 0 rfl 36 rfl ?_
      refine v_get h (v := .ref (ad 104)) dX6_findBestParting_36 iX6_findBestParting_X6 0 rfl rfl 3 (by decide) (zwi 1 rfl) rfl 39 rfl ?_
      refine v_get h (v := .ref (ad 105)) dX6_findBestParting_39 iX6_findBestParting_X2 104 rfl rfl 0 (by decide) (zwi 7 rfl) rfl 42 rfl ?_
      obtain ⟨u3, hu3, hf⟩ := zb hf
      refine v_gcallVv h (rest := []) dX6_findBestParting_42 (tX0_thicken l G ca (fun i => ad (99 + i)) (ad 105) u2 m3.1  hu3) gX6_findBestParting_X0_thicken rfl rfl ⟨rfl, rfl⟩ nX0_thicken ⟨Nat.le_of_ble_eq_true rfl, Nat.le_of_ble_eq_true rfl⟩ (List.range' 99 5 ++ List.range' 105 1) (seg2_at 99 5 105 1 rfl rfl rfl rfl) (nd_2 (by decide)) 0 rfl rfl rfl rfl (Nat.le_of_ble_eq_true rfl) ⟨Nat.zero_le _, Nat.zero_le _⟩ (wX ca ad (v.1, v.2.1, u3, m3, v.2.2.2.2)) (seg2_get (k1 := 99) (n1 := 5) (k2 := 105) (n2 := 1) rfl rfl (Nat.le_of_ble_eq_true rfl) rfl rfl (Nat.le_of_ble_eq_true rfl)) (wX_adr _ _ _ _) 45 rfl ?_
      refine v_aload_n h dX6_findBestParting_45 0 rfl 46 rfl ?_
      refine v_iload_n h dX6_findBestParting_46 1 rfl 47 rfl ?_
      refine v_aload_n h dX6_findBestParting_47 0 rfl 48 rfl ?_
      refine v_get h (v := .ref (ad 104)) dX6_findBestParting_48 iX6_findBestParting_X6 0 rfl rfl 3 (by decide) (zwi 1 rfl) rfl 51 rfl ?_
      refine v_get h (v := .int m3.2.2.2.1) dX6_findBestParting_51 iX6_findBestParting_X2 104 rfl rfl 3 (by decide) (zwi 8 rfl) rfl 54 rfl ?_
      obtain ⟨u4, hu4, hf⟩ := zb hf
      refine v_wcallVi h (rest := []) dX6_findBestParting_54 (tX6_leaksOfTrialUpTo l G ca ad (v.1, v.2.1, u3, m3, v.2.2.2.2) x2 m3.2.2.2.1 hu4) gX6_findBestParting_X6_leaksOfTrialUpTo rfl rfl ⟨rfl, rfl⟩ nX6_leaksOfTrialUpTo ⟨Nat.le_of_ble_eq_true rfl, Nat.le_of_ble_eq_true rfl⟩ 0 rfl rfl rfl rfl (Nat.le_of_ble_eq_true rfl) ⟨Nat.zero_le _, Nat.zero_le _⟩ (wX_adr _ _ _ _) 57 rfl ?_
      refine v_istore h dX6_findBestParting_57 (Nat.le_of_ble_eq_true rfl) rfl rfl [(0, .ref (ad 0)), (2, .int x2), (3, .int x3), (4, .int u4.1)] rfl 59 rfl ?_
      refine v_iload h dX6_findBestParting_59 3 rfl 61 rfl ?_
      refine v_aload_n h dX6_findBestParting_61 0 rfl 62 rfl ?_
      refine v_get h (v := .ref (ad 104)) dX6_findBestParting_62 iX6_findBestParting_X6 0 rfl rfl 3 (by decide) (zwi 1 rfl) rfl 65 rfl ?_
      refine v_get h (v := .int m3.2.2.2.1) dX6_findBestParting_65 iX6_findBestParting_X2 104 rfl rfl 3 (by decide) (zwi 8 rfl) rfl 68 rfl ?_
      refine v_icmp_gt h dX6_findBestParting_68 87 (by decide) 71 rfl (fun c5 => ?_) (fun c5 => ?_)
      · replace hf := zt c5 hf
        refine v_aload_n h dX6_findBestParting_87 0 rfl 88 rfl ?_
        refine v_get h (v := .ref (ad 104)) dX6_findBestParting_88 iX6_findBestParting_X6 0 rfl rfl 3 (by decide) (zwi 1 rfl) rfl 91 rfl ?_
        obtain ⟨u6, hu6, hf⟩ := zb hf
        refine v_callVi h (rest := []) dX6_findBestParting_91 (tX2_advance l G ca (fun i => ad (104 + i)) m3  hu6) gX6_findBestParting_X2_advance rfl rfl ⟨rfl, rfl⟩ nX2_advance ⟨Nat.le_of_ble_eq_true rfl, Nat.le_of_ble_eq_true rfl⟩ [104, 105, 106] rfl rfl 0 rfl rfl rfl rfl (Nat.le_of_ble_eq_true rfl) ⟨Nat.zero_le _, Nat.zero_le _⟩ rfl (wX ca ad (v.1, v.2.1, u4.2, u6.2, v.2.2.2.2)) rfl (wX_adr _ _ _ _) 94 rfl ?_
        refine v_if_ne h dX6_findBestParting_94 98 (by decide) 97 rfl (fun c7 => ?_) (fun c7 => ?_)
        · replace hf := zf c7 hf
          refine v_iinc h dX6_findBestParting_98 2 rfl (x3 + 1) rfl (Nat.le_of_ble_eq_true rfl) rfl rfl [(0, .ref (ad 0)), (2, .int x2), (3, .int (x3 + 1)), (4, .int u4.1)] rfl 101 rfl ?_
          refine v_goto h dX6_findBestParting_101 20 (by decide) ?_
          exact v_sub [0, 1, 2] rfl (ih v x2 (x3 + 1) u4.2 u6.2 _ hf kx kr)
        · replace hf := zt c7 hf
          cases (Option.some.inj hf)
          exact kr _ rfl 97 _ dX6_findBestParting_97
      · replace hf := zf c5 hf
        refine v_aload_n h dX6_findBestParting_71 0 rfl 72 rfl ?_
        refine v_get h (v := .ref (ad 104)) dX6_findBestParting_72 iX6_findBestParting_X6 0 rfl rfl 3 (by decide) (zwi 1 rfl) rfl 75 rfl ?_
        refine v_iload h dX6_findBestParting_75 3 rfl 77 rfl ?_
        refine v_aload_n h dX6_findBestParting_77 0 rfl 78 rfl ?_
        refine v_get h (v := .ref (ad 99)) dX6_findBestParting_78 iX6_findBestParting_X6 0 rfl rfl 2 (by decide) (zwi 6 rfl) rfl 81 rfl ?_
        obtain ⟨u8, hu8, hf⟩ := zb hf
        refine v_callVi h (rest := [.int u4.1, .ref (ad 104)]) dX6_findBestParting_81 (tX0_heaviness l G ca (fun i => ad (99 + i)) u4.2  hu8) gX6_findBestParting_X0_heaviness rfl rfl ⟨rfl, rfl⟩ nX0_heaviness ⟨Nat.le_of_ble_eq_true rfl, Nat.le_of_ble_eq_true rfl⟩ [99, 100, 101, 102, 103] rfl rfl 0 rfl rfl rfl rfl (Nat.le_of_ble_eq_true rfl) ⟨Nat.zero_le _, Nat.zero_le _⟩ rfl (wX ca ad (v.1, v.2.1, u4.2, m3, v.2.2.2.2)) rfl (wX_adr _ _ _ _) 84 rfl ?_
        obtain ⟨u9, hu9, hf⟩ := zb hf
        refine v_callVv h (rest := []) dX6_findBestParting_84 (tX2_keepIfBetter l G ca (fun i => ad (104 + i)) m3 u4.1 u8 hu9) gX6_findBestParting_X2_keepIfBetter rfl rfl ⟨rfl, rfl⟩ nX2_keepIfBetter ⟨Nat.le_of_ble_eq_true rfl, Nat.le_of_ble_eq_true rfl⟩ [104, 105, 106] rfl rfl 0 rfl rfl rfl rfl (Nat.le_of_ble_eq_true rfl) ⟨Nat.zero_le _, Nat.zero_le _⟩ rfl (wX ca ad (v.1, v.2.1, u4.2, u9, v.2.2.2.2)) rfl (wX_adr _ _ _ _) 87 rfl ?_
        refine v_aload_n h dX6_findBestParting_87 0 rfl 88 rfl ?_
        refine v_get h (v := .ref (ad 104)) dX6_findBestParting_88 iX6_findBestParting_X6 0 rfl rfl 3 (by decide) (zwi 1 rfl) rfl 91 rfl ?_
        obtain ⟨u10, hu10, hf⟩ := zb hf
        refine v_callVi h (rest := []) dX6_findBestParting_91 (tX2_advance l G ca (fun i => ad (104 + i)) u9  hu10) gX6_findBestParting_X2_advance rfl rfl ⟨rfl, rfl⟩ nX2_advance ⟨Nat.le_of_ble_eq_true rfl, Nat.le_of_ble_eq_true rfl⟩ [104, 105, 106] rfl rfl 0 rfl rfl rfl rfl (Nat.le_of_ble_eq_true rfl) ⟨Nat.zero_le _, Nat.zero_le _⟩ rfl (wX ca ad (v.1, v.2.1, u4.2, u10.2, v.2.2.2.2)) rfl (wX_adr _ _ _ _) 94 rfl ?_
        refine v_if_ne h dX6_findBestParting_94 98 (by decide) 97 rfl (fun c11 => ?_) (fun c11 => ?_)
        · replace hf := zf c11 hf
          refine v_iinc h dX6_findBestParting_98 2 rfl (x3 + 1) rfl (Nat.le_of_ble_eq_true rfl) rfl rfl [(0, .ref (ad 0)), (2, .int x2), (3, .int (x3 + 1)), (4, .int u4.1)] rfl 101 rfl ?_
          refine v_goto h dX6_findBestParting_101 20 (by decide) ?_
          exact v_sub [0, 1, 2] rfl (ih v x2 (x3 + 1) u4.2 u10.2 _ hf kx kr)
        · replace hf := zt c11 hf
          cases (Option.some.inj hf)
          exact kr _ rfl 97 _ dX6_findBestParting_97
def fX6_findBestParting (v : XV) (x1 : Int32) (x2 : Int32) : Option (CV × PV) := ((fX2_begin v.2.2.2.1 v.1.2.2.1.2.2.2.2.1 x1) : Option PV).bind (fun u1 => ((fX6_findBestParting_L20 zF (v.1, v.2.1, v.2.2.1, u1, v.2.2.2.2) x2 0 v.2.2.1 u1) : Option ((CV × PV) ⊕ (CV × PV))).bind (fun u2 => zrt u2 (fun r => some r) (fun x3 => some (x3.1, x3.2))))
set_option maxRecDepth 100000 in
set_option maxHeartbeats 4000000 in
theorem tX6_findBestParting (l : Launch) (G : va_G) (ca : Nat → ClassId) (ad : Nat → Nat) (v : XV) (x1 : Int32) (x2 : Int32) {o : (CV × PV)} (hf : fX6_findBestParting v x1 x2 = some o) : zMv l yX6_findBestParting wsX6_findBestParting rX6_findBestParting G ca [.ref (ad 0), .int x1, .int x2] (wX ca ad v) (wX ca ad (v.1, v.2.1, o.1, o.2, v.2.2.2.2)) := by
  refine zMv.of (cc := cX6_findBestParting) (nL := 5) (own := RX6) (by decide) rfl rfl (Nat.le_of_ble_eq_true rfl) (fun X h hE => ?_)
  show V X G 5 0 0 (wX ca ad v) 0 [(0, .ref (ad 0)), (1, .int x1), (2, .int x2)] []
  unfold fX6_findBestParting at hf
  refine v_aload_n h dX6_findBestParting_0 0 rfl 1 rfl ?_
  refine v_get h (v := .ref (ad 104)) dX6_findBestParting_1 iX6_findBestParting_X6 0 rfl rfl 3 (by decide) (zwi 1 rfl) rfl 4 rfl ?_
  refine v_aload_n h dX6_findBestParting_4 0 rfl 5 rfl ?_
  refine v_get h (v := .ref (ad 1)) dX6_findBestParting_5 iX6_findBestParting_X6 0 rfl rfl 0 (by decide) (zwi 2 rfl) rfl 8 rfl ?_
  refine v_get h (v := .ref (ad 4)) dX6_findBestParting_8 iX6_findBestParting_X1 1 rfl rfl 2 (by decide) (zwi 3 rfl) rfl 11 rfl ?_
  refine v_get h (v := .int v.1.2.2.1.2.2.2.2.1) dX6_findBestParting_11 iX6_findBestParting_X0 4 rfl rfl 4 (by decide) (zwi 4 rfl) rfl 14 rfl ?_
  refine v_iload_n h dX6_findBestParting_14 1 rfl 15 rfl ?_
  obtain ⟨u1, hu1, hf⟩ := zb hf
  refine v_callVv h (rest := []) dX6_findBestParting_15 (tX2_begin l G ca (fun i => ad (104 + i)) v.2.2.2.1 v.1.2.2.1.2.2.2.2.1 x1 hu1) gX6_findBestParting_X2_begin rfl rfl ⟨rfl, rfl⟩ nX2_begin ⟨Nat.le_of_ble_eq_true rfl, Nat.le_of_ble_eq_true rfl⟩ [104, 105, 106] rfl rfl 0 rfl rfl rfl rfl (Nat.le_of_ble_eq_true rfl) ⟨Nat.zero_le _, Nat.zero_le _⟩ rfl (wX ca ad (v.1, v.2.1, v.2.2.1, u1, v.2.2.2.2)) rfl (wX_adr _ _ _ _) 18 rfl ?_
  refine v_iconst h dX6_findBestParting_18 0 rfl 19 rfl ?_
  refine v_istore_n h dX6_findBestParting_19 (Nat.le_of_ble_eq_true rfl) rfl rfl [(0, .ref (ad 0)), (1, .int x1), (2, .int x2), (3, .int 0)] rfl 20 rfl ?_
  obtain ⟨u2, hu2, hf⟩ := zb hf
  refine v_sub [0, 2, 3] rfl ?_
  refine tX6_findBestParting_l20 h zF (v.1, v.2.1, v.2.2.1, u1, v.2.2.2.2) x2 0 v.2.2.1 u1 _ hu2 (fun x3 ex => ?_) (fun x3 ex => ?_)
  · subst ex
    replace hf := hf
    cases (Option.some.inj hf)
    exact hE 104 _ dX6_findBestParting_104
  · subst ex
    cases (Option.some.inj hf)
    exact hE
abbrev rX6_share : Room := { frames := 6, cells := 0, slots := 0, locals := 134 }
theorem nX6_share : zNoMH yX6_share 3 := ⟨by decide +kernel, by decide +kernel, by decide +kernel⟩
theorem iX6_share_X6 : ∀ w ∈ wsX60, w ∈ wsX6_share := fun _ h => (List.mem_cons_of_mem _ (List.mem_append_left _ (List.mem_append_left _ (List.mem_append_left _ (List.mem_append_left _ (List.mem_append_right _ h))))))
theorem iX6_share_X1 : ∀ w ∈ wsX10, w ∈ wsX6_share := fun _ h => (List.mem_cons_of_mem _ (List.mem_append_left _ (List.mem_append_left _ (List.mem_append_left _ (List.mem_append_right _ h)))))
theorem iX6_share_X0 : ∀ w ∈ wsX00, w ∈ wsX6_share := fun _ h => (List.mem_cons_of_mem _ (List.mem_append_left _ (List.mem_append_left _ (List.mem_append_right _ h))))
theorem iX6_share_X2 : ∀ w ∈ wsX20, w ∈ wsX6_share := fun _ h => (List.mem_cons_of_mem _ (List.mem_append_left _ (List.mem_append_right _ h)))
theorem iX6_share_X5 : ∀ w ∈ wsX50, w ∈ wsX6_share := fun _ h => (List.mem_cons_of_mem _ (List.mem_append_right _ h))
def fX6_share (v : XV) (x1 : Int32) (x2 : Int32) (x3 : Int32) : Option (Int32 × CV × PV) := ((fX6_outside x1 0 6) : Option Int32).bind (fun u1 => if u1 = 0 then (((fX6_outside x2 1 20) : Option Int32).bind (fun u3 => if u3 = 0 then (if (-2) ≤ x3 then (if v.1.2.2.1.2.2.2.2.1 = 0 then (some ((-4), v.2.2.1, v.2.2.2.1)) else (if x3 < v.1.2.2.1.2.2.2.2.1 then (((fX6_findBestParting v x1 x2) : Option (CV × PV)).bind (fun u8 => if x3 = (-2) then (some (u8.2.2.2.2.2, u8.1, u8.2)) else (if x3 = (-1) then (some (u8.2.2.2.2.1, u8.1, u8.2)) else (zgrd (zix x3 10) (some ((zgt u8.2.2.1 x3), u8.1, u8.2)))))) else (some ((-4), v.2.2.1, v.2.2.2.1)))) else (some ((-1), v.2.2.1, v.2.2.2.1))) else (some ((-1), v.2.2.1, v.2.2.2.1)))) else (some ((-1), v.2.2.1, v.2.2.2.1)))
set_option maxRecDepth 100000 in
set_option maxHeartbeats 4000000 in
theorem tX6_share (l : Launch) (G : va_G) (ca : Nat → ClassId) (ad : Nat → Nat) (v : XV) (x1 : Int32) (x2 : Int32) (x3 : Int32) {o : (Int32 × CV × PV)} (hf : fX6_share v x1 x2 x3 = some o) : zMi l yX6_share wsX6_share rX6_share G ca [.ref (ad 0), .int x1, .int x2, .int x3] (wX ca ad v) o.1 (wX ca ad (v.1, v.2.1, o.2.1, o.2.2, v.2.2.2.2)) := by
  refine zMi.of (cc := cX6_share) (nL := 4) (own := RX6) (ty := .int) (by decide) rfl rfl (Nat.le_of_ble_eq_true rfl) (fun X h hE => ?_)
  show V X G 4 0 0 (wX ca ad v) 0 [(0, .ref (ad 0)), (1, .int x1), (2, .int x2), (3, .int x3)] []
  unfold fX6_share at hf
  refine v_iload_n h dX6_share_0 1 rfl 1 rfl ?_
  refine v_iconst h dX6_share_1 0 rfl 2 rfl ?_
  refine v_bipush h dX6_share_2 6 rfl 4 rfl ?_
  obtain ⟨u1, hu1, hf⟩ := zb hf
  refine v_callSi h (rest := []) dX6_share_4 (tX6_outside l G ca   x1 0 6 hu1) gX6_share_X6_outside rfl ⟨rfl, rfl⟩ nX6_outside ⟨Nat.le_of_ble_eq_true rfl, Nat.le_of_ble_eq_true rfl⟩ [] rfl rfl rfl rfl (Nat.le_of_ble_eq_true rfl) ⟨Nat.zero_le _, Nat.zero_le _⟩ rfl (wX ca ad v) rfl (wX_adr _ _ _ _) 7 rfl ?_
  refine v_if_ne h dX6_share_7 26 (by decide) 10 rfl (fun c2 => ?_) (fun c2 => ?_)
  · replace hf := zf c2 hf
    refine v_iconst h dX6_share_26 (-1) rfl 27 rfl ?_
    cases (Option.some.inj hf)
    exact hE 27 _ rfl dX6_share_27
  · replace hf := zt c2 hf
    refine v_iload_n h dX6_share_10 2 rfl 11 rfl ?_
    refine v_iconst h dX6_share_11 1 rfl 12 rfl ?_
    refine v_bipush h dX6_share_12 20 rfl 14 rfl ?_
    obtain ⟨u3, hu3, hf⟩ := zb hf
    refine v_callSi h (rest := []) dX6_share_14 (tX6_outside l G ca   x2 1 20 hu3) gX6_share_X6_outside rfl ⟨rfl, rfl⟩ nX6_outside ⟨Nat.le_of_ble_eq_true rfl, Nat.le_of_ble_eq_true rfl⟩ [] rfl rfl rfl rfl (Nat.le_of_ble_eq_true rfl) ⟨Nat.zero_le _, Nat.zero_le _⟩ rfl (wX ca ad v) rfl (wX_adr _ _ _ _) 17 rfl ?_
    refine v_if_ne h dX6_share_17 26 (by decide) 20 rfl (fun c4 => ?_) (fun c4 => ?_)
    · replace hf := zf c4 hf
      refine v_iconst h dX6_share_26 (-1) rfl 27 rfl ?_
      cases (Option.some.inj hf)
      exact hE 27 _ rfl dX6_share_27
    · replace hf := zt c4 hf
      refine v_iload_n h dX6_share_20 3 rfl 21 rfl ?_
      refine v_bipush h dX6_share_21 (-2) rfl 23 rfl ?_
      refine v_icmp_ge h dX6_share_23 28 (by decide) 26 rfl (fun c5 => ?_) (fun c5 => ?_)
      · replace hf := zt c5 hf
        refine v_aload_n h dX6_share_28 0 rfl 29 rfl ?_
        refine v_get h (v := .ref (ad 1)) dX6_share_29 iX6_share_X6 0 rfl rfl 0 (by decide) (zwi 1 rfl) rfl 32 rfl ?_
        refine v_get h (v := .ref (ad 4)) dX6_share_32 iX6_share_X1 1 rfl rfl 2 (by decide) (zwi 2 rfl) rfl 35 rfl ?_
        refine v_get h (v := .int v.1.2.2.1.2.2.2.2.1) dX6_share_35 iX6_share_X0 4 rfl rfl 4 (by decide) (zwi 3 rfl) rfl 38 rfl ?_
        refine v_if_eq h dX6_share_38 55 (by decide) 41 rfl (fun c6 => ?_) (fun c6 => ?_)
        · replace hf := zt c6 hf
          refine v_bipush h dX6_share_55 (-4) rfl 57 rfl ?_
          cases (Option.some.inj hf)
          exact hE 57 _ rfl dX6_share_57
        · replace hf := zf c6 hf
          refine v_iload_n h dX6_share_41 3 rfl 42 rfl ?_
          refine v_aload_n h dX6_share_42 0 rfl 43 rfl ?_
          refine v_get h (v := .ref (ad 1)) dX6_share_43 iX6_share_X6 0 rfl rfl 0 (by decide) (zwi 1 rfl) rfl 46 rfl ?_
          refine v_get h (v := .ref (ad 4)) dX6_share_46 iX6_share_X1 1 rfl rfl 2 (by decide) (zwi 2 rfl) rfl 49 rfl ?_
          refine v_get h (v := .int v.1.2.2.1.2.2.2.2.1) dX6_share_49 iX6_share_X0 4 rfl rfl 4 (by decide) (zwi 3 rfl) rfl 52 rfl ?_
          refine v_icmp_lt h dX6_share_52 58 (by decide) 55 rfl (fun c7 => ?_) (fun c7 => ?_)
          · replace hf := zt c7 hf
            refine v_aload_n h dX6_share_58 0 rfl 59 rfl ?_
            refine v_iload_n h dX6_share_59 1 rfl 60 rfl ?_
            refine v_iload_n h dX6_share_60 2 rfl 61 rfl ?_
            obtain ⟨u8, hu8, hf⟩ := zb hf
            refine v_wcallVv h (rest := []) dX6_share_61 (tX6_findBestParting l G ca ad v x1 x2 hu8) gX6_share_X6_findBestParting rfl rfl ⟨rfl, rfl⟩ nX6_findBestParting ⟨Nat.le_of_ble_eq_true rfl, Nat.le_of_ble_eq_true rfl⟩ 0 rfl rfl rfl rfl (Nat.le_of_ble_eq_true rfl) ⟨Nat.zero_le _, Nat.zero_le _⟩ (wX_adr _ _ _ _) 64 rfl ?_
            refine v_iload_n h dX6_share_64 3 rfl 65 rfl ?_
            by_cases c9 : x3 = (-2)
            · replace hf := zt c9 hf
              refine v_lsw h dX6_share_65 (by decide) (off := 35) (by rw [c9]; decide) 100 (by decide) ?_
              refine v_aload_n h dX6_share_100 0 rfl 101 rfl ?_
              refine v_get h (v := .ref (ad 104)) dX6_share_101 iX6_share_X6 0 rfl rfl 3 (by decide) (zwi 4 rfl) rfl 104 rfl ?_
              refine v_get h (v := .int u8.2.2.2.2.2) dX6_share_104 iX6_share_X2 104 rfl rfl 4 (by decide) (zwi 6 rfl) rfl 107 rfl ?_
              cases (Option.some.inj hf)
              exact hE 107 _ rfl dX6_share_107
            · replace hf := zf c9 hf
              by_cases c10 : x3 = (-1)
              · replace hf := zt c10 hf
                refine v_lsw h dX6_share_65 (by decide) (off := 27) (by rw [c10]; decide) 92 (by decide) ?_
                refine v_aload_n h dX6_share_92 0 rfl 93 rfl ?_
                refine v_get h (v := .ref (ad 104)) dX6_share_93 iX6_share_X6 0 rfl rfl 3 (by decide) (zwi 4 rfl) rfl 96 rfl ?_
                refine v_get h (v := .int u8.2.2.2.2.1) dX6_share_96 iX6_share_X2 104 rfl rfl 3 (by decide) (zwi 5 rfl) rfl 99 rfl ?_
                cases (Option.some.inj hf)
                exact hE 99 _ rfl dX6_share_99
              · replace hf := zf c10 hf
                refine v_lsw h dX6_share_65 (by decide) (off := 43) (by show Op.lookupswitch.offset [(-2, 35), (-1, 27)] _ _ = _; rw [lv_osw c9 (by decide), lv_osw c10 (by decide)]; rfl) 108 (by decide) ?_
                refine v_aload_n h dX6_share_108 0 rfl 109 rfl ?_
                refine v_get h (v := .ref (ad 104)) dX6_share_109 iX6_share_X6 0 rfl rfl 3 (by decide) (zwi 4 rfl) rfl 112 rfl ?_
                refine v_get h (v := .ref (ad 106)) dX6_share_112 iX6_share_X2 104 rfl rfl 1 (by decide) (zwi 7 rfl) rfl 115 rfl ?_
                refine v_iload_n h dX6_share_115 3 rfl 116 rfl ?_
                obtain ⟨g11, hf⟩ := zg hf
                refine v_iald h (f := u8.2.2.1) dX6_share_116 106 0 rfl rfl (zix_in g11) 117 rfl ?_
                cases (Option.some.inj hf)
                exact hE 117 _ rfl dX6_share_117
          · replace hf := zf c7 hf
            refine v_bipush h dX6_share_55 (-4) rfl 57 rfl ?_
            cases (Option.some.inj hf)
            exact hE 57 _ rfl dX6_share_57
      · replace hf := zf c5 hf
        refine v_iconst h dX6_share_26 (-1) rfl 27 rfl ?_
        cases (Option.some.inj hf)
        exact hE 27 _ rfl dX6_share_27
abbrev rX6_worst : Room := { frames := 4, cells := 0, slots := 0, locals := 86 }
theorem nX6_worst : zNoMH yX6_worst 1 := ⟨by decide +kernel, by decide +kernel, by decide +kernel⟩
theorem iX6_worst_X6 : ∀ w ∈ wsX60, w ∈ wsX6_worst := fun _ h => (List.mem_cons_of_mem _ (List.mem_append_left _ (List.mem_append_left _ (List.mem_append_left _ (List.mem_append_right _ h)))))
theorem iX6_worst_X1 : ∀ w ∈ wsX10, w ∈ wsX6_worst := fun _ h => (List.mem_cons_of_mem _ (List.mem_append_left _ (List.mem_append_left _ (List.mem_append_right _ h))))
theorem iX6_worst_X0 : ∀ w ∈ wsX00, w ∈ wsX6_worst := fun _ h => (List.mem_cons_of_mem _ (List.mem_append_left _ (List.mem_append_right _ h)))
theorem iX6_worst_X5 : ∀ w ∈ wsX50, w ∈ wsX6_worst := fun _ h => (List.mem_cons_of_mem _ (List.mem_append_right _ h))
def fX6_worst_L23 : Nat → XV → Int32 → Int32 → Int32 → Int32 → CV → Option (Int32 × Int32 × CV)
  | 0, _, _, _, _, _, _ => none
  | n + 1, v, x1, x2, x3, x4, m2 => if 40 ≤ x4 then (some (x2, x3, m2)) else (((fX6_yearOfTrial (v.1, v.2.1, m2, v.2.2.2)) : Option (Int32 × CV)).bind (fun u2 => if u2.1 ≤ x3 then (fX6_worst_L23 n v x1 x2 x3 (x4 + 1) u2.2) else (fX6_worst_L23 n v x1 x4 u2.1 (x4 + 1) u2.2)))
set_option maxRecDepth 100000 in
set_option maxHeartbeats 4000000 in
theorem tX6_worst_l23 {X : zX} {l : Launch} {G : va_G} {ca : Nat → ClassId} {ad : Nat → Nat} (h : zOk X l G ca cX6_worst RX6 wsX6_worst 6 rX6_worst) : ∀ (n : Nat) (v : XV) (x1 : Int32) (x2 : Int32) (x3 : Int32) (x4 : Int32) (m2 : CV) (out : (Int32 × Int32 × CV)), fX6_worst_L23 n v x1 x2 x3 x4 m2 = some out → (V X G 6 0 0 (wX ca ad (v.1, v.2.1, out.2.2, v.2.2.2)) 54 [(1, .int x1), (2, .int out.1), (3, .int out.2.1)] []) → V X G 6 0 0 (wX ca ad (v.1, v.2.1, m2, v.2.2.2)) 23 [(0, .ref (ad 0)), (1, .int x1), (2, .int x2), (3, .int x3), (4, .int x4)] [] := by
  intro n
  induction n with
  | zero => intro v x1 x2 x3 x4 m2 out hf; rw [fX6_worst_L23] at hf; cases hf
  | succ n ih =>
    intro v x1 x2 x3 x4 m2 out hf kx
    rw [fX6_worst_L23] at hf
    refine v_iload h dX6_worst_23 4 rfl 25 rfl ?_
    refine v_bipush h dX6_worst_25 40 rfl 27 rfl ?_
    refine v_icmp_ge h dX6_worst_27 54 (by decide) 30 rfl (fun c1 => ?_) (fun c1 => ?_)
    · replace hf := zt c1 hf
      cases (Option.some.inj hf)
      exact v_sub [1, 2, 3] rfl (kx)
    · replace hf := zf c1 hf
      refine v_aload_n h dX6_worst_30 0 rfl 31 rfl ?_
      obtain ⟨u2, hu2, hf⟩ := zb hf
      refine v_wcallVi h (rest := []) dX6_worst_31 (tX6_yearOfTrial l G ca ad (v.1, v.2.1, m2, v.2.2.2)  hu2) gX6_worst_X6_yearOfTrial rfl rfl ⟨rfl, rfl⟩ nX6_yearOfTrial ⟨Nat.le_of_ble_eq_true rfl, Nat.le_of_ble_eq_true rfl⟩ 0 rfl rfl rfl rfl (Nat.le_of_ble_eq_true rfl) ⟨Nat.zero_le _, Nat.zero_le _⟩ (wX_adr _ _ _ _) 34 rfl ?_
      refine v_istore h dX6_worst_34 (Nat.le_of_ble_eq_true rfl) rfl rfl [(0, .ref (ad 0)), (1, .int x1), (2, .int x2), (3, .int x3), (4, .int x4), (5, .int u2.1)] rfl 36 rfl ?_
      refine v_iload h dX6_worst_36 5 rfl 38 rfl ?_
      refine v_iload_n h dX6_worst_38 3 rfl 39 rfl ?_
      refine v_icmp_le h dX6_worst_39 48 (by decide) 42 rfl (fun c3 => ?_) (fun c3 => ?_)
      · replace hf := zt c3 hf
        refine v_iinc h dX6_worst_48 4 rfl (x4 + 1) rfl (Nat.le_of_ble_eq_true rfl) rfl rfl [(0, .ref (ad 0)), (1, .int x1), (2, .int x2), (3, .int x3), (4, .int (x4 + 1)), (5, .int u2.1)] rfl 51 rfl ?_
        refine v_goto h dX6_worst_51 23 (by decide) ?_
        exact v_sub [0, 1, 2, 3, 4] rfl (ih v x1 x2 x3 (x4 + 1) u2.2 _ hf kx)
      · replace hf := zf c3 hf
        refine v_iload h dX6_worst_42 5 rfl 44 rfl ?_
        refine v_istore_n h dX6_worst_44 (Nat.le_of_ble_eq_true rfl) rfl rfl [(0, .ref (ad 0)), (1, .int x1), (2, .int x2), (3, .int u2.1), (4, .int x4), (5, .int u2.1)] rfl 45 rfl ?_
        refine v_iload h dX6_worst_45 4 rfl 47 rfl ?_
        refine v_istore_n h dX6_worst_47 (Nat.le_of_ble_eq_true rfl) rfl rfl [(0, .ref (ad 0)), (1, .int x1), (2, .int x4), (3, .int u2.1), (4, .int x4), (5, .int u2.1)] rfl 48 rfl ?_
        refine v_iinc h dX6_worst_48 4 rfl (x4 + 1) rfl (Nat.le_of_ble_eq_true rfl) rfl rfl [(0, .ref (ad 0)), (1, .int x1), (2, .int x4), (3, .int u2.1), (4, .int (x4 + 1)), (5, .int u2.1)] rfl 51 rfl ?_
        refine v_goto h dX6_worst_51 23 (by decide) ?_
        exact v_sub [0, 1, 2, 3, 4] rfl (ih v x1 x4 u2.1 (x4 + 1) u2.2 _ hf kx)
def fX6_worst (v : XV) (x1 : Int32) : Option (Int32 × CV) := ((fX6_outside x1 0 1) : Option Int32).bind (fun u1 => if u1 = 0 then (((fX6_startTrial v) : Option CV).bind (fun u3 => ((fX6_worst_L23 zF (v.1, v.2.1, u3, v.2.2.2) x1 (-4) 0 0 u3) : Option (Int32 × Int32 × CV)).bind (fun u4 => if u4.1 = (-4) then (some (u4.1, u4.2.2)) else (if x1 = 0 then (some (u4.1, u4.2.2)) else (some (u4.2.1, u4.2.2)))))) else (some ((-1), v.2.2.1)))
set_option maxRecDepth 100000 in
set_option maxHeartbeats 4000000 in
theorem tX6_worst (l : Launch) (G : va_G) (ca : Nat → ClassId) (ad : Nat → Nat) (v : XV) (x1 : Int32) {o : (Int32 × CV)} (hf : fX6_worst v x1 = some o) : zMi l yX6_worst wsX6_worst rX6_worst G ca [.ref (ad 0), .int x1] (wX ca ad v) o.1 (wX ca ad (v.1, v.2.1, o.2, v.2.2.2)) := by
  refine zMi.of (cc := cX6_worst) (nL := 6) (own := RX6) (ty := .int) (by decide) rfl rfl (Nat.le_of_ble_eq_true rfl) (fun X h hE => ?_)
  show V X G 6 0 0 (wX ca ad v) 0 [(0, .ref (ad 0)), (1, .int x1)] []
  unfold fX6_worst at hf
  refine v_iload_n h dX6_worst_0 1 rfl 1 rfl ?_
  refine v_iconst h dX6_worst_1 0 rfl 2 rfl ?_
  refine v_iconst h dX6_worst_2 1 rfl 3 rfl ?_
  obtain ⟨u1, hu1, hf⟩ := zb hf
  refine v_callSi h (rest := []) dX6_worst_3 (tX6_outside l G ca   x1 0 1 hu1) gX6_worst_X6_outside rfl ⟨rfl, rfl⟩ nX6_outside ⟨Nat.le_of_ble_eq_true rfl, Nat.le_of_ble_eq_true rfl⟩ [] rfl rfl rfl rfl (Nat.le_of_ble_eq_true rfl) ⟨Nat.zero_le _, Nat.zero_le _⟩ rfl (wX ca ad v) rfl (wX_adr _ _ _ _) 6 rfl ?_
  refine v_if_eq h dX6_worst_6 11 (by decide) 9 rfl (fun c2 => ?_) (fun c2 => ?_)
  · replace hf := zt c2 hf
    refine v_bipush h dX6_worst_11 (-4) rfl 13 rfl ?_
    refine v_istore_n h dX6_worst_13 (Nat.le_of_ble_eq_true rfl) rfl rfl [(0, .ref (ad 0)), (1, .int x1), (2, .int (-4))] rfl 14 rfl ?_
    refine v_iconst h dX6_worst_14 0 rfl 15 rfl ?_
    refine v_istore_n h dX6_worst_15 (Nat.le_of_ble_eq_true rfl) rfl rfl [(0, .ref (ad 0)), (1, .int x1), (2, .int (-4)), (3, .int 0)] rfl 16 rfl ?_
    refine v_aload_n h dX6_worst_16 0 rfl 17 rfl ?_
    obtain ⟨u3, hu3, hf⟩ := zb hf
    refine v_wcallVv h (rest := []) dX6_worst_17 (tX6_startTrial l G ca ad v  hu3) gX6_worst_X6_startTrial rfl rfl ⟨rfl, rfl⟩ nX6_startTrial ⟨Nat.le_of_ble_eq_true rfl, Nat.le_of_ble_eq_true rfl⟩ 0 rfl rfl rfl rfl (Nat.le_of_ble_eq_true rfl) ⟨Nat.zero_le _, Nat.zero_le _⟩ (wX_adr _ _ _ _) 20 rfl ?_
    refine v_iconst h dX6_worst_20 0 rfl 21 rfl ?_
    refine v_istore h dX6_worst_21 (Nat.le_of_ble_eq_true rfl) rfl rfl [(0, .ref (ad 0)), (1, .int x1), (2, .int (-4)), (3, .int 0), (4, .int 0)] rfl 23 rfl ?_
    obtain ⟨u4, hu4, hf⟩ := zb hf
    refine v_sub [0, 1, 2, 3, 4] rfl ?_
    refine tX6_worst_l23 h zF (v.1, v.2.1, u3, v.2.2.2) x1 (-4) 0 0 u3 _ hu4 ?_
    refine v_iload_n h dX6_worst_54 1 rfl 55 rfl ?_
    refine v_bipush h dX6_worst_55 (-4) rfl 57 rfl ?_
    refine v_icmp_eq h dX6_worst_57 64 (by decide) 60 rfl (fun c5 => ?_) (fun c5 => ?_)
    · replace hf := zt c5 hf
      refine v_iload_n h dX6_worst_64 1 rfl 65 rfl ?_
      refine v_goto h dX6_worst_65 69 (by decide) ?_
      cases (Option.some.inj hf)
      exact hE 69 _ rfl dX6_worst_69
    · replace hf := zf c5 hf
      refine v_iload_n h dX6_worst_60 0 rfl 61 rfl ?_
      refine v_if_ne h dX6_worst_61 68 (by decide) 64 rfl (fun c6 => ?_) (fun c6 => ?_)
      · replace hf := zf c6 hf
        refine v_iload_n h dX6_worst_68 2 rfl 69 rfl ?_
        cases (Option.some.inj hf)
        exact hE 69 _ rfl dX6_worst_69
      · replace hf := zt c6 hf
        refine v_iload_n h dX6_worst_64 1 rfl 65 rfl ?_
        refine v_goto h dX6_worst_65 69 (by decide) ?_
        cases (Option.some.inj hf)
        exact hE 69 _ rfl dX6_worst_69
  · replace hf := zf c2 hf
    refine v_iconst h dX6_worst_9 (-1) rfl 10 rfl ?_
    cases (Option.some.inj hf)
    exact hE 10 _ rfl dX6_worst_10
abbrev rX6_hot : Room := { frames := 1, cells := 0, slots := 0, locals := 22 }
theorem nX6_hot : zNoMH yX6_hot 1 := ⟨by decide +kernel, by decide +kernel, by decide +kernel⟩
theorem iX6_hot_X6 : ∀ w ∈ wsX60, w ∈ wsX6_hot := fun _ h => (List.mem_cons_of_mem _ (List.mem_append_left _ (List.mem_append_left _ (List.mem_append_right _ h))))
theorem iX6_hot_X1 : ∀ w ∈ wsX10, w ∈ wsX6_hot := fun _ h => (List.mem_cons_of_mem _ (List.mem_append_left _ (List.mem_append_right _ h)))
theorem iX6_hot_X0 : ∀ w ∈ wsX00, w ∈ wsX6_hot := fun _ h => (List.mem_cons_of_mem _ (List.mem_append_right _ h))
def fX6_hot_L32 : Nat → XV → Int32 → Int32 → Int32 → Option (Int32 ⊕ Int32)
  | 0, _, _, _, _ => none
  | n + 1, v, x1, x3, x4 => if x4 < (v.1.2.2.1.2.2.2.2.1 - x1) then (some (.inr x3)) else (((fX0_stopsFire v.1.2.2.1 x4) : Option Int32).bind (fun u2 => if u2 = 0 then (((fX0_heavinessOf v.1.2.2.1 x4) : Option Int32).bind (fun u4 => fX6_hot_L32 n v x1 (x3 + u4) (x4 + (-1)))) else (some (.inl (-4)))))
set_option maxRecDepth 100000 in
set_option maxHeartbeats 4000000 in
theorem tX6_hot_l32 {X : zX} {l : Launch} {G : va_G} {ca : Nat → ClassId} {ad : Nat → Nat} (h : zOk X l G ca cX6_hot RX6 wsX6_hot 5 rX6_hot) : ∀ (n : Nat) (v : XV) (x1 : Int32) (x3 : Int32) (x4 : Int32) (out : (Int32 ⊕ Int32)), fX6_hot_L32 n v x1 x3 x4 = some out → (∀ e, out = .inr e → V X G 5 0 0 (wX ca ad v) 70 [(3, .int e)] []) → (∀ r, out = .inl r → zEi X G cX6_hot 5 .int r (wX ca ad v)) → V X G 5 0 0 (wX ca ad v) 32 [(1, .int x1), (2, .ref (ad 4)), (3, .int x3), (4, .int x4)] [] := by
  intro n
  induction n with
  | zero => intro v x1 x3 x4 out hf; rw [fX6_hot_L32] at hf; cases hf
  | succ n ih =>
    intro v x1 x3 x4 out hf kx kr
    rw [fX6_hot_L32] at hf
    refine v_iload h dX6_hot_32 3 rfl 34 rfl ?_
    refine v_aload_n h dX6_hot_34 1 rfl 35 rfl ?_
    refine v_get h (v := .int v.1.2.2.1.2.2.2.2.1) dX6_hot_35 iX6_hot_X0 4 rfl rfl 4 (by decide) (zwi 3 rfl) rfl 38 rfl ?_
    refine v_iload_n h dX6_hot_38 0 rfl 39 rfl ?_
    refine v_isub h dX6_hot_39 40 rfl ?_
    refine v_icmp_lt h dX6_hot_40 70 (by decide) 43 rfl (fun c1 => ?_) (fun c1 => ?_)
    · replace hf := zt c1 hf
      cases (Option.some.inj hf)
      exact v_sub [2] rfl (kx _ rfl)
    · replace hf := zf c1 hf
      refine v_aload_n h dX6_hot_43 1 rfl 44 rfl ?_
      refine v_iload h dX6_hot_44 3 rfl 46 rfl ?_
      obtain ⟨u2, hu2, hf⟩ := zb hf
      refine v_callVi h (rest := []) dX6_hot_46 (tX0_stopsFire l G ca (fun i => ad (4 + i)) v.1.2.2.1 x4 hu2) gX6_hot_X0_stopsFire rfl rfl ⟨rfl, rfl⟩ nX0_stopsFire ⟨Nat.le_of_ble_eq_true rfl, Nat.le_of_ble_eq_true rfl⟩ [4, 5, 6, 7, 8] rfl rfl 0 rfl rfl rfl rfl (Nat.le_of_ble_eq_true rfl) ⟨Nat.zero_le _, Nat.zero_le _⟩ rfl (wX ca ad v) rfl (wX_adr _ _ _ _) 49 rfl ?_
      refine v_if_eq h dX6_hot_49 55 (by decide) 52 rfl (fun c3 => ?_) (fun c3 => ?_)
      · replace hf := zt c3 hf
        refine v_iload_n h dX6_hot_55 2 rfl 56 rfl ?_
        refine v_aload_n h dX6_hot_56 1 rfl 57 rfl ?_
        refine v_iload h dX6_hot_57 3 rfl 59 rfl ?_
        obtain ⟨u4, hu4, hf⟩ := zb hf
        refine v_callVi h (rest := [.int x3]) dX6_hot_59 (tX0_heavinessOf l G ca (fun i => ad (4 + i)) v.1.2.2.1 x4 hu4) gX6_hot_X0_heavinessOf rfl rfl ⟨rfl, rfl⟩ nX0_heavinessOf ⟨Nat.le_of_ble_eq_true rfl, Nat.le_of_ble_eq_true rfl⟩ [4, 5, 6, 7, 8] rfl rfl 0 rfl rfl rfl rfl (Nat.le_of_ble_eq_true rfl) ⟨Nat.zero_le _, Nat.zero_le _⟩ rfl (wX ca ad v) rfl (wX_adr _ _ _ _) 62 rfl ?_
        refine v_iadd h dX6_hot_62 63 rfl ?_
        refine v_istore_n h dX6_hot_63 (Nat.le_of_ble_eq_true rfl) rfl rfl [(1, .int x1), (2, .ref (ad 4)), (3, .int (x3 + u4)), (4, .int x4)] rfl 64 rfl ?_
        refine v_iinc h dX6_hot_64 3 rfl (x4 + (-1)) rfl (Nat.le_of_ble_eq_true rfl) rfl rfl [(1, .int x1), (2, .ref (ad 4)), (3, .int (x3 + u4)), (4, .int (x4 + (-1)))] rfl 67 rfl ?_
        refine v_goto h dX6_hot_67 32 (by decide) ?_
        exact v_sub [0, 1, 2, 3] rfl (ih v x1 (x3 + u4) (x4 + (-1)) _ hf kx kr)
      · replace hf := zf c3 hf
        refine v_bipush h dX6_hot_52 (-4) rfl 54 rfl ?_
        cases (Option.some.inj hf)
        exact kr _ rfl 54 _ rfl dX6_hot_54
def fX6_hot (v : XV) (x1 : Int32) : Option Int32 := ((fX6_outside x1 1 v.1.2.2.1.2.2.2.2.1) : Option Int32).bind (fun u1 => if u1 = 0 then (((fX6_hot_L32 zF v x1 0 (v.1.2.2.1.2.2.2.2.1 - 1)) : Option (Int32 ⊕ Int32)).bind (fun u3 => zrt u3 (fun r => some r) (fun x4 => if 999 < x4 then (some (-4)) else (some x4)))) else (some (-1)))
set_option maxRecDepth 100000 in
set_option maxHeartbeats 4000000 in
theorem tX6_hot (l : Launch) (G : va_G) (ca : Nat → ClassId) (ad : Nat → Nat) (v : XV) (x1 : Int32) {o : Int32} (hf : fX6_hot v x1 = some o) : zMi l yX6_hot wsX6_hot rX6_hot G ca [.ref (ad 0), .int x1] (wX ca ad v) o (wX ca ad v) := by
  refine zMi.of (cc := cX6_hot) (nL := 5) (own := RX6) (ty := .int) (by decide) rfl rfl (Nat.le_of_ble_eq_true rfl) (fun X h hE => ?_)
  show V X G 5 0 0 (wX ca ad v) 0 [(0, .ref (ad 0)), (1, .int x1)] []
  unfold fX6_hot at hf
  refine v_aload_n h dX6_hot_0 0 rfl 1 rfl ?_
  refine v_get h (v := .ref (ad 1)) dX6_hot_1 iX6_hot_X6 0 rfl rfl 0 (by decide) (zwi 1 rfl) rfl 4 rfl ?_
  refine v_get h (v := .ref (ad 4)) dX6_hot_4 iX6_hot_X1 1 rfl rfl 2 (by decide) (zwi 2 rfl) rfl 7 rfl ?_
  refine v_astore_n h dX6_hot_7 (Nat.le_of_ble_eq_true rfl) rfl rfl [(0, .ref (ad 0)), (1, .int x1), (2, .ref (ad 4))] rfl 8 rfl ?_
  refine v_iload_n h dX6_hot_8 1 rfl 9 rfl ?_
  refine v_iconst h dX6_hot_9 1 rfl 10 rfl ?_
  refine v_aload_n h dX6_hot_10 2 rfl 11 rfl ?_
  refine v_get h (v := .int v.1.2.2.1.2.2.2.2.1) dX6_hot_11 iX6_hot_X0 4 rfl rfl 4 (by decide) (zwi 3 rfl) rfl 14 rfl ?_
  obtain ⟨u1, hu1, hf⟩ := zb hf
  refine v_callSi h (rest := []) dX6_hot_14 (tX6_outside l G ca   x1 1 v.1.2.2.1.2.2.2.2.1 hu1) gX6_hot_X6_outside rfl ⟨rfl, rfl⟩ nX6_outside ⟨Nat.le_of_ble_eq_true rfl, Nat.le_of_ble_eq_true rfl⟩ [] rfl rfl rfl rfl (Nat.le_of_ble_eq_true rfl) ⟨Nat.zero_le _, Nat.zero_le _⟩ rfl (wX ca ad v) rfl (wX_adr _ _ _ _) 17 rfl ?_
  refine v_if_eq h dX6_hot_17 22 (by decide) 20 rfl (fun c2 => ?_) (fun c2 => ?_)
  · replace hf := zt c2 hf
    refine v_iconst h dX6_hot_22 0 rfl 23 rfl ?_
    refine v_istore_n h dX6_hot_23 (Nat.le_of_ble_eq_true rfl) rfl rfl [(0, .ref (ad 0)), (1, .int x1), (2, .ref (ad 4)), (3, .int 0)] rfl 24 rfl ?_
    refine v_aload_n h dX6_hot_24 2 rfl 25 rfl ?_
    refine v_get h (v := .int v.1.2.2.1.2.2.2.2.1) dX6_hot_25 iX6_hot_X0 4 rfl rfl 4 (by decide) (zwi 3 rfl) rfl 28 rfl ?_
    refine v_iconst h dX6_hot_28 1 rfl 29 rfl ?_
    refine v_isub h dX6_hot_29 30 rfl ?_
    refine v_istore h dX6_hot_30 (Nat.le_of_ble_eq_true rfl) rfl rfl [(0, .ref (ad 0)), (1, .int x1), (2, .ref (ad 4)), (3, .int 0), (4, .int (v.1.2.2.1.2.2.2.2.1 - 1))] rfl 32 rfl ?_
    obtain ⟨u3, hu3, hf⟩ := zb hf
    refine v_sub [1, 2, 3, 4] rfl ?_
    refine tX6_hot_l32 h zF v x1 0 (v.1.2.2.1.2.2.2.2.1 - 1) _ hu3 (fun x4 ex => ?_) (fun x4 ex => ?_)
    · subst ex
      replace hf := hf
      refine v_iload_n h dX6_hot_70 0 rfl 71 rfl ?_
      refine v_sipush h dX6_hot_71 999 rfl 74 rfl ?_
      refine v_icmp_gt h dX6_hot_74 81 (by decide) 77 rfl (fun c5 => ?_) (fun c5 => ?_)
      · replace hf := zt c5 hf
        refine v_bipush h dX6_hot_81 (-4) rfl 83 rfl ?_
        cases (Option.some.inj hf)
        exact hE 83 _ rfl dX6_hot_83
      · replace hf := zf c5 hf
        refine v_iload_n h dX6_hot_77 0 rfl 78 rfl ?_
        refine v_goto h dX6_hot_78 83 (by decide) ?_
        cases (Option.some.inj hf)
        exact hE 83 _ rfl dX6_hot_83
    · subst ex
      cases (Option.some.inj hf)
      exact hE
  · replace hf := zf c2 hf
    refine v_iconst h dX6_hot_20 (-1) rfl 21 rfl ?_
    cases (Option.some.inj hf)
    exact hE 21 _ rfl dX6_hot_21
abbrev rX6_staysDry : Room := { frames := 4, cells := 0, slots := 0, locals := 80 }
theorem nX6_staysDry : zNoMH yX6_staysDry 2 := ⟨by decide +kernel, by decide +kernel, by decide +kernel⟩
theorem iX6_staysDry_X6 : ∀ w ∈ wsX60, w ∈ wsX6_staysDry := fun _ h => (List.mem_cons_of_mem _ (List.mem_append_left _ (List.mem_append_left _ (List.mem_append_left _ (List.mem_append_right _ h)))))
theorem iX6_staysDry_X1 : ∀ w ∈ wsX10, w ∈ wsX6_staysDry := fun _ h => (List.mem_cons_of_mem _ (List.mem_append_left _ (List.mem_append_left _ (List.mem_append_right _ h))))
theorem iX6_staysDry_X0 : ∀ w ∈ wsX00, w ∈ wsX6_staysDry := fun _ h => (List.mem_cons_of_mem _ (List.mem_append_left _ (List.mem_append_right _ h)))
theorem iX6_staysDry_X5 : ∀ w ∈ wsX50, w ∈ wsX6_staysDry := fun _ h => (List.mem_cons_of_mem _ (List.mem_append_right _ h))
def fX6_staysDry_L6 : Nat → XV → Int32 → Int32 → Int32 → CV → Option ((Int32 × CV) ⊕ CV)
  | 0, _, _, _, _, _ => none
  | n + 1, v, x1, x2, x3, m2 => if x1 ≤ x3 then (some (.inr m2)) else (((fX5_inYear v.1.2.1 m2.2.2.2.2.2.1) : Option Int32).bind (fun u2 => zlet (x2 >>> (x3 &&& 31) : Int32) (fun d3 => zlet (d3 &&& 1 : Int32) (fun d4 => if d4 = 0 then (((fX0_passYear m2 u2) : Option (Int32 × CV)).bind (fun u6 => if u6.1 ≤ 0 then (fX6_staysDry_L6 n v x1 x2 (x3 + 1) u6.2) else (some (.inl (0, u6.2))))) else (((fX0_passYear m2 (2 * u2)) : Option (Int32 × CV)).bind (fun u8 => if u8.1 ≤ 0 then (fX6_staysDry_L6 n v x1 x2 (x3 + 1) u8.2) else (some (.inl (0, u8.2)))))))))
set_option maxRecDepth 100000 in
set_option maxHeartbeats 4000000 in
theorem tX6_staysDry_l6 {X : zX} {l : Launch} {G : va_G} {ca : Nat → ClassId} {ad : Nat → Nat} (h : zOk X l G ca cX6_staysDry RX6 wsX6_staysDry 6 rX6_staysDry) : ∀ (n : Nat) (v : XV) (x1 : Int32) (x2 : Int32) (x3 : Int32) (m2 : CV) (out : ((Int32 × CV) ⊕ CV)), fX6_staysDry_L6 n v x1 x2 x3 m2 = some out → (∀ e, out = .inr e → V X G 6 0 0 (wX ca ad (v.1, v.2.1, e, v.2.2.2)) 77 [] []) → (∀ r, out = .inl r → zEi X G cX6_staysDry 6 .boolean r.1 (wX ca ad (v.1, v.2.1, r.2, v.2.2.2))) → V X G 6 0 0 (wX ca ad (v.1, v.2.1, m2, v.2.2.2)) 6 [(0, .ref (ad 0)), (1, .int x1), (2, .int x2), (3, .int x3)] [] := by
  intro n
  induction n with
  | zero => intro v x1 x2 x3 m2 out hf; rw [fX6_staysDry_L6] at hf; cases hf
  | succ n ih =>
    intro v x1 x2 x3 m2 out hf kx kr
    rw [fX6_staysDry_L6] at hf
    refine v_iload_n h dX6_staysDry_6 3 rfl 7 rfl ?_
    refine v_iload_n h dX6_staysDry_7 1 rfl 8 rfl ?_
    refine v_icmp_ge h dX6_staysDry_8 77 (by decide) 11 rfl (fun c1 => ?_) (fun c1 => ?_)
    · replace hf := zt c1 hf
      cases (Option.some.inj hf)
      exact v_sub [] rfl (kx _ rfl)
    · replace hf := zf c1 hf
      refine v_aload_n h dX6_staysDry_11 0 rfl 12 rfl ?_
      refine v_get h (v := .ref (ad 1)) dX6_staysDry_12 iX6_staysDry_X6 0 rfl rfl 0 (by decide) (zwi 1 rfl) rfl 15 rfl ?_
      refine v_get h (v := .ref (ad 2)) dX6_staysDry_15 iX6_staysDry_X1 1 rfl rfl 1 (by decide) (zwi 2 rfl) rfl 18 rfl ?_
      refine v_aload_n h dX6_staysDry_18 0 rfl 19 rfl ?_
      refine v_get h (v := .ref (ad 99)) dX6_staysDry_19 iX6_staysDry_X6 0 rfl rfl 2 (by decide) (zwi 3 rfl) rfl 22 rfl ?_
      refine v_get h (v := .int m2.2.2.2.2.2.1) dX6_staysDry_22 iX6_staysDry_X0 99 rfl rfl 5 (by decide) (zwi 4 rfl) rfl 25 rfl ?_
      obtain ⟨u2, hu2, hf⟩ := zb hf
      refine v_callVi h (rest := []) dX6_staysDry_25 (tX5_inYear l G ca (fun i => ad (2 + i)) v.1.2.1 m2.2.2.2.2.2.1 hu2) gX6_staysDry_X5_inYear rfl rfl ⟨rfl, rfl⟩ nX5_inYear ⟨Nat.le_of_ble_eq_true rfl, Nat.le_of_ble_eq_true rfl⟩ [2, 3] rfl rfl 0 rfl rfl rfl rfl (Nat.le_of_ble_eq_true rfl) ⟨Nat.zero_le _, Nat.zero_le _⟩ rfl (wX ca ad (v.1, v.2.1, m2, v.2.2.2)) rfl (wX_adr _ _ _ _) 28 rfl ?_
      refine v_istore h dX6_staysDry_28 (Nat.le_of_ble_eq_true rfl) rfl rfl [(0, .ref (ad 0)), (1, .int x1), (2, .int x2), (3, .int x3), (4, .int u2)] rfl 30 rfl ?_
      refine v_iload_n h dX6_staysDry_30 2 rfl 31 rfl ?_
      refine v_iload_n h dX6_staysDry_31 3 rfl 32 rfl ?_
      refine v_ishr h dX6_staysDry_32 33 rfl ?_
      obtain ⟨d3, ed3, hf⟩ := zl hf
      refine v_topi ed3 ?_
      refine v_iconst h dX6_staysDry_33 1 rfl 34 rfl ?_
      refine v_iand h dX6_staysDry_34 35 rfl ?_
      obtain ⟨d4, ed4, hf⟩ := zl hf
      refine v_topi ed4 ?_
      refine v_if_eq h dX6_staysDry_35 42 (by decide) 38 rfl (fun c5 => ?_) (fun c5 => ?_)
      · replace hf := zt c5 hf
        refine v_iconst h dX6_staysDry_42 0 rfl 43 rfl ?_
        refine v_istore h dX6_staysDry_43 (Nat.le_of_ble_eq_true rfl) rfl rfl [(0, .ref (ad 0)), (1, .int x1), (2, .int x2), (3, .int x3), (4, .int u2), (5, .int 0)] rfl 45 rfl ?_
        refine v_aload_n h dX6_staysDry_45 0 rfl 46 rfl ?_
        refine v_get h (v := .ref (ad 99)) dX6_staysDry_46 iX6_staysDry_X6 0 rfl rfl 2 (by decide) (zwi 3 rfl) rfl 49 rfl ?_
        refine v_iload h dX6_staysDry_49 5 rfl 51 rfl ?_
        refine v_if_eq h dX6_staysDry_51 61 (by decide) 54 rfl (fun _ => ?_) (fun c => absurd c (by decide))
        refine v_iload h dX6_staysDry_61 4 rfl 63 rfl ?_
        obtain ⟨u6, hu6, hf⟩ := zb hf
        refine v_callVi h (rest := []) dX6_staysDry_63 (tX0_passYear l G ca (fun i => ad (99 + i)) m2 u2 hu6) gX6_staysDry_X0_passYear rfl rfl ⟨rfl, rfl⟩ nX0_passYear ⟨Nat.le_of_ble_eq_true rfl, Nat.le_of_ble_eq_true rfl⟩ [99, 100, 101, 102, 103] rfl rfl 0 rfl rfl rfl rfl (Nat.le_of_ble_eq_true rfl) ⟨Nat.zero_le _, Nat.zero_le _⟩ rfl (wX ca ad (v.1, v.2.1, u6.2, v.2.2.2)) rfl (wX_adr _ _ _ _) 66 rfl ?_
        refine v_if_le h dX6_staysDry_66 71 (by decide) 69 rfl (fun c7 => ?_) (fun c7 => ?_)
        · replace hf := zt c7 hf
          refine v_iinc h dX6_staysDry_71 3 rfl (x3 + 1) rfl (Nat.le_of_ble_eq_true rfl) rfl rfl [(0, .ref (ad 0)), (1, .int x1), (2, .int x2), (3, .int (x3 + 1)), (4, .int u2), (5, .int 0)] rfl 74 rfl ?_
          refine v_goto h dX6_staysDry_74 6 (by decide) ?_
          exact v_sub [0, 1, 2, 3] rfl (ih v x1 x2 (x3 + 1) u6.2 _ hf kx kr)
        · replace hf := zf c7 hf
          refine v_iconst h dX6_staysDry_69 0 rfl 70 rfl ?_
          cases (Option.some.inj hf)
          exact kr _ rfl 70 _ znar0 dX6_staysDry_70
      · replace hf := zf c5 hf
        refine v_iconst h dX6_staysDry_38 1 rfl 39 rfl ?_
        refine v_goto h dX6_staysDry_39 43 (by decide) ?_
        refine v_istore h dX6_staysDry_43 (Nat.le_of_ble_eq_true rfl) rfl rfl [(0, .ref (ad 0)), (1, .int x1), (2, .int x2), (3, .int x3), (4, .int u2), (5, .int 1)] rfl 45 rfl ?_
        refine v_aload_n h dX6_staysDry_45 0 rfl 46 rfl ?_
        refine v_get h (v := .ref (ad 99)) dX6_staysDry_46 iX6_staysDry_X6 0 rfl rfl 2 (by decide) (zwi 3 rfl) rfl 49 rfl ?_
        refine v_iload h dX6_staysDry_49 5 rfl 51 rfl ?_
        refine v_if_eq h dX6_staysDry_51 61 (by decide) 54 rfl (fun c => absurd c (by decide)) (fun _ => ?_)
        refine v_iconst h dX6_staysDry_54 2 rfl 55 rfl ?_
        refine v_iload h dX6_staysDry_55 4 rfl 57 rfl ?_
        refine v_imul h dX6_staysDry_57 58 rfl ?_
        refine v_goto h dX6_staysDry_58 63 (by decide) ?_
        obtain ⟨u8, hu8, hf⟩ := zb hf
        refine v_callVi h (rest := []) dX6_staysDry_63 (tX0_passYear l G ca (fun i => ad (99 + i)) m2 (2 * u2) hu8) gX6_staysDry_X0_passYear rfl rfl ⟨rfl, rfl⟩ nX0_passYear ⟨Nat.le_of_ble_eq_true rfl, Nat.le_of_ble_eq_true rfl⟩ [99, 100, 101, 102, 103] rfl rfl 0 rfl rfl rfl rfl (Nat.le_of_ble_eq_true rfl) ⟨Nat.zero_le _, Nat.zero_le _⟩ rfl (wX ca ad (v.1, v.2.1, u8.2, v.2.2.2)) rfl (wX_adr _ _ _ _) 66 rfl ?_
        refine v_if_le h dX6_staysDry_66 71 (by decide) 69 rfl (fun c9 => ?_) (fun c9 => ?_)
        · replace hf := zt c9 hf
          refine v_iinc h dX6_staysDry_71 3 rfl (x3 + 1) rfl (Nat.le_of_ble_eq_true rfl) rfl rfl [(0, .ref (ad 0)), (1, .int x1), (2, .int x2), (3, .int (x3 + 1)), (4, .int u2), (5, .int 1)] rfl 74 rfl ?_
          refine v_goto h dX6_staysDry_74 6 (by decide) ?_
          exact v_sub [0, 1, 2, 3] rfl (ih v x1 x2 (x3 + 1) u8.2 _ hf kx kr)
        · replace hf := zf c9 hf
          refine v_iconst h dX6_staysDry_69 0 rfl 70 rfl ?_
          cases (Option.some.inj hf)
          exact kr _ rfl 70 _ znar0 dX6_staysDry_70
def fX6_staysDry (v : XV) (x1 : Int32) (x2 : Int32) : Option (Int32 × CV) := ((fX6_startTrial v) : Option CV).bind (fun u1 => ((fX6_staysDry_L6 zF (v.1, v.2.1, u1, v.2.2.2) x1 x2 0 u1) : Option ((Int32 × CV) ⊕ CV)).bind (fun u2 => zrt u2 (fun r => some r) (fun x3 => some (1, x3))))
set_option maxRecDepth 100000 in
set_option maxHeartbeats 4000000 in
theorem tX6_staysDry (l : Launch) (G : va_G) (ca : Nat → ClassId) (ad : Nat → Nat) (v : XV) (x1 : Int32) (x2 : Int32) {o : (Int32 × CV)} (hf : fX6_staysDry v x1 x2 = some o) : zMi l yX6_staysDry wsX6_staysDry rX6_staysDry G ca [.ref (ad 0), .int x1, .int x2] (wX ca ad v) o.1 (wX ca ad (v.1, v.2.1, o.2, v.2.2.2)) := by
  refine zMi.of (cc := cX6_staysDry) (nL := 6) (own := RX6) (ty := .boolean) (by decide) rfl rfl (Nat.le_of_ble_eq_true rfl) (fun X h hE => ?_)
  show V X G 6 0 0 (wX ca ad v) 0 [(0, .ref (ad 0)), (1, .int x1), (2, .int x2)] []
  unfold fX6_staysDry at hf
  refine v_aload_n h dX6_staysDry_0 0 rfl 1 rfl ?_
  obtain ⟨u1, hu1, hf⟩ := zb hf
  refine v_wcallVv h (rest := []) dX6_staysDry_1 (tX6_startTrial l G ca ad v  hu1) gX6_staysDry_X6_startTrial rfl rfl ⟨rfl, rfl⟩ nX6_startTrial ⟨Nat.le_of_ble_eq_true rfl, Nat.le_of_ble_eq_true rfl⟩ 0 rfl rfl rfl rfl (Nat.le_of_ble_eq_true rfl) ⟨Nat.zero_le _, Nat.zero_le _⟩ (wX_adr _ _ _ _) 4 rfl ?_
  refine v_iconst h dX6_staysDry_4 0 rfl 5 rfl ?_
  refine v_istore_n h dX6_staysDry_5 (Nat.le_of_ble_eq_true rfl) rfl rfl [(0, .ref (ad 0)), (1, .int x1), (2, .int x2), (3, .int 0)] rfl 6 rfl ?_
  obtain ⟨u2, hu2, hf⟩ := zb hf
  refine v_sub [0, 1, 2, 3] rfl ?_
  refine tX6_staysDry_l6 h zF (v.1, v.2.1, u1, v.2.2.2) x1 x2 0 u1 _ hu2 (fun x3 ex => ?_) (fun x3 ex => ?_)
  · subst ex
    replace hf := hf
    refine v_iconst h dX6_staysDry_77 1 rfl 78 rfl ?_
    cases (Option.some.inj hf)
    exact hE 78 _ znar1 dX6_staysDry_78
  · subst ex
    cases (Option.some.inj hf)
    exact hE
abbrev rX6_bursts : Room := { frames := 5, cells := 0, slots := 0, locals := 105 }
theorem nX6_bursts : zNoMH yX6_bursts 3 := ⟨by decide +kernel, by decide +kernel, by decide +kernel⟩
theorem iX6_bursts_X6 : ∀ w ∈ wsX60, w ∈ wsX6_bursts := fun _ h => (List.mem_cons_of_mem _ (List.mem_append_left _ (List.mem_append_left _ (List.mem_append_left _ (List.mem_append_right _ h)))))
theorem iX6_bursts_X1 : ∀ w ∈ wsX10, w ∈ wsX6_bursts := fun _ h => (List.mem_cons_of_mem _ (List.mem_append_left _ (List.mem_append_left _ (List.mem_append_right _ h))))
theorem iX6_bursts_X0 : ∀ w ∈ wsX00, w ∈ wsX6_bursts := fun _ h => (List.mem_cons_of_mem _ (List.mem_append_left _ (List.mem_append_right _ h)))
theorem iX6_bursts_X5 : ∀ w ∈ wsX50, w ∈ wsX6_bursts := fun _ h => (List.mem_cons_of_mem _ (List.mem_append_right _ h))
def fX6_bursts_L37 : Nat → XV → Int32 → Int32 → Int32 → Int32 → Int32 → CV → Option (Int32 × CV)
  | 0, _, _, _, _, _, _, _ => none
  | n + 1, v, x1, x2, x3, x4, x5, m2 => zlet (1 <<< (x1 &&& 31) : Int32) (fun d1 => if d1 ≤ x5 then (some (x4, m2)) else (((fX6_staysDry (v.1, v.2.1, m2, v.2.2.2) x1 x5) : Option (Int32 × CV)).bind (fun u3 => if u3.1 = 0 then (fX6_bursts_L37 n v x1 x2 x3 x4 (x5 + 1) u3.2) else (((fJ6_bitCount x5) : Option Int32).bind (fun u5 => ((fX6_power x2 u5) : Option Int32).bind (fun u6 => ((fX6_power (10 - x2) (x1 - u5)) : Option Int32).bind (fun u7 => fX6_bursts_L37 n v x1 x2 x3 (x4 + (u6 * u7)) (x5 + 1) u3.2)))))))
set_option maxRecDepth 100000 in
set_option maxHeartbeats 4000000 in
theorem tX6_bursts_l37 {X : zX} {l : Launch} {G : va_G} {ca : Nat → ClassId} {ad : Nat → Nat} (h : zOk X l G ca cX6_bursts RX6 wsX6_bursts 7 rX6_bursts) : ∀ (n : Nat) (v : XV) (x1 : Int32) (x2 : Int32) (x3 : Int32) (x4 : Int32) (x5 : Int32) (m2 : CV) (out : (Int32 × CV)), fX6_bursts_L37 n v x1 x2 x3 x4 x5 m2 = some out → (V X G 7 0 0 (wX ca ad (v.1, v.2.1, out.2, v.2.2.2)) 91 [(1, .int x1), (3, .int x3), (4, .int out.1)] []) → V X G 7 0 0 (wX ca ad (v.1, v.2.1, m2, v.2.2.2)) 37 [(0, .ref (ad 0)), (1, .int x1), (2, .int x2), (3, .int x3), (4, .int x4), (5, .int x5)] [] := by
  intro n
  induction n with
  | zero => intro v x1 x2 x3 x4 x5 m2 out hf; rw [fX6_bursts_L37] at hf; cases hf
  | succ n ih =>
    intro v x1 x2 x3 x4 x5 m2 out hf kx
    rw [fX6_bursts_L37] at hf
    refine v_iload h dX6_bursts_37 5 rfl 39 rfl ?_
    refine v_iconst h dX6_bursts_39 1 rfl 40 rfl ?_
    refine v_iload_n h dX6_bursts_40 1 rfl 41 rfl ?_
    refine v_ishl h dX6_bursts_41 42 rfl ?_
    obtain ⟨d1, ed1, hf⟩ := zl hf
    refine v_topi ed1 ?_
    refine v_icmp_ge h dX6_bursts_42 91 (by decide) 45 rfl (fun c2 => ?_) (fun c2 => ?_)
    · replace hf := zt c2 hf
      cases (Option.some.inj hf)
      exact v_sub [1, 3, 4] rfl (kx)
    · replace hf := zf c2 hf
      refine v_aload_n h dX6_bursts_45 0 rfl 46 rfl ?_
      refine v_iload_n h dX6_bursts_46 1 rfl 47 rfl ?_
      refine v_iload h dX6_bursts_47 5 rfl 49 rfl ?_
      obtain ⟨u3, hu3, hf⟩ := zb hf
      refine v_wcallVi h (rest := []) dX6_bursts_49 (tX6_staysDry l G ca ad (v.1, v.2.1, m2, v.2.2.2) x1 x5 hu3) gX6_bursts_X6_staysDry rfl rfl ⟨rfl, rfl⟩ nX6_staysDry ⟨Nat.le_of_ble_eq_true rfl, Nat.le_of_ble_eq_true rfl⟩ 0 rfl rfl rfl rfl (Nat.le_of_ble_eq_true rfl) ⟨Nat.zero_le _, Nat.zero_le _⟩ (wX_adr _ _ _ _) 52 rfl ?_
      refine v_if_eq h dX6_bursts_52 85 (by decide) 55 rfl (fun c4 => ?_) (fun c4 => ?_)
      · replace hf := zt c4 hf
        refine v_iinc h dX6_bursts_85 5 rfl (x5 + 1) rfl (Nat.le_of_ble_eq_true rfl) rfl rfl [(0, .ref (ad 0)), (1, .int x1), (2, .int x2), (3, .int x3), (4, .int x4), (5, .int (x5 + 1))] rfl 88 rfl ?_
        refine v_goto h dX6_bursts_88 37 (by decide) ?_
        exact v_sub [0, 1, 2, 3, 4, 5] rfl (ih v x1 x2 x3 x4 (x5 + 1) u3.2 _ hf kx)
      · replace hf := zf c4 hf
        refine v_iload h dX6_bursts_55 5 rfl 57 rfl ?_
        obtain ⟨u5, hu5, hf⟩ := zb hf
        refine v_callSi h (rest := []) dX6_bursts_57 (tJ6_bitCount l G ca   x5 hu5) gX6_bursts_J6_bitCount_0f7a4 rfl ⟨rfl, rfl⟩ nJ6_bitCount_0f7a4 ⟨Nat.le_of_ble_eq_true rfl, Nat.le_of_ble_eq_true rfl⟩ [] rfl rfl rfl rfl (Nat.le_of_ble_eq_true rfl) ⟨Nat.zero_le _, Nat.zero_le _⟩ rfl (wX ca ad (v.1, v.2.1, u3.2, v.2.2.2)) rfl (wX_adr _ _ _ _) 60 rfl ?_
        refine v_istore h dX6_bursts_60 (Nat.le_of_ble_eq_true rfl) rfl rfl [(0, .ref (ad 0)), (1, .int x1), (2, .int x2), (3, .int x3), (4, .int x4), (5, .int x5), (6, .int u5)] rfl 62 rfl ?_
        refine v_iload h dX6_bursts_62 4 rfl 64 rfl ?_
        refine v_iload_n h dX6_bursts_64 2 rfl 65 rfl ?_
        refine v_iload h dX6_bursts_65 6 rfl 67 rfl ?_
        obtain ⟨u6, hu6, hf⟩ := zb hf
        refine v_callSi h (rest := [.int x4]) dX6_bursts_67 (tX6_power l G ca   x2 u5 hu6) gX6_bursts_X6_power rfl ⟨rfl, rfl⟩ nX6_power ⟨Nat.le_of_ble_eq_true rfl, Nat.le_of_ble_eq_true rfl⟩ [] rfl rfl rfl rfl (Nat.le_of_ble_eq_true rfl) ⟨Nat.zero_le _, Nat.zero_le _⟩ rfl (wX ca ad (v.1, v.2.1, u3.2, v.2.2.2)) rfl (wX_adr _ _ _ _) 70 rfl ?_
        refine v_bipush h dX6_bursts_70 10 rfl 72 rfl ?_
        refine v_iload_n h dX6_bursts_72 2 rfl 73 rfl ?_
        refine v_isub h dX6_bursts_73 74 rfl ?_
        refine v_iload_n h dX6_bursts_74 1 rfl 75 rfl ?_
        refine v_iload h dX6_bursts_75 6 rfl 77 rfl ?_
        refine v_isub h dX6_bursts_77 78 rfl ?_
        obtain ⟨u7, hu7, hf⟩ := zb hf
        refine v_callSi h (rest := [.int u6, .int x4]) dX6_bursts_78 (tX6_power l G ca   (10 - x2) (x1 - u5) hu7) gX6_bursts_X6_power rfl ⟨rfl, rfl⟩ nX6_power ⟨Nat.le_of_ble_eq_true rfl, Nat.le_of_ble_eq_true rfl⟩ [] rfl rfl rfl rfl (Nat.le_of_ble_eq_true rfl) ⟨Nat.zero_le _, Nat.zero_le _⟩ rfl (wX ca ad (v.1, v.2.1, u3.2, v.2.2.2)) rfl (wX_adr _ _ _ _) 81 rfl ?_
        refine v_imul h dX6_bursts_81 82 rfl ?_
        refine v_iadd h dX6_bursts_82 83 rfl ?_
        refine v_istore h dX6_bursts_83 (Nat.le_of_ble_eq_true rfl) rfl rfl [(0, .ref (ad 0)), (1, .int x1), (2, .int x2), (3, .int x3), (4, .int (x4 + (u6 * u7))), (5, .int x5), (6, .int u5)] rfl 85 rfl ?_
        refine v_iinc h dX6_bursts_85 5 rfl (x5 + 1) rfl (Nat.le_of_ble_eq_true rfl) rfl rfl [(0, .ref (ad 0)), (1, .int x1), (2, .int x2), (3, .int x3), (4, .int (x4 + (u6 * u7))), (5, .int (x5 + 1)), (6, .int u5)] rfl 88 rfl ?_
        refine v_goto h dX6_bursts_88 37 (by decide) ?_
        exact v_sub [0, 1, 2, 3, 4, 5] rfl (ih v x1 x2 x3 (x4 + (u6 * u7)) (x5 + 1) u3.2 _ hf kx)
def fX6_bursts (v : XV) (x1 : Int32) (x2 : Int32) (x3 : Int32) : Option (Int32 × CV) := ((fX6_outside x1 0 6) : Option Int32).bind (fun u1 => if u1 = 0 then (((fX6_outside x2 0 10) : Option Int32).bind (fun u3 => if u3 = 0 then (((fX6_outside x3 0 1) : Option Int32).bind (fun u5 => if u5 = 0 then (((fX6_bursts_L37 zF v x1 x2 x3 0 0 v.2.2.1) : Option (Int32 × CV)).bind (fun u7 => ((fX6_power 10 x1) : Option Int32).bind (fun u8 => ((fX6_greatestDivisor u7.1 u8) : Option Int32).bind (fun u9 => if x3 = 0 then (zgrd (znz u9) (some ((u7.1 / u9), u7.2))) else (zgrd (znz u9) (some ((u8 / u9), u7.2))))))) else (some ((-1), v.2.2.1)))) else (some ((-1), v.2.2.1)))) else (some ((-1), v.2.2.1)))
set_option maxRecDepth 100000 in
set_option maxHeartbeats 4000000 in
theorem tX6_bursts (l : Launch) (G : va_G) (ca : Nat → ClassId) (ad : Nat → Nat) (v : XV) (x1 : Int32) (x2 : Int32) (x3 : Int32) {o : (Int32 × CV)} (hf : fX6_bursts v x1 x2 x3 = some o) : zMi l yX6_bursts wsX6_bursts rX6_bursts G ca [.ref (ad 0), .int x1, .int x2, .int x3] (wX ca ad v) o.1 (wX ca ad (v.1, v.2.1, o.2, v.2.2.2)) := by
  refine zMi.of (cc := cX6_bursts) (nL := 7) (own := RX6) (ty := .int) (by decide) rfl rfl (Nat.le_of_ble_eq_true rfl) (fun X h hE => ?_)
  show V X G 7 0 0 (wX ca ad v) 0 [(0, .ref (ad 0)), (1, .int x1), (2, .int x2), (3, .int x3)] []
  unfold fX6_bursts at hf
  refine v_iload_n h dX6_bursts_0 1 rfl 1 rfl ?_
  refine v_iconst h dX6_bursts_1 0 rfl 2 rfl ?_
  refine v_bipush h dX6_bursts_2 6 rfl 4 rfl ?_
  obtain ⟨u1, hu1, hf⟩ := zb hf
  refine v_callSi h (rest := []) dX6_bursts_4 (tX6_outside l G ca   x1 0 6 hu1) gX6_bursts_X6_outside rfl ⟨rfl, rfl⟩ nX6_outside ⟨Nat.le_of_ble_eq_true rfl, Nat.le_of_ble_eq_true rfl⟩ [] rfl rfl rfl rfl (Nat.le_of_ble_eq_true rfl) ⟨Nat.zero_le _, Nat.zero_le _⟩ rfl (wX ca ad v) rfl (wX_adr _ _ _ _) 7 rfl ?_
  refine v_if_ne h dX6_bursts_7 29 (by decide) 10 rfl (fun c2 => ?_) (fun c2 => ?_)
  · replace hf := zf c2 hf
    refine v_iconst h dX6_bursts_29 (-1) rfl 30 rfl ?_
    cases (Option.some.inj hf)
    exact hE 30 _ rfl dX6_bursts_30
  · replace hf := zt c2 hf
    refine v_iload_n h dX6_bursts_10 2 rfl 11 rfl ?_
    refine v_iconst h dX6_bursts_11 0 rfl 12 rfl ?_
    refine v_bipush h dX6_bursts_12 10 rfl 14 rfl ?_
    obtain ⟨u3, hu3, hf⟩ := zb hf
    refine v_callSi h (rest := []) dX6_bursts_14 (tX6_outside l G ca   x2 0 10 hu3) gX6_bursts_X6_outside rfl ⟨rfl, rfl⟩ nX6_outside ⟨Nat.le_of_ble_eq_true rfl, Nat.le_of_ble_eq_true rfl⟩ [] rfl rfl rfl rfl (Nat.le_of_ble_eq_true rfl) ⟨Nat.zero_le _, Nat.zero_le _⟩ rfl (wX ca ad v) rfl (wX_adr _ _ _ _) 17 rfl ?_
    refine v_if_ne h dX6_bursts_17 29 (by decide) 20 rfl (fun c4 => ?_) (fun c4 => ?_)
    · replace hf := zf c4 hf
      refine v_iconst h dX6_bursts_29 (-1) rfl 30 rfl ?_
      cases (Option.some.inj hf)
      exact hE 30 _ rfl dX6_bursts_30
    · replace hf := zt c4 hf
      refine v_iload_n h dX6_bursts_20 3 rfl 21 rfl ?_
      refine v_iconst h dX6_bursts_21 0 rfl 22 rfl ?_
      refine v_iconst h dX6_bursts_22 1 rfl 23 rfl ?_
      obtain ⟨u5, hu5, hf⟩ := zb hf
      refine v_callSi h (rest := []) dX6_bursts_23 (tX6_outside l G ca   x3 0 1 hu5) gX6_bursts_X6_outside rfl ⟨rfl, rfl⟩ nX6_outside ⟨Nat.le_of_ble_eq_true rfl, Nat.le_of_ble_eq_true rfl⟩ [] rfl rfl rfl rfl (Nat.le_of_ble_eq_true rfl) ⟨Nat.zero_le _, Nat.zero_le _⟩ rfl (wX ca ad v) rfl (wX_adr _ _ _ _) 26 rfl ?_
      refine v_if_eq h dX6_bursts_26 31 (by decide) 29 rfl (fun c6 => ?_) (fun c6 => ?_)
      · replace hf := zt c6 hf
        refine v_iconst h dX6_bursts_31 0 rfl 32 rfl ?_
        refine v_istore h dX6_bursts_32 (Nat.le_of_ble_eq_true rfl) rfl rfl [(0, .ref (ad 0)), (1, .int x1), (2, .int x2), (3, .int x3), (4, .int 0)] rfl 34 rfl ?_
        refine v_iconst h dX6_bursts_34 0 rfl 35 rfl ?_
        refine v_istore h dX6_bursts_35 (Nat.le_of_ble_eq_true rfl) rfl rfl [(0, .ref (ad 0)), (1, .int x1), (2, .int x2), (3, .int x3), (4, .int 0), (5, .int 0)] rfl 37 rfl ?_
        obtain ⟨u7, hu7, hf⟩ := zb hf
        refine v_sub [0, 1, 2, 3, 4, 5] rfl ?_
        refine tX6_bursts_l37 h zF v x1 x2 x3 0 0 v.2.2.1 _ hu7 ?_
        refine v_bipush h dX6_bursts_91 10 rfl 93 rfl ?_
        refine v_iload_n h dX6_bursts_93 0 rfl 94 rfl ?_
        obtain ⟨u8, hu8, hf⟩ := zb hf
        refine v_callSi h (rest := []) dX6_bursts_94 (tX6_power l G ca   10 x1 hu8) gX6_bursts_X6_power rfl ⟨rfl, rfl⟩ nX6_power ⟨Nat.le_of_ble_eq_true rfl, Nat.le_of_ble_eq_true rfl⟩ [] rfl rfl rfl rfl (Nat.le_of_ble_eq_true rfl) ⟨Nat.zero_le _, Nat.zero_le _⟩ rfl (wX ca ad (v.1, v.2.1, u7.2, v.2.2.2)) rfl (wX_adr _ _ _ _) 97 rfl ?_
        refine v_istore h dX6_bursts_97 (Nat.le_of_ble_eq_true rfl) rfl rfl [(1, .int x1), (3, .int x3), (4, .int u7.1), (5, .int u8)] rfl 99 rfl ?_
        refine v_iload h dX6_bursts_99 2 rfl 101 rfl ?_
        refine v_iload h dX6_bursts_101 3 rfl 103 rfl ?_
        obtain ⟨u9, hu9, hf⟩ := zb hf
        refine v_callSi h (rest := []) dX6_bursts_103 (tX6_greatestDivisor l G ca   u7.1 u8 hu9) gX6_bursts_X6_greatestDivisor rfl ⟨rfl, rfl⟩ nX6_greatestDivisor ⟨Nat.le_of_ble_eq_true rfl, Nat.le_of_ble_eq_true rfl⟩ [] rfl rfl rfl rfl (Nat.le_of_ble_eq_true rfl) ⟨Nat.zero_le _, Nat.zero_le _⟩ rfl (wX ca ad (v.1, v.2.1, u7.2, v.2.2.2)) rfl (wX_adr _ _ _ _) 106 rfl ?_
        refine v_istore h dX6_bursts_106 (Nat.le_of_ble_eq_true rfl) rfl rfl [(1, .int x1), (3, .int x3), (4, .int u7.1), (5, .int u8), (6, .int u9)] rfl 108 rfl ?_
        refine v_iload_n h dX6_bursts_108 1 rfl 109 rfl ?_
        refine v_if_ne h dX6_bursts_109 117 (by decide) 112 rfl (fun c10 => ?_) (fun c10 => ?_)
        · replace hf := zf c10 hf
          refine v_iload h dX6_bursts_117 3 rfl 119 rfl ?_
          refine v_iload h dX6_bursts_119 4 rfl 121 rfl ?_
          obtain ⟨g11, hf⟩ := zg hf
          refine v_idiv h dX6_bursts_121 (znz_ne g11) 122 rfl ?_
          cases (Option.some.inj hf)
          exact hE 122 _ rfl dX6_bursts_122
        · replace hf := zt c10 hf
          refine v_iload h dX6_bursts_112 2 rfl 114 rfl ?_
          refine v_goto h dX6_bursts_114 119 (by decide) ?_
          refine v_iload h dX6_bursts_119 4 rfl 121 rfl ?_
          obtain ⟨g12, hf⟩ := zg hf
          refine v_idiv h dX6_bursts_121 (znz_ne g12) 122 rfl ?_
          cases (Option.some.inj hf)
          exact hE 122 _ rfl dX6_bursts_122
      · replace hf := zf c6 hf
        refine v_iconst h dX6_bursts_29 (-1) rfl 30 rfl ?_
        cases (Option.some.inj hf)
        exact hE 30 _ rfl dX6_bursts_30
abbrev rX6_image : Room := { frames := 4, cells := 0, slots := 0, locals := 82 }
theorem nX6_image : zNoMH yX6_image 0 := ⟨by decide +kernel, by decide +kernel, by decide +kernel⟩
theorem iX6_image_X6 : ∀ w ∈ wsX60, w ∈ wsX6_image := fun _ h => (List.mem_cons_of_mem _ (List.mem_append_left _ (List.mem_append_left _ (List.mem_append_left _ (List.mem_append_right _ h)))))
theorem iX6_image_X1 : ∀ w ∈ wsX10, w ∈ wsX6_image := fun _ h => (List.mem_cons_of_mem _ (List.mem_append_left _ (List.mem_append_left _ (List.mem_append_right _ h))))
theorem iX6_image_X5 : ∀ w ∈ wsX50, w ∈ wsX6_image := fun _ h => (List.mem_cons_of_mem _ (List.mem_append_left _ (List.mem_append_right _ h)))
theorem iX6_image_X0 : ∀ w ∈ wsX00, w ∈ wsX6_image := fun _ h => (List.mem_cons_of_mem _ (List.mem_append_right _ h))
def fX6_image (v : XV) : Option (Int32 × HV × Int32) := ((fX1_become v.2.1 v.1) : Option HV).bind (fun u1 => some (1, u1, 1))
set_option maxRecDepth 100000 in
set_option maxHeartbeats 4000000 in
theorem tX6_image (l : Launch) (G : va_G) (ca : Nat → ClassId) (ad : Nat → Nat) (v : XV)  {o : (Int32 × HV × Int32)} (hf : fX6_image v = some o) : zMi l yX6_image wsX6_image rX6_image G ca [.ref (ad 0)] (wX ca ad v) o.1 (wX ca ad (v.1, o.2.1, v.2.2.1, v.2.2.2.1, v.2.2.2.2.1, v.2.2.2.2.2.1, o.2.2)) := by
  refine zMi.of (cc := cX6_image) (nL := 1) (own := RX6) (ty := .int) (by decide) rfl rfl (Nat.le_of_ble_eq_true rfl) (fun X h hE => ?_)
  show V X G 1 0 0 (wX ca ad v) 0 [(0, .ref (ad 0))] []
  unfold fX6_image at hf
  refine v_aload_n h dX6_image_0 0 rfl 1 rfl ?_
  refine v_get h (v := .ref (ad 50)) dX6_image_1 iX6_image_X6 0 rfl rfl 1 (by decide) (zwi 1 rfl) rfl 4 rfl ?_
  refine v_aload_n h dX6_image_4 0 rfl 5 rfl ?_
  refine v_get h (v := .ref (ad 1)) dX6_image_5 iX6_image_X6 0 rfl rfl 0 (by decide) (zwi 2 rfl) rfl 8 rfl ?_
  obtain ⟨u1, hu1, hf⟩ := zb hf
  refine v_gcallVv h (rest := []) dX6_image_8 (tX1_become l G ca (fun i => ad (50 + i)) (fun i => ad (1 + i)) v.2.1 v.1  hu1) gX6_image_X1_become rfl rfl ⟨rfl, rfl⟩ nX1_become ⟨Nat.le_of_ble_eq_true rfl, Nat.le_of_ble_eq_true rfl⟩ (List.range' 50 49 ++ List.range' 1 49) (seg2_at 50 49 1 49 rfl rfl rfl rfl) (nd_2 (by decide)) 0 rfl rfl rfl rfl (Nat.le_of_ble_eq_true rfl) ⟨Nat.zero_le _, Nat.zero_le _⟩ (wX ca ad (v.1, u1, v.2.2)) (seg2_get (k1 := 50) (n1 := 49) (k2 := 1) (n2 := 49) rfl rfl (Nat.le_of_ble_eq_true rfl) rfl rfl (Nat.le_of_ble_eq_true rfl)) (wX_adr _ _ _ _) 11 rfl ?_
  refine v_aload_n h dX6_image_11 0 rfl 12 rfl ?_
  refine v_iconst h dX6_image_12 1 rfl 13 rfl ?_
  refine v_put h dX6_image_13 iX6_image_X6 tyX6 tyX6_ok nmX6 0 rfl rfl 6 (by decide) (zwi 3 rfl) rfl rfl rfl (Nat.le_of_ble_eq_true rfl) (wX ca ad (v.1, u1, v.2.2.1, v.2.2.2.1, v.2.2.2.2.1, v.2.2.2.2.2.1, 1)) rfl 16 rfl ?_
  refine v_iconst h dX6_image_16 1 rfl 17 rfl ?_
  cases (Option.some.inj hf)
  exact hE 17 _ rfl dX6_image_17
abbrev rX6_restore : Room := { frames := 4, cells := 0, slots := 0, locals := 82 }
theorem nX6_restore : zNoMH yX6_restore 0 := ⟨by decide +kernel, by decide +kernel, by decide +kernel⟩
theorem iX6_restore_X6 : ∀ w ∈ wsX60, w ∈ wsX6_restore := fun _ h => (List.mem_cons_of_mem _ (List.mem_append_left _ (List.mem_append_left _ (List.mem_append_left _ (List.mem_append_right _ h)))))
theorem iX6_restore_X1 : ∀ w ∈ wsX10, w ∈ wsX6_restore := fun _ h => (List.mem_cons_of_mem _ (List.mem_append_left _ (List.mem_append_left _ (List.mem_append_right _ h))))
theorem iX6_restore_X5 : ∀ w ∈ wsX50, w ∈ wsX6_restore := fun _ h => (List.mem_cons_of_mem _ (List.mem_append_left _ (List.mem_append_right _ h)))
theorem iX6_restore_X0 : ∀ w ∈ wsX00, w ∈ wsX6_restore := fun _ h => (List.mem_cons_of_mem _ (List.mem_append_right _ h))
def fX6_restore (v : XV) : Option (Int32 × HV) := if v.2.2.2.2.2.2 = 0 then (some ((-4), v.1)) else (((fX1_become v.1 v.2.1) : Option HV).bind (fun u2 => some (1, u2)))
set_option maxRecDepth 100000 in
set_option maxHeartbeats 4000000 in
theorem tX6_restore (l : Launch) (G : va_G) (ca : Nat → ClassId) (ad : Nat → Nat) (v : XV)  {o : (Int32 × HV)} (hf : fX6_restore v = some o) : zMi l yX6_restore wsX6_restore rX6_restore G ca [.ref (ad 0)] (wX ca ad v) o.1 (wX ca ad (o.2, v.2)) := by
  refine zMi.of (cc := cX6_restore) (nL := 1) (own := RX6) (ty := .int) (by decide) rfl rfl (Nat.le_of_ble_eq_true rfl) (fun X h hE => ?_)
  show V X G 1 0 0 (wX ca ad v) 0 [(0, .ref (ad 0))] []
  unfold fX6_restore at hf
  refine v_aload_n h dX6_restore_0 0 rfl 1 rfl ?_
  refine v_get h (v := .int v.2.2.2.2.2.2) dX6_restore_1 iX6_restore_X6 0 rfl rfl 6 (by decide) (zwi 1 rfl) rfl 4 rfl ?_
  refine v_if_ne h dX6_restore_4 10 (by decide) 7 rfl (fun c1 => ?_) (fun c1 => ?_)
  · replace hf := zf c1 hf
    refine v_aload_n h dX6_restore_10 0 rfl 11 rfl ?_
    refine v_get h (v := .ref (ad 1)) dX6_restore_11 iX6_restore_X6 0 rfl rfl 0 (by decide) (zwi 2 rfl) rfl 14 rfl ?_
    refine v_aload_n h dX6_restore_14 0 rfl 15 rfl ?_
    refine v_get h (v := .ref (ad 50)) dX6_restore_15 iX6_restore_X6 0 rfl rfl 1 (by decide) (zwi 3 rfl) rfl 18 rfl ?_
    obtain ⟨u2, hu2, hf⟩ := zb hf
    refine v_gcallVv h (rest := []) dX6_restore_18 (tX1_become l G ca (fun i => ad (1 + i)) (fun i => ad (50 + i)) v.1 v.2.1  hu2) gX6_restore_X1_become rfl rfl ⟨rfl, rfl⟩ nX1_become ⟨Nat.le_of_ble_eq_true rfl, Nat.le_of_ble_eq_true rfl⟩ (List.range' 1 49 ++ List.range' 50 49) (seg2_at 1 49 50 49 rfl rfl rfl rfl) (nd_2 (by decide)) 0 rfl rfl rfl rfl (Nat.le_of_ble_eq_true rfl) ⟨Nat.zero_le _, Nat.zero_le _⟩ (wX ca ad (u2, v.2)) (seg2_get (k1 := 1) (n1 := 49) (k2 := 50) (n2 := 49) rfl rfl (Nat.le_of_ble_eq_true rfl) rfl rfl (Nat.le_of_ble_eq_true rfl)) (wX_adr _ _ _ _) 21 rfl ?_
    refine v_iconst h dX6_restore_21 1 rfl 22 rfl ?_
    cases (Option.some.inj hf)
    exact hE 22 _ rfl dX6_restore_22
  · replace hf := zt c1 hf
    refine v_bipush h dX6_restore_7 (-4) rfl 9 rfl ?_
    cases (Option.some.inj hf)
    exact hE 9 _ rfl dX6_restore_9
