theorem nX6_trialLeaksAs : zNoMH yX6_trialLeaksAs 3 := ⟨by decide +kernel, by decide +kernel, by decide +kernel⟩
theorem iX6_trialLeaksAs_X3 : ∀ w ∈ wsX30, w ∈ wsX6_trialLeaksAs := fun _ h => (List.mem_cons_of_mem _ (List.mem_append_left _ (List.mem_append_left _ (List.mem_append_left _ (List.mem_append_left _ (List.mem_append_right _ h))))))
theorem iX6_trialLeaksAs_X6 : ∀ w ∈ wsX60, w ∈ wsX6_trialLeaksAs := fun _ h => (List.mem_cons_of_mem _ (List.mem_append_left _ (List.mem_append_left _ (List.mem_append_left _ (List.mem_append_right _ h)))))
theorem iX6_trialLeaksAs_X1 : ∀ w ∈ wsX10, w ∈ wsX6_trialLeaksAs := fun _ h => (List.mem_cons_of_mem _ (List.mem_append_left _ (List.mem_append_left _ (List.mem_append_right _ h))))
theorem iX6_trialLeaksAs_X0 : ∀ w ∈ wsX00, w ∈ wsX6_trialLeaksAs := fun _ h => (List.mem_cons_of_mem _ (List.mem_append_left _ (List.mem_append_right _ h)))
theorem iX6_trialLeaksAs_X5 : ∀ w ∈ wsX50, w ∈ wsX6_trialLeaksAs := fun _ h => (List.mem_cons_of_mem _ (List.mem_append_right _ h))
def fX6_trialLeaksAs_L3 : Nat → XV → Nat → Int32 → Int32 → Int32 → CV → Option ((Int32 × CV) ⊕ CV)
  | 0, _, _, _, _, _, _ => none
  | n + 1, v, j, x2, x3, x4, m2 => if x3 ≤ x4 then (some (.inr m2)) else (zgrd (zix (x2 + x4) 24) (((fX6_yearOfTrial (v.1, v.2.1, m2, v.2.2.2)) : Option (Int32 × CV)).bind (fun u3 => if (lg_cmp (zgt (v.2.2.2.2.2.1 j).1 (x2 + x4)) u3.1.toInt64) = 0 then (fX6_trialLeaksAs_L3 n v j x2 x3 (x4 + 1) u3.2) else (some (.inl (0, u3.2))))))
def fX6_trialLeaksAs (v : XV) (j : Nat) (x2 : Int32) (x3 : Int32) : Option (Int32 × CV) := ((fX6_trialLeaksAs_L3 zF v j x2 x3 0 v.2.2.1) : Option ((Int32 × CV) ⊕ CV)).bind (fun u1 => zrt u1 (fun r => some r) (fun x2 => some (1, x2)))
abbrev rX6_trialLeaksAs_s0 : Room := { frames := 4, cells := 0, slots := 0, locals := 86 }
set_option maxRecDepth 100000 in
set_option maxHeartbeats 4000000 in
theorem tX6_trialLeaksAs_s0_l3 {X : zX} {l : Launch} {G : va_G} {ca : Nat → ClassId} {ad : Nat → Nat} (h : zOk X l G ca cX6_trialLeaksAs RX6 wsX6_trialLeaksAs 5 rX6_trialLeaksAs_s0) : ∀ (n : Nat) (v : XV) (x2 : Int32) (x3 : Int32) (x4 : Int32) (m2 : CV) (out : ((Int32 × CV) ⊕ CV)), fX6_trialLeaksAs_L3 n v 0 x2 x3 x4 m2 = some out → (∀ e, out = .inr e → V X G 5 0 0 (wX ca ad (v.1, v.2.1, e, v.2.2.2)) 35 [] []) → (∀ r, out = .inl r → zEi X G cX6_trialLeaksAs 5 .boolean r.1 (wX ca ad (v.1, v.2.1, r.2, v.2.2.2))) → V X G 5 0 0 (wX ca ad (v.1, v.2.1, m2, v.2.2.2)) 3 [(0, .ref (ad 0)), (1, .ref (ad 117)), (2, .int x2), (3, .int x3), (4, .int x4)] [] := by
  intro n
  induction n with
  | zero => intro v x2 x3 x4 m2 out hf; rw [fX6_trialLeaksAs_L3] at hf; cases hf
  | succ n ih =>
    intro v x2 x3 x4 m2 out hf kx kr
    rw [fX6_trialLeaksAs_L3] at hf
    refine v_iload h dX6_trialLeaksAs_3 4 rfl 5 rfl ?_
    refine v_iload_n h dX6_trialLeaksAs_5 3 rfl 6 rfl ?_
    refine v_icmp_ge h dX6_trialLeaksAs_6 35 (by decide) 9 rfl (fun c1 => ?_) (fun c1 => ?_)
    · replace hf := zt c1 hf
      cases (Option.some.inj hf)
      exact v_sub [] rfl (kx _ rfl)
    · replace hf := zf c1 hf
      refine v_aload_n h dX6_trialLeaksAs_9 1 rfl 10 rfl ?_
      refine v_get h (v := .ref (ad 118)) dX6_trialLeaksAs_10 iX6_trialLeaksAs_X3 117 rfl rfl 0 (by decide) (zwi 1 rfl) rfl 13 rfl ?_
      refine v_iload_n h dX6_trialLeaksAs_13 2 rfl 14 rfl ?_
      refine v_iload h dX6_trialLeaksAs_14 4 rfl 16 rfl ?_
      refine v_iadd h dX6_trialLeaksAs_16 17 rfl ?_
      obtain ⟨g2, hf⟩ := zg hf
      refine v_lald h (f := (v.2.2.2.2.2.1 0).1) dX6_trialLeaksAs_17 118 1 rfl rfl (zix_in g2) 18 rfl ?_
      refine v_aload_n h dX6_trialLeaksAs_18 0 rfl 19 rfl ?_
      obtain ⟨u3, hu3, hf⟩ := zb hf
      refine v_wcallVi h (rest := [.long (zgt (v.2.2.2.2.2.1 0).1 (x2 + x4))]) dX6_trialLeaksAs_19 (tX6_yearOfTrial l G ca ad (v.1, v.2.1, m2, v.2.2.2)  hu3) gX6_trialLeaksAs_X6_yearOfTrial rfl rfl ⟨rfl, rfl⟩ nX6_yearOfTrial ⟨Nat.le_of_ble_eq_true rfl, Nat.le_of_ble_eq_true rfl⟩ 0 rfl rfl rfl rfl (Nat.le_of_ble_eq_true rfl) ⟨Nat.zero_le _, Nat.zero_le _⟩ (wX_adr _ _ _ _) 22 rfl ?_
      refine v_i2l h dX6_trialLeaksAs_22 23 rfl ?_
      refine v_lcmp h dX6_trialLeaksAs_23 24 rfl ?_
      refine v_if_eq h dX6_trialLeaksAs_24 29 (by decide) 27 rfl (fun c4 => ?_) (fun c4 => ?_)
      · replace hf := zt c4 hf
        refine v_iinc h dX6_trialLeaksAs_29 4 rfl (x4 + 1) rfl (Nat.le_of_ble_eq_true rfl) rfl rfl [(0, .ref (ad 0)), (1, .ref (ad 117)), (2, .int x2), (3, .int x3), (4, .int (x4 + 1))] rfl 32 rfl ?_
        refine v_goto h dX6_trialLeaksAs_32 3 (by decide) ?_
        exact v_sub [0, 1, 2, 3, 4] rfl (ih v x2 x3 (x4 + 1) u3.2 _ hf kx kr)
      · replace hf := zf c4 hf
        refine v_iconst h dX6_trialLeaksAs_27 0 rfl 28 rfl ?_
        cases (Option.some.inj hf)
        exact kr _ rfl 28 _ znar0 dX6_trialLeaksAs_28
set_option maxRecDepth 100000 in
set_option maxHeartbeats 4000000 in
theorem tX6_trialLeaksAs_s0 (l : Launch) (G : va_G) (ca : Nat → ClassId) (ad : Nat → Nat) (v : XV) (x2 : Int32) (x3 : Int32) {o : (Int32 × CV)} (hf : fX6_trialLeaksAs v 0 x2 x3 = some o) : zMi l yX6_trialLeaksAs wsX6_trialLeaksAs rX6_trialLeaksAs_s0 G ca [.ref (ad 0), .ref (ad 117), .int x2, .int x3] (wX ca ad v) o.1 (wX ca ad (v.1, v.2.1, o.2, v.2.2.2)) := by
  refine zMi.of (cc := cX6_trialLeaksAs) (nL := 5) (own := RX6) (ty := .boolean) (by decide) rfl rfl (Nat.le_of_ble_eq_true rfl) (fun X h hE => ?_)
  show V X G 5 0 0 (wX ca ad v) 0 [(0, .ref (ad 0)), (1, .ref (ad 117)), (2, .int x2), (3, .int x3)] []
  unfold fX6_trialLeaksAs at hf
  refine v_iconst h dX6_trialLeaksAs_0 0 rfl 1 rfl ?_
  refine v_istore h dX6_trialLeaksAs_1 (Nat.le_of_ble_eq_true rfl) rfl rfl [(0, .ref (ad 0)), (1, .ref (ad 117)), (2, .int x2), (3, .int x3), (4, .int 0)] rfl 3 rfl ?_
  obtain ⟨u1, hu1, hf⟩ := zb hf
  refine v_sub [0, 1, 2, 3, 4] rfl ?_
  refine tX6_trialLeaksAs_s0_l3 h zF v x2 x3 0 v.2.2.1 _ hu1 (fun x2 ex => ?_) (fun x2 ex => ?_)
  · subst ex
    replace hf := hf
    refine v_iconst h dX6_trialLeaksAs_35 1 rfl 36 rfl ?_
    cases (Option.some.inj hf)
    exact hE 36 _ znar1 dX6_trialLeaksAs_36
  · subst ex
    cases (Option.some.inj hf)
    exact hE
abbrev rX6_trialLeaksAs_s1 : Room := { frames := 4, cells := 0, slots := 0, locals := 86 }
set_option maxRecDepth 100000 in
set_option maxHeartbeats 4000000 in
theorem tX6_trialLeaksAs_s1_l3 {X : zX} {l : Launch} {G : va_G} {ca : Nat → ClassId} {ad : Nat → Nat} (h : zOk X l G ca cX6_trialLeaksAs RX6 wsX6_trialLeaksAs 5 rX6_trialLeaksAs_s1) : ∀ (n : Nat) (v : XV) (x2 : Int32) (x3 : Int32) (x4 : Int32) (m2 : CV) (out : ((Int32 × CV) ⊕ CV)), fX6_trialLeaksAs_L3 n v 1 x2 x3 x4 m2 = some out → (∀ e, out = .inr e → V X G 5 0 0 (wX ca ad (v.1, v.2.1, e, v.2.2.2)) 35 [] []) → (∀ r, out = .inl r → zEi X G cX6_trialLeaksAs 5 .boolean r.1 (wX ca ad (v.1, v.2.1, r.2, v.2.2.2))) → V X G 5 0 0 (wX ca ad (v.1, v.2.1, m2, v.2.2.2)) 3 [(0, .ref (ad 0)), (1, .ref (ad 119)), (2, .int x2), (3, .int x3), (4, .int x4)] [] := by
  intro n
  induction n with
  | zero => intro v x2 x3 x4 m2 out hf; rw [fX6_trialLeaksAs_L3] at hf; cases hf
  | succ n ih =>
    intro v x2 x3 x4 m2 out hf kx kr
    rw [fX6_trialLeaksAs_L3] at hf
    refine v_iload h dX6_trialLeaksAs_3 4 rfl 5 rfl ?_
    refine v_iload_n h dX6_trialLeaksAs_5 3 rfl 6 rfl ?_
    refine v_icmp_ge h dX6_trialLeaksAs_6 35 (by decide) 9 rfl (fun c1 => ?_) (fun c1 => ?_)
    · replace hf := zt c1 hf
      cases (Option.some.inj hf)
      exact v_sub [] rfl (kx _ rfl)
    · replace hf := zf c1 hf
      refine v_aload_n h dX6_trialLeaksAs_9 1 rfl 10 rfl ?_
      refine v_get h (v := .ref (ad 120)) dX6_trialLeaksAs_10 iX6_trialLeaksAs_X3 119 rfl rfl 0 (by decide) (zwi 1 rfl) rfl 13 rfl ?_
      refine v_iload_n h dX6_trialLeaksAs_13 2 rfl 14 rfl ?_
      refine v_iload h dX6_trialLeaksAs_14 4 rfl 16 rfl ?_
      refine v_iadd h dX6_trialLeaksAs_16 17 rfl ?_
      obtain ⟨g2, hf⟩ := zg hf
      refine v_lald h (f := (v.2.2.2.2.2.1 1).1) dX6_trialLeaksAs_17 120 1 rfl rfl (zix_in g2) 18 rfl ?_
      refine v_aload_n h dX6_trialLeaksAs_18 0 rfl 19 rfl ?_
      obtain ⟨u3, hu3, hf⟩ := zb hf
      refine v_wcallVi h (rest := [.long (zgt (v.2.2.2.2.2.1 1).1 (x2 + x4))]) dX6_trialLeaksAs_19 (tX6_yearOfTrial l G ca ad (v.1, v.2.1, m2, v.2.2.2)  hu3) gX6_trialLeaksAs_X6_yearOfTrial rfl rfl ⟨rfl, rfl⟩ nX6_yearOfTrial ⟨Nat.le_of_ble_eq_true rfl, Nat.le_of_ble_eq_true rfl⟩ 0 rfl rfl rfl rfl (Nat.le_of_ble_eq_true rfl) ⟨Nat.zero_le _, Nat.zero_le _⟩ (wX_adr _ _ _ _) 22 rfl ?_
      refine v_i2l h dX6_trialLeaksAs_22 23 rfl ?_
      refine v_lcmp h dX6_trialLeaksAs_23 24 rfl ?_
      refine v_if_eq h dX6_trialLeaksAs_24 29 (by decide) 27 rfl (fun c4 => ?_) (fun c4 => ?_)
      · replace hf := zt c4 hf
        refine v_iinc h dX6_trialLeaksAs_29 4 rfl (x4 + 1) rfl (Nat.le_of_ble_eq_true rfl) rfl rfl [(0, .ref (ad 0)), (1, .ref (ad 119)), (2, .int x2), (3, .int x3), (4, .int (x4 + 1))] rfl 32 rfl ?_
        refine v_goto h dX6_trialLeaksAs_32 3 (by decide) ?_
        exact v_sub [0, 1, 2, 3, 4] rfl (ih v x2 x3 (x4 + 1) u3.2 _ hf kx kr)
      · replace hf := zf c4 hf
        refine v_iconst h dX6_trialLeaksAs_27 0 rfl 28 rfl ?_
        cases (Option.some.inj hf)
        exact kr _ rfl 28 _ znar0 dX6_trialLeaksAs_28
set_option maxRecDepth 100000 in
set_option maxHeartbeats 4000000 in
theorem tX6_trialLeaksAs_s1 (l : Launch) (G : va_G) (ca : Nat → ClassId) (ad : Nat → Nat) (v : XV) (x2 : Int32) (x3 : Int32) {o : (Int32 × CV)} (hf : fX6_trialLeaksAs v 1 x2 x3 = some o) : zMi l yX6_trialLeaksAs wsX6_trialLeaksAs rX6_trialLeaksAs_s1 G ca [.ref (ad 0), .ref (ad 119), .int x2, .int x3] (wX ca ad v) o.1 (wX ca ad (v.1, v.2.1, o.2, v.2.2.2)) := by
  refine zMi.of (cc := cX6_trialLeaksAs) (nL := 5) (own := RX6) (ty := .boolean) (by decide) rfl rfl (Nat.le_of_ble_eq_true rfl) (fun X h hE => ?_)
  show V X G 5 0 0 (wX ca ad v) 0 [(0, .ref (ad 0)), (1, .ref (ad 119)), (2, .int x2), (3, .int x3)] []
  unfold fX6_trialLeaksAs at hf
  refine v_iconst h dX6_trialLeaksAs_0 0 rfl 1 rfl ?_
  refine v_istore h dX6_trialLeaksAs_1 (Nat.le_of_ble_eq_true rfl) rfl rfl [(0, .ref (ad 0)), (1, .ref (ad 119)), (2, .int x2), (3, .int x3), (4, .int 0)] rfl 3 rfl ?_
  obtain ⟨u1, hu1, hf⟩ := zb hf
  refine v_sub [0, 1, 2, 3, 4] rfl ?_
  refine tX6_trialLeaksAs_s1_l3 h zF v x2 x3 0 v.2.2.1 _ hu1 (fun x2 ex => ?_) (fun x2 ex => ?_)
  · subst ex
    replace hf := hf
    refine v_iconst h dX6_trialLeaksAs_35 1 rfl 36 rfl ?_
    cases (Option.some.inj hf)
    exact hE 36 _ znar1 dX6_trialLeaksAs_36
  · subst ex
    cases (Option.some.inj hf)
    exact hE
abbrev rX6_trialLeaksAs_s2 : Room := { frames := 4, cells := 0, slots := 0, locals := 86 }
set_option maxRecDepth 100000 in
set_option maxHeartbeats 4000000 in
theorem tX6_trialLeaksAs_s2_l3 {X : zX} {l : Launch} {G : va_G} {ca : Nat → ClassId} {ad : Nat → Nat} (h : zOk X l G ca cX6_trialLeaksAs RX6 wsX6_trialLeaksAs 5 rX6_trialLeaksAs_s2) : ∀ (n : Nat) (v : XV) (x2 : Int32) (x3 : Int32) (x4 : Int32) (m2 : CV) (out : ((Int32 × CV) ⊕ CV)), fX6_trialLeaksAs_L3 n v 2 x2 x3 x4 m2 = some out → (∀ e, out = .inr e → V X G 5 0 0 (wX ca ad (v.1, v.2.1, e, v.2.2.2)) 35 [] []) → (∀ r, out = .inl r → zEi X G cX6_trialLeaksAs 5 .boolean r.1 (wX ca ad (v.1, v.2.1, r.2, v.2.2.2))) → V X G 5 0 0 (wX ca ad (v.1, v.2.1, m2, v.2.2.2)) 3 [(0, .ref (ad 0)), (1, .ref (ad 121)), (2, .int x2), (3, .int x3), (4, .int x4)] [] := by
  intro n
  induction n with
  | zero => intro v x2 x3 x4 m2 out hf; rw [fX6_trialLeaksAs_L3] at hf; cases hf
  | succ n ih =>
    intro v x2 x3 x4 m2 out hf kx kr
    rw [fX6_trialLeaksAs_L3] at hf
    refine v_iload h dX6_trialLeaksAs_3 4 rfl 5 rfl ?_
    refine v_iload_n h dX6_trialLeaksAs_5 3 rfl 6 rfl ?_
    refine v_icmp_ge h dX6_trialLeaksAs_6 35 (by decide) 9 rfl (fun c1 => ?_) (fun c1 => ?_)
    · replace hf := zt c1 hf
      cases (Option.some.inj hf)
      exact v_sub [] rfl (kx _ rfl)
    · replace hf := zf c1 hf
      refine v_aload_n h dX6_trialLeaksAs_9 1 rfl 10 rfl ?_
      refine v_get h (v := .ref (ad 122)) dX6_trialLeaksAs_10 iX6_trialLeaksAs_X3 121 rfl rfl 0 (by decide) (zwi 1 rfl) rfl 13 rfl ?_
      refine v_iload_n h dX6_trialLeaksAs_13 2 rfl 14 rfl ?_
      refine v_iload h dX6_trialLeaksAs_14 4 rfl 16 rfl ?_
      refine v_iadd h dX6_trialLeaksAs_16 17 rfl ?_
      obtain ⟨g2, hf⟩ := zg hf
      refine v_lald h (f := (v.2.2.2.2.2.1 2).1) dX6_trialLeaksAs_17 122 1 rfl rfl (zix_in g2) 18 rfl ?_
      refine v_aload_n h dX6_trialLeaksAs_18 0 rfl 19 rfl ?_
      obtain ⟨u3, hu3, hf⟩ := zb hf
      refine v_wcallVi h (rest := [.long (zgt (v.2.2.2.2.2.1 2).1 (x2 + x4))]) dX6_trialLeaksAs_19 (tX6_yearOfTrial l G ca ad (v.1, v.2.1, m2, v.2.2.2)  hu3) gX6_trialLeaksAs_X6_yearOfTrial rfl rfl ⟨rfl, rfl⟩ nX6_yearOfTrial ⟨Nat.le_of_ble_eq_true rfl, Nat.le_of_ble_eq_true rfl⟩ 0 rfl rfl rfl rfl (Nat.le_of_ble_eq_true rfl) ⟨Nat.zero_le _, Nat.zero_le _⟩ (wX_adr _ _ _ _) 22 rfl ?_
      refine v_i2l h dX6_trialLeaksAs_22 23 rfl ?_
      refine v_lcmp h dX6_trialLeaksAs_23 24 rfl ?_
      refine v_if_eq h dX6_trialLeaksAs_24 29 (by decide) 27 rfl (fun c4 => ?_) (fun c4 => ?_)
      · replace hf := zt c4 hf
        refine v_iinc h dX6_trialLeaksAs_29 4 rfl (x4 + 1) rfl (Nat.le_of_ble_eq_true rfl) rfl rfl [(0, .ref (ad 0)), (1, .ref (ad 121)), (2, .int x2), (3, .int x3), (4, .int (x4 + 1))] rfl 32 rfl ?_
        refine v_goto h dX6_trialLeaksAs_32 3 (by decide) ?_
        exact v_sub [0, 1, 2, 3, 4] rfl (ih v x2 x3 (x4 + 1) u3.2 _ hf kx kr)
      · replace hf := zf c4 hf
        refine v_iconst h dX6_trialLeaksAs_27 0 rfl 28 rfl ?_
        cases (Option.some.inj hf)
        exact kr _ rfl 28 _ znar0 dX6_trialLeaksAs_28
set_option maxRecDepth 100000 in
set_option maxHeartbeats 4000000 in
theorem tX6_trialLeaksAs_s2 (l : Launch) (G : va_G) (ca : Nat → ClassId) (ad : Nat → Nat) (v : XV) (x2 : Int32) (x3 : Int32) {o : (Int32 × CV)} (hf : fX6_trialLeaksAs v 2 x2 x3 = some o) : zMi l yX6_trialLeaksAs wsX6_trialLeaksAs rX6_trialLeaksAs_s2 G ca [.ref (ad 0), .ref (ad 121), .int x2, .int x3] (wX ca ad v) o.1 (wX ca ad (v.1, v.2.1, o.2, v.2.2.2)) := by
  refine zMi.of (cc := cX6_trialLeaksAs) (nL := 5) (own := RX6) (ty := .boolean) (by decide) rfl rfl (Nat.le_of_ble_eq_true rfl) (fun X h hE => ?_)
  show V X G 5 0 0 (wX ca ad v) 0 [(0, .ref (ad 0)), (1, .ref (ad 121)), (2, .int x2), (3, .int x3)] []
  unfold fX6_trialLeaksAs at hf
  refine v_iconst h dX6_trialLeaksAs_0 0 rfl 1 rfl ?_
  refine v_istore h dX6_trialLeaksAs_1 (Nat.le_of_ble_eq_true rfl) rfl rfl [(0, .ref (ad 0)), (1, .ref (ad 121)), (2, .int x2), (3, .int x3), (4, .int 0)] rfl 3 rfl ?_
  obtain ⟨u1, hu1, hf⟩ := zb hf
  refine v_sub [0, 1, 2, 3, 4] rfl ?_
  refine tX6_trialLeaksAs_s2_l3 h zF v x2 x3 0 v.2.2.1 _ hu1 (fun x2 ex => ?_) (fun x2 ex => ?_)
  · subst ex
    replace hf := hf
    refine v_iconst h dX6_trialLeaksAs_35 1 rfl 36 rfl ?_
    cases (Option.some.inj hf)
    exact hE 36 _ znar1 dX6_trialLeaksAs_36
  · subst ex
    cases (Option.some.inj hf)
    exact hE
abbrev rX6_trialLeaksAs_s3 : Room := { frames := 4, cells := 0, slots := 0, locals := 86 }
set_option maxRecDepth 100000 in
set_option maxHeartbeats 4000000 in
theorem tX6_trialLeaksAs_s3_l3 {X : zX} {l : Launch} {G : va_G} {ca : Nat → ClassId} {ad : Nat → Nat} (h : zOk X l G ca cX6_trialLeaksAs RX6 wsX6_trialLeaksAs 5 rX6_trialLeaksAs_s3) : ∀ (n : Nat) (v : XV) (x2 : Int32) (x3 : Int32) (x4 : Int32) (m2 : CV) (out : ((Int32 × CV) ⊕ CV)), fX6_trialLeaksAs_L3 n v 3 x2 x3 x4 m2 = some out → (∀ e, out = .inr e → V X G 5 0 0 (wX ca ad (v.1, v.2.1, e, v.2.2.2)) 35 [] []) → (∀ r, out = .inl r → zEi X G cX6_trialLeaksAs 5 .boolean r.1 (wX ca ad (v.1, v.2.1, r.2, v.2.2.2))) → V X G 5 0 0 (wX ca ad (v.1, v.2.1, m2, v.2.2.2)) 3 [(0, .ref (ad 0)), (1, .ref (ad 123)), (2, .int x2), (3, .int x3), (4, .int x4)] [] := by
  intro n
  induction n with
  | zero => intro v x2 x3 x4 m2 out hf; rw [fX6_trialLeaksAs_L3] at hf; cases hf
  | succ n ih =>
    intro v x2 x3 x4 m2 out hf kx kr
    rw [fX6_trialLeaksAs_L3] at hf
    refine v_iload h dX6_trialLeaksAs_3 4 rfl 5 rfl ?_
    refine v_iload_n h dX6_trialLeaksAs_5 3 rfl 6 rfl ?_
    refine v_icmp_ge h dX6_trialLeaksAs_6 35 (by decide) 9 rfl (fun c1 => ?_) (fun c1 => ?_)
    · replace hf := zt c1 hf
      cases (Option.some.inj hf)
      exact v_sub [] rfl (kx _ rfl)
    · replace hf := zf c1 hf
      refine v_aload_n h dX6_trialLeaksAs_9 1 rfl 10 rfl ?_
      refine v_get h (v := .ref (ad 124)) dX6_trialLeaksAs_10 iX6_trialLeaksAs_X3 123 rfl rfl 0 (by decide) (zwi 1 rfl) rfl 13 rfl ?_
      refine v_iload_n h dX6_trialLeaksAs_13 2 rfl 14 rfl ?_
      refine v_iload h dX6_trialLeaksAs_14 4 rfl 16 rfl ?_
      refine v_iadd h dX6_trialLeaksAs_16 17 rfl ?_
      obtain ⟨g2, hf⟩ := zg hf
      refine v_lald h (f := (v.2.2.2.2.2.1 3).1) dX6_trialLeaksAs_17 124 1 rfl rfl (zix_in g2) 18 rfl ?_
      refine v_aload_n h dX6_trialLeaksAs_18 0 rfl 19 rfl ?_
      obtain ⟨u3, hu3, hf⟩ := zb hf
      refine v_wcallVi h (rest := [.long (zgt (v.2.2.2.2.2.1 3).1 (x2 + x4))]) dX6_trialLeaksAs_19 (tX6_yearOfTrial l G ca ad (v.1, v.2.1, m2, v.2.2.2)  hu3) gX6_trialLeaksAs_X6_yearOfTrial rfl rfl ⟨rfl, rfl⟩ nX6_yearOfTrial ⟨Nat.le_of_ble_eq_true rfl, Nat.le_of_ble_eq_true rfl⟩ 0 rfl rfl rfl rfl (Nat.le_of_ble_eq_true rfl) ⟨Nat.zero_le _, Nat.zero_le _⟩ (wX_adr _ _ _ _) 22 rfl ?_
      refine v_i2l h dX6_trialLeaksAs_22 23 rfl ?_
      refine v_lcmp h dX6_trialLeaksAs_23 24 rfl ?_
      refine v_if_eq h dX6_trialLeaksAs_24 29 (by decide) 27 rfl (fun c4 => ?_) (fun c4 => ?_)
      · replace hf := zt c4 hf
        refine v_iinc h dX6_trialLeaksAs_29 4 rfl (x4 + 1) rfl (Nat.le_of_ble_eq_true rfl) rfl rfl [(0, .ref (ad 0)), (1, .ref (ad 123)), (2, .int x2), (3, .int x3), (4, .int (x4 + 1))] rfl 32 rfl ?_
        refine v_goto h dX6_trialLeaksAs_32 3 (by decide) ?_
        exact v_sub [0, 1, 2, 3, 4] rfl (ih v x2 x3 (x4 + 1) u3.2 _ hf kx kr)
      · replace hf := zf c4 hf
        refine v_iconst h dX6_trialLeaksAs_27 0 rfl 28 rfl ?_
        cases (Option.some.inj hf)
        exact kr _ rfl 28 _ znar0 dX6_trialLeaksAs_28
set_option maxRecDepth 100000 in
set_option maxHeartbeats 4000000 in
theorem tX6_trialLeaksAs_s3 (l : Launch) (G : va_G) (ca : Nat → ClassId) (ad : Nat → Nat) (v : XV) (x2 : Int32) (x3 : Int32) {o : (Int32 × CV)} (hf : fX6_trialLeaksAs v 3 x2 x3 = some o) : zMi l yX6_trialLeaksAs wsX6_trialLeaksAs rX6_trialLeaksAs_s3 G ca [.ref (ad 0), .ref (ad 123), .int x2, .int x3] (wX ca ad v) o.1 (wX ca ad (v.1, v.2.1, o.2, v.2.2.2)) := by
  refine zMi.of (cc := cX6_trialLeaksAs) (nL := 5) (own := RX6) (ty := .boolean) (by decide) rfl rfl (Nat.le_of_ble_eq_true rfl) (fun X h hE => ?_)
  show V X G 5 0 0 (wX ca ad v) 0 [(0, .ref (ad 0)), (1, .ref (ad 123)), (2, .int x2), (3, .int x3)] []
  unfold fX6_trialLeaksAs at hf
  refine v_iconst h dX6_trialLeaksAs_0 0 rfl 1 rfl ?_
  refine v_istore h dX6_trialLeaksAs_1 (Nat.le_of_ble_eq_true rfl) rfl rfl [(0, .ref (ad 0)), (1, .ref (ad 123)), (2, .int x2), (3, .int x3), (4, .int 0)] rfl 3 rfl ?_
  obtain ⟨u1, hu1, hf⟩ := zb hf
  refine v_sub [0, 1, 2, 3, 4] rfl ?_
  refine tX6_trialLeaksAs_s3_l3 h zF v x2 x3 0 v.2.2.1 _ hu1 (fun x2 ex => ?_) (fun x2 ex => ?_)
  · subst ex
    replace hf := hf
    refine v_iconst h dX6_trialLeaksAs_35 1 rfl 36 rfl ?_
    cases (Option.some.inj hf)
    exact hE 36 _ znar1 dX6_trialLeaksAs_36
  · subst ex
    cases (Option.some.inj hf)
    exact hE
theorem nX6_kindsThatFit : zNoMH yX6_kindsThatFit 4 := ⟨by decide +kernel, by decide +kernel, by decide +kernel⟩
theorem iX6_kindsThatFit_X6 : ∀ w ∈ wsX60, w ∈ wsX6_kindsThatFit := fun _ h => (List.mem_cons_of_mem _ (List.mem_append_left _ (List.mem_append_left _ (List.mem_append_left _ (List.mem_append_left _ (List.mem_append_right _ h))))))
theorem iX6_kindsThatFit_X0 : ∀ w ∈ wsX00, w ∈ wsX6_kindsThatFit := fun _ h => (List.mem_cons_of_mem _ (List.mem_append_left _ (List.mem_append_left _ (List.mem_append_left _ (List.mem_append_right _ h)))))
theorem iX6_kindsThatFit_X1 : ∀ w ∈ wsX10, w ∈ wsX6_kindsThatFit := fun _ h => (List.mem_cons_of_mem _ (List.mem_append_left _ (List.mem_append_left _ (List.mem_append_right _ h))))
theorem iX6_kindsThatFit_X3 : ∀ w ∈ wsX30, w ∈ wsX6_kindsThatFit := fun _ h => (List.mem_cons_of_mem _ (List.mem_append_left _ (List.mem_append_right _ h)))
theorem iX6_kindsThatFit_X5 : ∀ w ∈ wsX50, w ∈ wsX6_kindsThatFit := fun _ h => (List.mem_cons_of_mem _ (List.mem_append_right _ h))
def fX6_kindsThatFit_L6 : Nat → XV → Nat → Int32 → Int32 → Int32 → Int32 → Int32 → CV → Option (Int32 × CV)
  | 0, _, _, _, _, _, _, _, _ => none
  | n + 1, v, j, x1, x3, x4, x5, x6, m2 => if 5 ≤ x6 then (some (x5, m2)) else (((fX6_startTrial (v.1, v.2.1, m2, v.2.2.2)) : Option CV).bind (fun u2 => zgrd (zix x1 10) (((fX6_trialLeaksAs (v.1, v.2.1, ((zpt u2.1 x1 x6), u2.2), v.2.2.2) j x3 x4) : Option (Int32 × CV)).bind (fun u4 => if u4.1 = 0 then (fX6_kindsThatFit_L6 n v j x1 x3 x4 x5 (x6 + 1) u4.2) else (zlet (1 <<< (x6 &&& 31) : Int32) (fun d6 => zlet (x5 ||| d6 : Int32) (fun d7 => fX6_kindsThatFit_L6 n v j x1 x3 x4 d7 (x6 + 1) u4.2)))))))
def fX6_kindsThatFit (v : XV) (j : Nat) (x1 : Int32) (x3 : Int32) (x4 : Int32) : Option (Int32 × CV) := ((fX6_kindsThatFit_L6 zF v j x1 x3 x4 0 0 v.2.2.1) : Option (Int32 × CV)).bind (fun u1 => some (u1.1, u1.2))
abbrev rX6_kindsThatFit_s0 : Room := { frames := 5, cells := 0, slots := 0, locals := 110 }
set_option maxRecDepth 100000 in
set_option maxHeartbeats 4000000 in
theorem tX6_kindsThatFit_s0_l6 {X : zX} {l : Launch} {G : va_G} {ca : Nat → ClassId} {ad : Nat → Nat} (h : zOk X l G ca cX6_kindsThatFit RX6 wsX6_kindsThatFit 7 rX6_kindsThatFit_s0) : ∀ (n : Nat) (v : XV) (x1 : Int32) (x3 : Int32) (x4 : Int32) (x5 : Int32) (x6 : Int32) (m2 : CV) (out : (Int32 × CV)), fX6_kindsThatFit_L6 n v 0 x1 x3 x4 x5 x6 m2 = some out → (V X G 7 0 0 (wX ca ad (v.1, v.2.1, out.2, v.2.2.2)) 53 [(5, .int out.1)] []) → V X G 7 0 0 (wX ca ad (v.1, v.2.1, m2, v.2.2.2)) 6 [(0, .ref (ad 0)), (1, .int x1), (2, .ref (ad 117)), (3, .int x3), (4, .int x4), (5, .int x5), (6, .int x6)] [] := by
  intro n
  induction n with
  | zero => intro v x1 x3 x4 x5 x6 m2 out hf; rw [fX6_kindsThatFit_L6] at hf; cases hf
  | succ n ih =>
    intro v x1 x3 x4 x5 x6 m2 out hf kx
    rw [fX6_kindsThatFit_L6] at hf
    refine v_iload h dX6_kindsThatFit_6 6 rfl 8 rfl ?_
    refine v_iconst h dX6_kindsThatFit_8 5 rfl 9 rfl ?_
    refine v_icmp_ge h dX6_kindsThatFit_9 53 (by decide) 12 rfl (fun c1 => ?_) (fun c1 => ?_)
    · replace hf := zt c1 hf
      cases (Option.some.inj hf)
      exact v_sub [5] rfl (kx)
    · replace hf := zf c1 hf
      refine v_aload_n h dX6_kindsThatFit_12 0 rfl 13 rfl ?_
      obtain ⟨u2, hu2, hf⟩ := zb hf
      refine v_wcallVv h (rest := []) dX6_kindsThatFit_13 (tX6_startTrial l G ca ad (v.1, v.2.1, m2, v.2.2.2)  hu2) gX6_kindsThatFit_X6_startTrial rfl rfl ⟨rfl, rfl⟩ nX6_startTrial ⟨Nat.le_of_ble_eq_true rfl, Nat.le_of_ble_eq_true rfl⟩ 0 rfl rfl rfl rfl (Nat.le_of_ble_eq_true rfl) ⟨Nat.zero_le _, Nat.zero_le _⟩ (wX_adr _ _ _ _) 16 rfl ?_
      refine v_aload_n h dX6_kindsThatFit_16 0 rfl 17 rfl ?_
      refine v_get h (v := .ref (ad 99)) dX6_kindsThatFit_17 iX6_kindsThatFit_X6 0 rfl rfl 2 (by decide) (zwi 1 rfl) rfl 20 rfl ?_
      refine v_get h (v := .ref (ad 100)) dX6_kindsThatFit_20 iX6_kindsThatFit_X0 99 rfl rfl 0 (by decide) (zwi 2 rfl) rfl 23 rfl ?_
      refine v_iload_n h dX6_kindsThatFit_23 1 rfl 24 rfl ?_
      refine v_iload h dX6_kindsThatFit_24 6 rfl 26 rfl ?_
      obtain ⟨g3, hf⟩ := zg hf
      refine v_iast h (f := u2.1) dX6_kindsThatFit_26 100 0 rfl rfl (zix_in g3) (wX ca ad (v.1, v.2.1, ((zpt u2.1 x1 x6), u2.2), v.2.2.2)) rfl 27 rfl ?_
      refine v_aload_n h dX6_kindsThatFit_27 0 rfl 28 rfl ?_
      refine v_aload_n h dX6_kindsThatFit_28 2 rfl 29 rfl ?_
      refine v_iload_n h dX6_kindsThatFit_29 3 rfl 30 rfl ?_
      refine v_iload h dX6_kindsThatFit_30 4 rfl 32 rfl ?_
      obtain ⟨u4, hu4, hf⟩ := zb hf
      refine v_wcallVi h (rest := []) dX6_kindsThatFit_32 (tX6_trialLeaksAs_s0 l G ca ad (v.1, v.2.1, ((zpt u2.1 x1 x6), u2.2), v.2.2.2) x3 x4 hu4) gX6_kindsThatFit_X6_trialLeaksAs rfl rfl ⟨rfl, rfl⟩ nX6_trialLeaksAs ⟨Nat.le_of_ble_eq_true rfl, Nat.le_of_ble_eq_true rfl⟩ 0 rfl rfl rfl rfl (Nat.le_of_ble_eq_true rfl) ⟨Nat.zero_le _, Nat.zero_le _⟩ (wX_adr _ _ _ _) 35 rfl ?_
      refine v_if_eq h dX6_kindsThatFit_35 47 (by decide) 38 rfl (fun c5 => ?_) (fun c5 => ?_)
      · replace hf := zt c5 hf
        refine v_iinc h dX6_kindsThatFit_47 6 rfl (x6 + 1) rfl (Nat.le_of_ble_eq_true rfl) rfl rfl [(0, .ref (ad 0)), (1, .int x1), (2, .ref (ad 117)), (3, .int x3), (4, .int x4), (5, .int x5), (6, .int (x6 + 1))] rfl 50 rfl ?_
        refine v_goto h dX6_kindsThatFit_50 6 (by decide) ?_
        exact v_sub [0, 1, 2, 3, 4, 5, 6] rfl (ih v x1 x3 x4 x5 (x6 + 1) u4.2 _ hf kx)
      · replace hf := zf c5 hf
        refine v_iload h dX6_kindsThatFit_38 5 rfl 40 rfl ?_
        refine v_iconst h dX6_kindsThatFit_40 1 rfl 41 rfl ?_
        refine v_iload h dX6_kindsThatFit_41 6 rfl 43 rfl ?_
        refine v_ishl h dX6_kindsThatFit_43 44 rfl ?_
        obtain ⟨d6, ed6, hf⟩ := zl hf
        refine v_topi ed6 ?_
        refine v_ior h dX6_kindsThatFit_44 45 rfl ?_
        obtain ⟨d7, ed7, hf⟩ := zl hf
        refine v_topi ed7 ?_
        refine v_istore h dX6_kindsThatFit_45 (Nat.le_of_ble_eq_true rfl) rfl rfl [(0, .ref (ad 0)), (1, .int x1), (2, .ref (ad 117)), (3, .int x3), (4, .int x4), (5, .int d7), (6, .int x6)] rfl 47 rfl ?_
        refine v_iinc h dX6_kindsThatFit_47 6 rfl (x6 + 1) rfl (Nat.le_of_ble_eq_true rfl) rfl rfl [(0, .ref (ad 0)), (1, .int x1), (2, .ref (ad 117)), (3, .int x3), (4, .int x4), (5, .int d7), (6, .int (x6 + 1))] rfl 50 rfl ?_
        refine v_goto h dX6_kindsThatFit_50 6 (by decide) ?_
        exact v_sub [0, 1, 2, 3, 4, 5, 6] rfl (ih v x1 x3 x4 d7 (x6 + 1) u4.2 _ hf kx)
set_option maxRecDepth 100000 in
set_option maxHeartbeats 4000000 in
theorem tX6_kindsThatFit_s0 (l : Launch) (G : va_G) (ca : Nat → ClassId) (ad : Nat → Nat) (v : XV) (x1 : Int32) (x3 : Int32) (x4 : Int32) {o : (Int32 × CV)} (hf : fX6_kindsThatFit v 0 x1 x3 x4 = some o) : zMi l yX6_kindsThatFit wsX6_kindsThatFit rX6_kindsThatFit_s0 G ca [.ref (ad 0), .int x1, .ref (ad 117), .int x3, .int x4] (wX ca ad v) o.1 (wX ca ad (v.1, v.2.1, o.2, v.2.2.2)) := by
  refine zMi.of (cc := cX6_kindsThatFit) (nL := 7) (own := RX6) (ty := .int) (by decide) rfl rfl (Nat.le_of_ble_eq_true rfl) (fun X h hE => ?_)
  show V X G 7 0 0 (wX ca ad v) 0 [(0, .ref (ad 0)), (1, .int x1), (2, .ref (ad 117)), (3, .int x3), (4, .int x4)] []
  unfold fX6_kindsThatFit at hf
  refine v_iconst h dX6_kindsThatFit_0 0 rfl 1 rfl ?_
  refine v_istore h dX6_kindsThatFit_1 (Nat.le_of_ble_eq_true rfl) rfl rfl [(0, .ref (ad 0)), (1, .int x1), (2, .ref (ad 117)), (3, .int x3), (4, .int x4), (5, .int 0)] rfl 3 rfl ?_
  refine v_iconst h dX6_kindsThatFit_3 0 rfl 4 rfl ?_
  refine v_istore h dX6_kindsThatFit_4 (Nat.le_of_ble_eq_true rfl) rfl rfl [(0, .ref (ad 0)), (1, .int x1), (2, .ref (ad 117)), (3, .int x3), (4, .int x4), (5, .int 0), (6, .int 0)] rfl 6 rfl ?_
  obtain ⟨u1, hu1, hf⟩ := zb hf
  refine v_sub [0, 1, 2, 3, 4, 5, 6] rfl ?_
  refine tX6_kindsThatFit_s0_l6 h zF v x1 x3 x4 0 0 v.2.2.1 _ hu1 ?_
  refine v_iload h dX6_kindsThatFit_53 0 rfl 55 rfl ?_
  cases (Option.some.inj hf)
  exact hE 55 _ rfl dX6_kindsThatFit_55
abbrev rX6_kindsThatFit_s1 : Room := { frames := 5, cells := 0, slots := 0, locals := 110 }
set_option maxRecDepth 100000 in
set_option maxHeartbeats 4000000 in
theorem tX6_kindsThatFit_s1_l6 {X : zX} {l : Launch} {G : va_G} {ca : Nat → ClassId} {ad : Nat → Nat} (h : zOk X l G ca cX6_kindsThatFit RX6 wsX6_kindsThatFit 7 rX6_kindsThatFit_s1) : ∀ (n : Nat) (v : XV) (x1 : Int32) (x3 : Int32) (x4 : Int32) (x5 : Int32) (x6 : Int32) (m2 : CV) (out : (Int32 × CV)), fX6_kindsThatFit_L6 n v 1 x1 x3 x4 x5 x6 m2 = some out → (V X G 7 0 0 (wX ca ad (v.1, v.2.1, out.2, v.2.2.2)) 53 [(5, .int out.1)] []) → V X G 7 0 0 (wX ca ad (v.1, v.2.1, m2, v.2.2.2)) 6 [(0, .ref (ad 0)), (1, .int x1), (2, .ref (ad 119)), (3, .int x3), (4, .int x4), (5, .int x5), (6, .int x6)] [] := by
  intro n
  induction n with
  | zero => intro v x1 x3 x4 x5 x6 m2 out hf; rw [fX6_kindsThatFit_L6] at hf; cases hf
  | succ n ih =>
    intro v x1 x3 x4 x5 x6 m2 out hf kx
    rw [fX6_kindsThatFit_L6] at hf
    refine v_iload h dX6_kindsThatFit_6 6 rfl 8 rfl ?_
    refine v_iconst h dX6_kindsThatFit_8 5 rfl 9 rfl ?_
    refine v_icmp_ge h dX6_kindsThatFit_9 53 (by decide) 12 rfl (fun c1 => ?_) (fun c1 => ?_)
    · replace hf := zt c1 hf
      cases (Option.some.inj hf)
      exact v_sub [5] rfl (kx)
    · replace hf := zf c1 hf
      refine v_aload_n h dX6_kindsThatFit_12 0 rfl 13 rfl ?_
      obtain ⟨u2, hu2, hf⟩ := zb hf
      refine v_wcallVv h (rest := []) dX6_kindsThatFit_13 (tX6_startTrial l G ca ad (v.1, v.2.1, m2, v.2.2.2)  hu2) gX6_kindsThatFit_X6_startTrial rfl rfl ⟨rfl, rfl⟩ nX6_startTrial ⟨Nat.le_of_ble_eq_true rfl, Nat.le_of_ble_eq_true rfl⟩ 0 rfl rfl rfl rfl (Nat.le_of_ble_eq_true rfl) ⟨Nat.zero_le _, Nat.zero_le _⟩ (wX_adr _ _ _ _) 16 rfl ?_
      refine v_aload_n h dX6_kindsThatFit_16 0 rfl 17 rfl ?_
      refine v_get h (v := .ref (ad 99)) dX6_kindsThatFit_17 iX6_kindsThatFit_X6 0 rfl rfl 2 (by decide) (zwi 1 rfl) rfl 20 rfl ?_
      refine v_get h (v := .ref (ad 100)) dX6_kindsThatFit_20 iX6_kindsThatFit_X0 99 rfl rfl 0 (by decide) (zwi 2 rfl) rfl 23 rfl ?_
      refine v_iload_n h dX6_kindsThatFit_23 1 rfl 24 rfl ?_
      refine v_iload h dX6_kindsThatFit_24 6 rfl 26 rfl ?_
      obtain ⟨g3, hf⟩ := zg hf
      refine v_iast h (f := u2.1) dX6_kindsThatFit_26 100 0 rfl rfl (zix_in g3) (wX ca ad (v.1, v.2.1, ((zpt u2.1 x1 x6), u2.2), v.2.2.2)) rfl 27 rfl ?_
      refine v_aload_n h dX6_kindsThatFit_27 0 rfl 28 rfl ?_
      refine v_aload_n h dX6_kindsThatFit_28 2 rfl 29 rfl ?_
      refine v_iload_n h dX6_kindsThatFit_29 3 rfl 30 rfl ?_
      refine v_iload h dX6_kindsThatFit_30 4 rfl 32 rfl ?_
      obtain ⟨u4, hu4, hf⟩ := zb hf
      refine v_wcallVi h (rest := []) dX6_kindsThatFit_32 (tX6_trialLeaksAs_s1 l G ca ad (v.1, v.2.1, ((zpt u2.1 x1 x6), u2.2), v.2.2.2) x3 x4 hu4) gX6_kindsThatFit_X6_trialLeaksAs rfl rfl ⟨rfl, rfl⟩ nX6_trialLeaksAs ⟨Nat.le_of_ble_eq_true rfl, Nat.le_of_ble_eq_true rfl⟩ 0 rfl rfl rfl rfl (Nat.le_of_ble_eq_true rfl) ⟨Nat.zero_le _, Nat.zero_le _⟩ (wX_adr _ _ _ _) 35 rfl ?_
      refine v_if_eq h dX6_kindsThatFit_35 47 (by decide) 38 rfl (fun c5 => ?_) (fun c5 => ?_)
      · replace hf := zt c5 hf
        refine v_iinc h dX6_kindsThatFit_47 6 rfl (x6 + 1) rfl (Nat.le_of_ble_eq_true rfl) rfl rfl [(0, .ref (ad 0)), (1, .int x1), (2, .ref (ad 119)), (3, .int x3), (4, .int x4), (5, .int x5), (6, .int (x6 + 1))] rfl 50 rfl ?_
        refine v_goto h dX6_kindsThatFit_50 6 (by decide) ?_
        exact v_sub [0, 1, 2, 3, 4, 5, 6] rfl (ih v x1 x3 x4 x5 (x6 + 1) u4.2 _ hf kx)
      · replace hf := zf c5 hf
        refine v_iload h dX6_kindsThatFit_38 5 rfl 40 rfl ?_
        refine v_iconst h dX6_kindsThatFit_40 1 rfl 41 rfl ?_
        refine v_iload h dX6_kindsThatFit_41 6 rfl 43 rfl ?_
        refine v_ishl h dX6_kindsThatFit_43 44 rfl ?_
        obtain ⟨d6, ed6, hf⟩ := zl hf
        refine v_topi ed6 ?_
        refine v_ior h dX6_kindsThatFit_44 45 rfl ?_
        obtain ⟨d7, ed7, hf⟩ := zl hf
        refine v_topi ed7 ?_
        refine v_istore h dX6_kindsThatFit_45 (Nat.le_of_ble_eq_true rfl) rfl rfl [(0, .ref (ad 0)), (1, .int x1), (2, .ref (ad 119)), (3, .int x3), (4, .int x4), (5, .int d7), (6, .int x6)] rfl 47 rfl ?_
        refine v_iinc h dX6_kindsThatFit_47 6 rfl (x6 + 1) rfl (Nat.le_of_ble_eq_true rfl) rfl rfl [(0, .ref (ad 0)), (1, .int x1), (2, .ref (ad 119)), (3, .int x3), (4, .int x4), (5, .int d7), (6, .int (x6 + 1))] rfl 50 rfl ?_
        refine v_goto h dX6_kindsThatFit_50 6 (by decide) ?_
        exact v_sub [0, 1, 2, 3, 4, 5, 6] rfl (ih v x1 x3 x4 d7 (x6 + 1) u4.2 _ hf kx)
set_option maxRecDepth 100000 in
set_option maxHeartbeats 4000000 in
theorem tX6_kindsThatFit_s1 (l : Launch) (G : va_G) (ca : Nat → ClassId) (ad : Nat → Nat) (v : XV) (x1 : Int32) (x3 : Int32) (x4 : Int32) {o : (Int32 × CV)} (hf : fX6_kindsThatFit v 1 x1 x3 x4 = some o) : zMi l yX6_kindsThatFit wsX6_kindsThatFit rX6_kindsThatFit_s1 G ca [.ref (ad 0), .int x1, .ref (ad 119), .int x3, .int x4] (wX ca ad v) o.1 (wX ca ad (v.1, v.2.1, o.2, v.2.2.2)) := by
  refine zMi.of (cc := cX6_kindsThatFit) (nL := 7) (own := RX6) (ty := .int) (by decide) rfl rfl (Nat.le_of_ble_eq_true rfl) (fun X h hE => ?_)
  show V X G 7 0 0 (wX ca ad v) 0 [(0, .ref (ad 0)), (1, .int x1), (2, .ref (ad 119)), (3, .int x3), (4, .int x4)] []
  unfold fX6_kindsThatFit at hf
  refine v_iconst h dX6_kindsThatFit_0 0 rfl 1 rfl ?_
  refine v_istore h dX6_kindsThatFit_1 (Nat.le_of_ble_eq_true rfl) rfl rfl [(0, .ref (ad 0)), (1, .int x1), (2, .ref (ad 119)), (3, .int x3), (4, .int x4), (5, .int 0)] rfl 3 rfl ?_
  refine v_iconst h dX6_kindsThatFit_3 0 rfl 4 rfl ?_
  refine v_istore h dX6_kindsThatFit_4 (Nat.le_of_ble_eq_true rfl) rfl rfl [(0, .ref (ad 0)), (1, .int x1), (2, .ref (ad 119)), (3, .int x3), (4, .int x4), (5, .int 0), (6, .int 0)] rfl 6 rfl ?_
  obtain ⟨u1, hu1, hf⟩ := zb hf
  refine v_sub [0, 1, 2, 3, 4, 5, 6] rfl ?_
  refine tX6_kindsThatFit_s1_l6 h zF v x1 x3 x4 0 0 v.2.2.1 _ hu1 ?_
  refine v_iload h dX6_kindsThatFit_53 0 rfl 55 rfl ?_
  cases (Option.some.inj hf)
  exact hE 55 _ rfl dX6_kindsThatFit_55
abbrev rX6_kindsThatFit_s2 : Room := { frames := 5, cells := 0, slots := 0, locals := 110 }
set_option maxRecDepth 100000 in
set_option maxHeartbeats 4000000 in
theorem tX6_kindsThatFit_s2_l6 {X : zX} {l : Launch} {G : va_G} {ca : Nat → ClassId} {ad : Nat → Nat} (h : zOk X l G ca cX6_kindsThatFit RX6 wsX6_kindsThatFit 7 rX6_kindsThatFit_s2) : ∀ (n : Nat) (v : XV) (x1 : Int32) (x3 : Int32) (x4 : Int32) (x5 : Int32) (x6 : Int32) (m2 : CV) (out : (Int32 × CV)), fX6_kindsThatFit_L6 n v 2 x1 x3 x4 x5 x6 m2 = some out → (V X G 7 0 0 (wX ca ad (v.1, v.2.1, out.2, v.2.2.2)) 53 [(5, .int out.1)] []) → V X G 7 0 0 (wX ca ad (v.1, v.2.1, m2, v.2.2.2)) 6 [(0, .ref (ad 0)), (1, .int x1), (2, .ref (ad 121)), (3, .int x3), (4, .int x4), (5, .int x5), (6, .int x6)] [] := by
  intro n
  induction n with
  | zero => intro v x1 x3 x4 x5 x6 m2 out hf; rw [fX6_kindsThatFit_L6] at hf; cases hf
  | succ n ih =>
    intro v x1 x3 x4 x5 x6 m2 out hf kx
    rw [fX6_kindsThatFit_L6] at hf
    refine v_iload h dX6_kindsThatFit_6 6 rfl 8 rfl ?_
    refine v_iconst h dX6_kindsThatFit_8 5 rfl 9 rfl ?_
    refine v_icmp_ge h dX6_kindsThatFit_9 53 (by decide) 12 rfl (fun c1 => ?_) (fun c1 => ?_)
    · replace hf := zt c1 hf
      cases (Option.some.inj hf)
      exact v_sub [5] rfl (kx)
    · replace hf := zf c1 hf
      refine v_aload_n h dX6_kindsThatFit_12 0 rfl 13 rfl ?_
      obtain ⟨u2, hu2, hf⟩ := zb hf
      refine v_wcallVv h (rest := []) dX6_kindsThatFit_13 (tX6_startTrial l G ca ad (v.1, v.2.1, m2, v.2.2.2)  hu2) gX6_kindsThatFit_X6_startTrial rfl rfl ⟨rfl, rfl⟩ nX6_startTrial ⟨Nat.le_of_ble_eq_true rfl, Nat.le_of_ble_eq_true rfl⟩ 0 rfl rfl rfl rfl (Nat.le_of_ble_eq_true rfl) ⟨Nat.zero_le _, Nat.zero_le _⟩ (wX_adr _ _ _ _) 16 rfl ?_
      refine v_aload_n h dX6_kindsThatFit_16 0 rfl 17 rfl ?_
      refine v_get h (v := .ref (ad 99)) dX6_kindsThatFit_17 iX6_kindsThatFit_X6 0 rfl rfl 2 (by decide) (zwi 1 rfl) rfl 20 rfl ?_
      refine v_get h (v := .ref (ad 100)) dX6_kindsThatFit_20 iX6_kindsThatFit_X0 99 rfl rfl 0 (by decide) (zwi 2 rfl) rfl 23 rfl ?_
      refine v_iload_n h dX6_kindsThatFit_23 1 rfl 24 rfl ?_
      refine v_iload h dX6_kindsThatFit_24 6 rfl 26 rfl ?_
      obtain ⟨g3, hf⟩ := zg hf
      refine v_iast h (f := u2.1) dX6_kindsThatFit_26 100 0 rfl rfl (zix_in g3) (wX ca ad (v.1, v.2.1, ((zpt u2.1 x1 x6), u2.2), v.2.2.2)) rfl 27 rfl ?_
      refine v_aload_n h dX6_kindsThatFit_27 0 rfl 28 rfl ?_
      refine v_aload_n h dX6_kindsThatFit_28 2 rfl 29 rfl ?_
      refine v_iload_n h dX6_kindsThatFit_29 3 rfl 30 rfl ?_
      refine v_iload h dX6_kindsThatFit_30 4 rfl 32 rfl ?_
      obtain ⟨u4, hu4, hf⟩ := zb hf
      refine v_wcallVi h (rest := []) dX6_kindsThatFit_32 (tX6_trialLeaksAs_s2 l G ca ad (v.1, v.2.1, ((zpt u2.1 x1 x6), u2.2), v.2.2.2) x3 x4 hu4) gX6_kindsThatFit_X6_trialLeaksAs rfl rfl ⟨rfl, rfl⟩ nX6_trialLeaksAs ⟨Nat.le_of_ble_eq_true rfl, Nat.le_of_ble_eq_true rfl⟩ 0 rfl rfl rfl rfl (Nat.le_of_ble_eq_true rfl) ⟨Nat.zero_le _, Nat.zero_le _⟩ (wX_adr _ _ _ _) 35 rfl ?_
      refine v_if_eq h dX6_kindsThatFit_35 47 (by decide) 38 rfl (fun c5 => ?_) (fun c5 => ?_)
      · replace hf := zt c5 hf
        refine v_iinc h dX6_kindsThatFit_47 6 rfl (x6 + 1) rfl (Nat.le_of_ble_eq_true rfl) rfl rfl [(0, .ref (ad 0)), (1, .int x1), (2, .ref (ad 121)), (3, .int x3), (4, .int x4), (5, .int x5), (6, .int (x6 + 1))] rfl 50 rfl ?_
        refine v_goto h dX6_kindsThatFit_50 6 (by decide) ?_
        exact v_sub [0, 1, 2, 3, 4, 5, 6] rfl (ih v x1 x3 x4 x5 (x6 + 1) u4.2 _ hf kx)
      · replace hf := zf c5 hf
        refine v_iload h dX6_kindsThatFit_38 5 rfl 40 rfl ?_
        refine v_iconst h dX6_kindsThatFit_40 1 rfl 41 rfl ?_
        refine v_iload h dX6_kindsThatFit_41 6 rfl 43 rfl ?_
        refine v_ishl h dX6_kindsThatFit_43 44 rfl ?_
        obtain ⟨d6, ed6, hf⟩ := zl hf
        refine v_topi ed6 ?_
        refine v_ior h dX6_kindsThatFit_44 45 rfl ?_
        obtain ⟨d7, ed7, hf⟩ := zl hf
        refine v_topi ed7 ?_
        refine v_istore h dX6_kindsThatFit_45 (Nat.le_of_ble_eq_true rfl) rfl rfl [(0, .ref (ad 0)), (1, .int x1), (2, .ref (ad 121)), (3, .int x3), (4, .int x4), (5, .int d7), (6, .int x6)] rfl 47 rfl ?_
        refine v_iinc h dX6_kindsThatFit_47 6 rfl (x6 + 1) rfl (Nat.le_of_ble_eq_true rfl) rfl rfl [(0, .ref (ad 0)), (1, .int x1), (2, .ref (ad 121)), (3, .int x3), (4, .int x4), (5, .int d7), (6, .int (x6 + 1))] rfl 50 rfl ?_
        refine v_goto h dX6_kindsThatFit_50 6 (by decide) ?_
        exact v_sub [0, 1, 2, 3, 4, 5, 6] rfl (ih v x1 x3 x4 d7 (x6 + 1) u4.2 _ hf kx)
set_option maxRecDepth 100000 in
set_option maxHeartbeats 4000000 in
theorem tX6_kindsThatFit_s2 (l : Launch) (G : va_G) (ca : Nat → ClassId) (ad : Nat → Nat) (v : XV) (x1 : Int32) (x3 : Int32) (x4 : Int32) {o : (Int32 × CV)} (hf : fX6_kindsThatFit v 2 x1 x3 x4 = some o) : zMi l yX6_kindsThatFit wsX6_kindsThatFit rX6_kindsThatFit_s2 G ca [.ref (ad 0), .int x1, .ref (ad 121), .int x3, .int x4] (wX ca ad v) o.1 (wX ca ad (v.1, v.2.1, o.2, v.2.2.2)) := by
  refine zMi.of (cc := cX6_kindsThatFit) (nL := 7) (own := RX6) (ty := .int) (by decide) rfl rfl (Nat.le_of_ble_eq_true rfl) (fun X h hE => ?_)
  show V X G 7 0 0 (wX ca ad v) 0 [(0, .ref (ad 0)), (1, .int x1), (2, .ref (ad 121)), (3, .int x3), (4, .int x4)] []
  unfold fX6_kindsThatFit at hf
  refine v_iconst h dX6_kindsThatFit_0 0 rfl 1 rfl ?_
  refine v_istore h dX6_kindsThatFit_1 (Nat.le_of_ble_eq_true rfl) rfl rfl [(0, .ref (ad 0)), (1, .int x1), (2, .ref (ad 121)), (3, .int x3), (4, .int x4), (5, .int 0)] rfl 3 rfl ?_
  refine v_iconst h dX6_kindsThatFit_3 0 rfl 4 rfl ?_
  refine v_istore h dX6_kindsThatFit_4 (Nat.le_of_ble_eq_true rfl) rfl rfl [(0, .ref (ad 0)), (1, .int x1), (2, .ref (ad 121)), (3, .int x3), (4, .int x4), (5, .int 0), (6, .int 0)] rfl 6 rfl ?_
  obtain ⟨u1, hu1, hf⟩ := zb hf
  refine v_sub [0, 1, 2, 3, 4, 5, 6] rfl ?_
  refine tX6_kindsThatFit_s2_l6 h zF v x1 x3 x4 0 0 v.2.2.1 _ hu1 ?_
  refine v_iload h dX6_kindsThatFit_53 0 rfl 55 rfl ?_
  cases (Option.some.inj hf)
  exact hE 55 _ rfl dX6_kindsThatFit_55
abbrev rX6_kindsThatFit_s3 : Room := { frames := 5, cells := 0, slots := 0, locals := 110 }
set_option maxRecDepth 100000 in
set_option maxHeartbeats 4000000 in
theorem tX6_kindsThatFit_s3_l6 {X : zX} {l : Launch} {G : va_G} {ca : Nat → ClassId} {ad : Nat → Nat} (h : zOk X l G ca cX6_kindsThatFit RX6 wsX6_kindsThatFit 7 rX6_kindsThatFit_s3) : ∀ (n : Nat) (v : XV) (x1 : Int32) (x3 : Int32) (x4 : Int32) (x5 : Int32) (x6 : Int32) (m2 : CV) (out : (Int32 × CV)), fX6_kindsThatFit_L6 n v 3 x1 x3 x4 x5 x6 m2 = some out → (V X G 7 0 0 (wX ca ad (v.1, v.2.1, out.2, v.2.2.2)) 53 [(5, .int out.1)] []) → V X G 7 0 0 (wX ca ad (v.1, v.2.1, m2, v.2.2.2)) 6 [(0, .ref (ad 0)), (1, .int x1), (2, .ref (ad 123)), (3, .int x3), (4, .int x4), (5, .int x5), (6, .int x6)] [] := by
  intro n
  induction n with
  | zero => intro v x1 x3 x4 x5 x6 m2 out hf; rw [fX6_kindsThatFit_L6] at hf; cases hf
  | succ n ih =>
    intro v x1 x3 x4 x5 x6 m2 out hf kx
    rw [fX6_kindsThatFit_L6] at hf
    refine v_iload h dX6_kindsThatFit_6 6 rfl 8 rfl ?_
    refine v_iconst h dX6_kindsThatFit_8 5 rfl 9 rfl ?_
    refine v_icmp_ge h dX6_kindsThatFit_9 53 (by decide) 12 rfl (fun c1 => ?_) (fun c1 => ?_)
    · replace hf := zt c1 hf
      cases (Option.some.inj hf)
      exact v_sub [5] rfl (kx)
    · replace hf := zf c1 hf
      refine v_aload_n h dX6_kindsThatFit_12 0 rfl 13 rfl ?_
      obtain ⟨u2, hu2, hf⟩ := zb hf
      refine v_wcallVv h (rest := []) dX6_kindsThatFit_13 (tX6_startTrial l G ca ad (v.1, v.2.1, m2, v.2.2.2)  hu2) gX6_kindsThatFit_X6_startTrial rfl rfl ⟨rfl, rfl⟩ nX6_startTrial ⟨Nat.le_of_ble_eq_true rfl, Nat.le_of_ble_eq_true rfl⟩ 0 rfl rfl rfl rfl (Nat.le_of_ble_eq_true rfl) ⟨Nat.zero_le _, Nat.zero_le _⟩ (wX_adr _ _ _ _) 16 rfl ?_
      refine v_aload_n h dX6_kindsThatFit_16 0 rfl 17 rfl ?_
      refine v_get h (v := .ref (ad 99)) dX6_kindsThatFit_17 iX6_kindsThatFit_X6 0 rfl rfl 2 (by decide) (zwi 1 rfl) rfl 20 rfl ?_
      refine v_get h (v := .ref (ad 100)) dX6_kindsThatFit_20 iX6_kindsThatFit_X0 99 rfl rfl 0 (by decide) (zwi 2 rfl) rfl 23 rfl ?_
      refine v_iload_n h dX6_kindsThatFit_23 1 rfl 24 rfl ?_
      refine v_iload h dX6_kindsThatFit_24 6 rfl 26 rfl ?_
      obtain ⟨g3, hf⟩ := zg hf
      refine v_iast h (f := u2.1) dX6_kindsThatFit_26 100 0 rfl rfl (zix_in g3) (wX ca ad (v.1, v.2.1, ((zpt u2.1 x1 x6), u2.2), v.2.2.2)) rfl 27 rfl ?_
      refine v_aload_n h dX6_kindsThatFit_27 0 rfl 28 rfl ?_
      refine v_aload_n h dX6_kindsThatFit_28 2 rfl 29 rfl ?_
      refine v_iload_n h dX6_kindsThatFit_29 3 rfl 30 rfl ?_
      refine v_iload h dX6_kindsThatFit_30 4 rfl 32 rfl ?_
      obtain ⟨u4, hu4, hf⟩ := zb hf
      refine v_wcallVi h (rest := []) dX6_kindsThatFit_32 (tX6_trialLeaksAs_s3 l G ca ad (v.1, v.2.1, ((zpt u2.1 x1 x6), u2.2), v.2.2.2) x3 x4 hu4) gX6_kindsThatFit_X6_trialLeaksAs rfl rfl ⟨rfl, rfl⟩ nX6_trialLeaksAs ⟨Nat.le_of_ble_eq_true rfl, Nat.le_of_ble_eq_true rfl⟩ 0 rfl rfl rfl rfl (Nat.le_of_ble_eq_true rfl) ⟨Nat.zero_le _, Nat.zero_le _⟩ (wX_adr _ _ _ _) 35 rfl ?_
      refine v_if_eq h dX6_kindsThatFit_35 47 (by decide) 38 rfl (fun c5 => ?_) (fun c5 => ?_)
      · replace hf := zt c5 hf
        refine v_iinc h dX6_kindsThatFit_47 6 rfl (x6 + 1) rfl (Nat.le_of_ble_eq_true rfl) rfl rfl [(0, .ref (ad 0)), (1, .int x1), (2, .ref (ad 123)), (3, .int x3), (4, .int x4), (5, .int x5), (6, .int (x6 + 1))] rfl 50 rfl ?_
        refine v_goto h dX6_kindsThatFit_50 6 (by decide) ?_
        exact v_sub [0, 1, 2, 3, 4, 5, 6] rfl (ih v x1 x3 x4 x5 (x6 + 1) u4.2 _ hf kx)
      · replace hf := zf c5 hf
        refine v_iload h dX6_kindsThatFit_38 5 rfl 40 rfl ?_
        refine v_iconst h dX6_kindsThatFit_40 1 rfl 41 rfl ?_
        refine v_iload h dX6_kindsThatFit_41 6 rfl 43 rfl ?_
        refine v_ishl h dX6_kindsThatFit_43 44 rfl ?_
        obtain ⟨d6, ed6, hf⟩ := zl hf
        refine v_topi ed6 ?_
        refine v_ior h dX6_kindsThatFit_44 45 rfl ?_
        obtain ⟨d7, ed7, hf⟩ := zl hf
        refine v_topi ed7 ?_
        refine v_istore h dX6_kindsThatFit_45 (Nat.le_of_ble_eq_true rfl) rfl rfl [(0, .ref (ad 0)), (1, .int x1), (2, .ref (ad 123)), (3, .int x3), (4, .int x4), (5, .int d7), (6, .int x6)] rfl 47 rfl ?_
        refine v_iinc h dX6_kindsThatFit_47 6 rfl (x6 + 1) rfl (Nat.le_of_ble_eq_true rfl) rfl rfl [(0, .ref (ad 0)), (1, .int x1), (2, .ref (ad 123)), (3, .int x3), (4, .int x4), (5, .int d7), (6, .int (x6 + 1))] rfl 50 rfl ?_
        refine v_goto h dX6_kindsThatFit_50 6 (by decide) ?_
        exact v_sub [0, 1, 2, 3, 4, 5, 6] rfl (ih v x1 x3 x4 d7 (x6 + 1) u4.2 _ hf kx)
set_option maxRecDepth 100000 in
set_option maxHeartbeats 4000000 in
theorem tX6_kindsThatFit_s3 (l : Launch) (G : va_G) (ca : Nat → ClassId) (ad : Nat → Nat) (v : XV) (x1 : Int32) (x3 : Int32) (x4 : Int32) {o : (Int32 × CV)} (hf : fX6_kindsThatFit v 3 x1 x3 x4 = some o) : zMi l yX6_kindsThatFit wsX6_kindsThatFit rX6_kindsThatFit_s3 G ca [.ref (ad 0), .int x1, .ref (ad 123), .int x3, .int x4] (wX ca ad v) o.1 (wX ca ad (v.1, v.2.1, o.2, v.2.2.2)) := by
  refine zMi.of (cc := cX6_kindsThatFit) (nL := 7) (own := RX6) (ty := .int) (by decide) rfl rfl (Nat.le_of_ble_eq_true rfl) (fun X h hE => ?_)
  show V X G 7 0 0 (wX ca ad v) 0 [(0, .ref (ad 0)), (1, .int x1), (2, .ref (ad 123)), (3, .int x3), (4, .int x4)] []
  unfold fX6_kindsThatFit at hf
  refine v_iconst h dX6_kindsThatFit_0 0 rfl 1 rfl ?_
  refine v_istore h dX6_kindsThatFit_1 (Nat.le_of_ble_eq_true rfl) rfl rfl [(0, .ref (ad 0)), (1, .int x1), (2, .ref (ad 123)), (3, .int x3), (4, .int x4), (5, .int 0)] rfl 3 rfl ?_
  refine v_iconst h dX6_kindsThatFit_3 0 rfl 4 rfl ?_
  refine v_istore h dX6_kindsThatFit_4 (Nat.le_of_ble_eq_true rfl) rfl rfl [(0, .ref (ad 0)), (1, .int x1), (2, .ref (ad 123)), (3, .int x3), (4, .int x4), (5, .int 0), (6, .int 0)] rfl 6 rfl ?_
  obtain ⟨u1, hu1, hf⟩ := zb hf
  refine v_sub [0, 1, 2, 3, 4, 5, 6] rfl ?_
  refine tX6_kindsThatFit_s3_l6 h zF v x1 x3 x4 0 0 v.2.2.1 _ hu1 ?_
  refine v_iload h dX6_kindsThatFit_53 0 rfl 55 rfl ?_
  cases (Option.some.inj hf)
  exact hE 55 _ rfl dX6_kindsThatFit_55
theorem nX6_thicksThatFit : zNoMH yX6_thicksThatFit 4 := ⟨by decide +kernel, by decide +kernel, by decide +kernel⟩
theorem iX6_thicksThatFit_X6 : ∀ w ∈ wsX60, w ∈ wsX6_thicksThatFit := fun _ h => (List.mem_cons_of_mem _ (List.mem_append_left _ (List.mem_append_left _ (List.mem_append_left _ (List.mem_append_left _ (List.mem_append_right _ h))))))
theorem iX6_thicksThatFit_X0 : ∀ w ∈ wsX00, w ∈ wsX6_thicksThatFit := fun _ h => (List.mem_cons_of_mem _ (List.mem_append_left _ (List.mem_append_left _ (List.mem_append_left _ (List.mem_append_right _ h)))))
theorem iX6_thicksThatFit_X1 : ∀ w ∈ wsX10, w ∈ wsX6_thicksThatFit := fun _ h => (List.mem_cons_of_mem _ (List.mem_append_left _ (List.mem_append_left _ (List.mem_append_right _ h))))
theorem iX6_thicksThatFit_X3 : ∀ w ∈ wsX30, w ∈ wsX6_thicksThatFit := fun _ h => (List.mem_cons_of_mem _ (List.mem_append_left _ (List.mem_append_right _ h)))
theorem iX6_thicksThatFit_X5 : ∀ w ∈ wsX50, w ∈ wsX6_thicksThatFit := fun _ h => (List.mem_cons_of_mem _ (List.mem_append_right _ h))
def fX6_thicksThatFit_L6 : Nat → XV → Nat → Int32 → Int32 → Int32 → Int32 → Int32 → CV → Option (Int32 × CV)
  | 0, _, _, _, _, _, _, _, _ => none
  | n + 1, v, j, x1, x3, x4, x5, x6, m2 => if 20 < x6 then (some (x5, m2)) else (((fX6_startTrial (v.1, v.2.1, m2, v.2.2.2)) : Option CV).bind (fun u2 => zgrd (zix x1 10) (((fX6_trialLeaksAs (v.1, v.2.1, (u2.1, (zpt u2.2.1 x1 x6), u2.2.2), v.2.2.2) j x3 x4) : Option (Int32 × CV)).bind (fun u4 => if u4.1 = 0 then (fX6_thicksThatFit_L6 n v j x1 x3 x4 x5 (x6 + 1) u4.2) else (zlet (1 <<< (x6 &&& 31) : Int32) (fun d6 => zlet (x5 ||| d6 : Int32) (fun d7 => fX6_thicksThatFit_L6 n v j x1 x3 x4 d7 (x6 + 1) u4.2)))))))
def fX6_thicksThatFit (v : XV) (j : Nat) (x1 : Int32) (x3 : Int32) (x4 : Int32) : Option (Int32 × CV) := ((fX6_thicksThatFit_L6 zF v j x1 x3 x4 0 1 v.2.2.1) : Option (Int32 × CV)).bind (fun u1 => some (u1.1, u1.2))
abbrev rX6_thicksThatFit_s0 : Room := { frames := 5, cells := 0, slots := 0, locals := 110 }
set_option maxRecDepth 100000 in
set_option maxHeartbeats 4000000 in
theorem tX6_thicksThatFit_s0_l6 {X : zX} {l : Launch} {G : va_G} {ca : Nat → ClassId} {ad : Nat → Nat} (h : zOk X l G ca cX6_thicksThatFit RX6 wsX6_thicksThatFit 7 rX6_thicksThatFit_s0) : ∀ (n : Nat) (v : XV) (x1 : Int32) (x3 : Int32) (x4 : Int32) (x5 : Int32) (x6 : Int32) (m2 : CV) (out : (Int32 × CV)), fX6_thicksThatFit_L6 n v 0 x1 x3 x4 x5 x6 m2 = some out → (V X G 7 0 0 (wX ca ad (v.1, v.2.1, out.2, v.2.2.2)) 54 [(5, .int out.1)] []) → V X G 7 0 0 (wX ca ad (v.1, v.2.1, m2, v.2.2.2)) 6 [(0, .ref (ad 0)), (1, .int x1), (2, .ref (ad 117)), (3, .int x3), (4, .int x4), (5, .int x5), (6, .int x6)] [] := by
  intro n
  induction n with
  | zero => intro v x1 x3 x4 x5 x6 m2 out hf; rw [fX6_thicksThatFit_L6] at hf; cases hf
  | succ n ih =>
    intro v x1 x3 x4 x5 x6 m2 out hf kx
    rw [fX6_thicksThatFit_L6] at hf
    refine v_iload h dX6_thicksThatFit_6 6 rfl 8 rfl ?_
    refine v_bipush h dX6_thicksThatFit_8 20 rfl 10 rfl ?_
    refine v_icmp_gt h dX6_thicksThatFit_10 54 (by decide) 13 rfl (fun c1 => ?_) (fun c1 => ?_)
    · replace hf := zt c1 hf
      cases (Option.some.inj hf)
      exact v_sub [5] rfl (kx)
    · replace hf := zf c1 hf
      refine v_aload_n h dX6_thicksThatFit_13 0 rfl 14 rfl ?_
      obtain ⟨u2, hu2, hf⟩ := zb hf
      refine v_wcallVv h (rest := []) dX6_thicksThatFit_14 (tX6_startTrial l G ca ad (v.1, v.2.1, m2, v.2.2.2)  hu2) gX6_thicksThatFit_X6_startTrial rfl rfl ⟨rfl, rfl⟩ nX6_startTrial ⟨Nat.le_of_ble_eq_true rfl, Nat.le_of_ble_eq_true rfl⟩ 0 rfl rfl rfl rfl (Nat.le_of_ble_eq_true rfl) ⟨Nat.zero_le _, Nat.zero_le _⟩ (wX_adr _ _ _ _) 17 rfl ?_
      refine v_aload_n h dX6_thicksThatFit_17 0 rfl 18 rfl ?_
      refine v_get h (v := .ref (ad 99)) dX6_thicksThatFit_18 iX6_thicksThatFit_X6 0 rfl rfl 2 (by decide) (zwi 1 rfl) rfl 21 rfl ?_
      refine v_get h (v := .ref (ad 101)) dX6_thicksThatFit_21 iX6_thicksThatFit_X0 99 rfl rfl 1 (by decide) (zwi 2 rfl) rfl 24 rfl ?_
      refine v_iload_n h dX6_thicksThatFit_24 1 rfl 25 rfl ?_
      refine v_iload h dX6_thicksThatFit_25 6 rfl 27 rfl ?_
      obtain ⟨g3, hf⟩ := zg hf
      refine v_iast h (f := u2.2.1) dX6_thicksThatFit_27 101 0 rfl rfl (zix_in g3) (wX ca ad (v.1, v.2.1, (u2.1, (zpt u2.2.1 x1 x6), u2.2.2), v.2.2.2)) rfl 28 rfl ?_
      refine v_aload_n h dX6_thicksThatFit_28 0 rfl 29 rfl ?_
      refine v_aload_n h dX6_thicksThatFit_29 2 rfl 30 rfl ?_
      refine v_iload_n h dX6_thicksThatFit_30 3 rfl 31 rfl ?_
      refine v_iload h dX6_thicksThatFit_31 4 rfl 33 rfl ?_
      obtain ⟨u4, hu4, hf⟩ := zb hf
      refine v_wcallVi h (rest := []) dX6_thicksThatFit_33 (tX6_trialLeaksAs_s0 l G ca ad (v.1, v.2.1, (u2.1, (zpt u2.2.1 x1 x6), u2.2.2), v.2.2.2) x3 x4 hu4) gX6_thicksThatFit_X6_trialLeaksAs rfl rfl ⟨rfl, rfl⟩ nX6_trialLeaksAs ⟨Nat.le_of_ble_eq_true rfl, Nat.le_of_ble_eq_true rfl⟩ 0 rfl rfl rfl rfl (Nat.le_of_ble_eq_true rfl) ⟨Nat.zero_le _, Nat.zero_le _⟩ (wX_adr _ _ _ _) 36 rfl ?_
      refine v_if_eq h dX6_thicksThatFit_36 48 (by decide) 39 rfl (fun c5 => ?_) (fun c5 => ?_)
      · replace hf := zt c5 hf
        refine v_iinc h dX6_thicksThatFit_48 6 rfl (x6 + 1) rfl (Nat.le_of_ble_eq_true rfl) rfl rfl [(0, .ref (ad 0)), (1, .int x1), (2, .ref (ad 117)), (3, .int x3), (4, .int x4), (5, .int x5), (6, .int (x6 + 1))] rfl 51 rfl ?_
        refine v_goto h dX6_thicksThatFit_51 6 (by decide) ?_
        exact v_sub [0, 1, 2, 3, 4, 5, 6] rfl (ih v x1 x3 x4 x5 (x6 + 1) u4.2 _ hf kx)
      · replace hf := zf c5 hf
        refine v_iload h dX6_thicksThatFit_39 5 rfl 41 rfl ?_
        refine v_iconst h dX6_thicksThatFit_41 1 rfl 42 rfl ?_
        refine v_iload h dX6_thicksThatFit_42 6 rfl 44 rfl ?_
        refine v_ishl h dX6_thicksThatFit_44 45 rfl ?_
        obtain ⟨d6, ed6, hf⟩ := zl hf
        refine v_topi ed6 ?_
        refine v_ior h dX6_thicksThatFit_45 46 rfl ?_
        obtain ⟨d7, ed7, hf⟩ := zl hf
        refine v_topi ed7 ?_
        refine v_istore h dX6_thicksThatFit_46 (Nat.le_of_ble_eq_true rfl) rfl rfl [(0, .ref (ad 0)), (1, .int x1), (2, .ref (ad 117)), (3, .int x3), (4, .int x4), (5, .int d7), (6, .int x6)] rfl 48 rfl ?_
        refine v_iinc h dX6_thicksThatFit_48 6 rfl (x6 + 1) rfl (Nat.le_of_ble_eq_true rfl) rfl rfl [(0, .ref (ad 0)), (1, .int x1), (2, .ref (ad 117)), (3, .int x3), (4, .int x4), (5, .int d7), (6, .int (x6 + 1))] rfl 51 rfl ?_
        refine v_goto h dX6_thicksThatFit_51 6 (by decide) ?_
        exact v_sub [0, 1, 2, 3, 4, 5, 6] rfl (ih v x1 x3 x4 d7 (x6 + 1) u4.2 _ hf kx)
set_option maxRecDepth 100000 in
set_option maxHeartbeats 4000000 in
theorem tX6_thicksThatFit_s0 (l : Launch) (G : va_G) (ca : Nat → ClassId) (ad : Nat → Nat) (v : XV) (x1 : Int32) (x3 : Int32) (x4 : Int32) {o : (Int32 × CV)} (hf : fX6_thicksThatFit v 0 x1 x3 x4 = some o) : zMi l yX6_thicksThatFit wsX6_thicksThatFit rX6_thicksThatFit_s0 G ca [.ref (ad 0), .int x1, .ref (ad 117), .int x3, .int x4] (wX ca ad v) o.1 (wX ca ad (v.1, v.2.1, o.2, v.2.2.2)) := by
  refine zMi.of (cc := cX6_thicksThatFit) (nL := 7) (own := RX6) (ty := .int) (by decide) rfl rfl (Nat.le_of_ble_eq_true rfl) (fun X h hE => ?_)
  show V X G 7 0 0 (wX ca ad v) 0 [(0, .ref (ad 0)), (1, .int x1), (2, .ref (ad 117)), (3, .int x3), (4, .int x4)] []
  unfold fX6_thicksThatFit at hf
  refine v_iconst h dX6_thicksThatFit_0 0 rfl 1 rfl ?_
  refine v_istore h dX6_thicksThatFit_1 (Nat.le_of_ble_eq_true rfl) rfl rfl [(0, .ref (ad 0)), (1, .int x1), (2, .ref (ad 117)), (3, .int x3), (4, .int x4), (5, .int 0)] rfl 3 rfl ?_
  refine v_iconst h dX6_thicksThatFit_3 1 rfl 4 rfl ?_
  refine v_istore h dX6_thicksThatFit_4 (Nat.le_of_ble_eq_true rfl) rfl rfl [(0, .ref (ad 0)), (1, .int x1), (2, .ref (ad 117)), (3, .int x3), (4, .int x4), (5, .int 0), (6, .int 1)] rfl 6 rfl ?_
  obtain ⟨u1, hu1, hf⟩ := zb hf
  refine v_sub [0, 1, 2, 3, 4, 5, 6] rfl ?_
  refine tX6_thicksThatFit_s0_l6 h zF v x1 x3 x4 0 1 v.2.2.1 _ hu1 ?_
  refine v_iload h dX6_thicksThatFit_54 0 rfl 56 rfl ?_
  cases (Option.some.inj hf)
  exact hE 56 _ rfl dX6_thicksThatFit_56
abbrev rX6_thicksThatFit_s1 : Room := { frames := 5, cells := 0, slots := 0, locals := 110 }
set_option maxRecDepth 100000 in
set_option maxHeartbeats 4000000 in
theorem tX6_thicksThatFit_s1_l6 {X : zX} {l : Launch} {G : va_G} {ca : Nat → ClassId} {ad : Nat → Nat} (h : zOk X l G ca cX6_thicksThatFit RX6 wsX6_thicksThatFit 7 rX6_thicksThatFit_s1) : ∀ (n : Nat) (v : XV) (x1 : Int32) (x3 : Int32) (x4 : Int32) (x5 : Int32) (x6 : Int32) (m2 : CV) (out : (Int32 × CV)), fX6_thicksThatFit_L6 n v 1 x1 x3 x4 x5 x6 m2 = some out → (V X G 7 0 0 (wX ca ad (v.1, v.2.1, out.2, v.2.2.2)) 54 [(5, .int out.1)] []) → V X G 7 0 0 (wX ca ad (v.1, v.2.1, m2, v.2.2.2)) 6 [(0, .ref (ad 0)), (1, .int x1), (2, .ref (ad 119)), (3, .int x3), (4, .int x4), (5, .int x5), (6, .int x6)] [] := by
  intro n
  induction n with
  | zero => intro v x1 x3 x4 x5 x6 m2 out hf; rw [fX6_thicksThatFit_L6] at hf; cases hf
  | succ n ih =>
    intro v x1 x3 x4 x5 x6 m2 out hf kx
    rw [fX6_thicksThatFit_L6] at hf
    refine v_iload h dX6_thicksThatFit_6 6 rfl 8 rfl ?_
    refine v_bipush h dX6_thicksThatFit_8 20 rfl 10 rfl ?_
    refine v_icmp_gt h dX6_thicksThatFit_10 54 (by decide) 13 rfl (fun c1 => ?_) (fun c1 => ?_)
    · replace hf := zt c1 hf
      cases (Option.some.inj hf)
      exact v_sub [5] rfl (kx)
    · replace hf := zf c1 hf
      refine v_aload_n h dX6_thicksThatFit_13 0 rfl 14 rfl ?_
      obtain ⟨u2, hu2, hf⟩ := zb hf
      refine v_wcallVv h (rest := []) dX6_thicksThatFit_14 (tX6_startTrial l G ca ad (v.1, v.2.1, m2, v.2.2.2)  hu2) gX6_thicksThatFit_X6_startTrial rfl rfl ⟨rfl, rfl⟩ nX6_startTrial ⟨Nat.le_of_ble_eq_true rfl, Nat.le_of_ble_eq_true rfl⟩ 0 rfl rfl rfl rfl (Nat.le_of_ble_eq_true rfl) ⟨Nat.zero_le _, Nat.zero_le _⟩ (wX_adr _ _ _ _) 17 rfl ?_
      refine v_aload_n h dX6_thicksThatFit_17 0 rfl 18 rfl ?_
      refine v_get h (v := .ref (ad 99)) dX6_thicksThatFit_18 iX6_thicksThatFit_X6 0 rfl rfl 2 (by decide) (zwi 1 rfl) rfl 21 rfl ?_
      refine v_get h (v := .ref (ad 101)) dX6_thicksThatFit_21 iX6_thicksThatFit_X0 99 rfl rfl 1 (by decide) (zwi 2 rfl) rfl 24 rfl ?_
      refine v_iload_n h dX6_thicksThatFit_24 1 rfl 25 rfl ?_
      refine v_iload h dX6_thicksThatFit_25 6 rfl 27 rfl ?_
      obtain ⟨g3, hf⟩ := zg hf
      refine v_iast h (f := u2.2.1) dX6_thicksThatFit_27 101 0 rfl rfl (zix_in g3) (wX ca ad (v.1, v.2.1, (u2.1, (zpt u2.2.1 x1 x6), u2.2.2), v.2.2.2)) rfl 28 rfl ?_
      refine v_aload_n h dX6_thicksThatFit_28 0 rfl 29 rfl ?_
      refine v_aload_n h dX6_thicksThatFit_29 2 rfl 30 rfl ?_
      refine v_iload_n h dX6_thicksThatFit_30 3 rfl 31 rfl ?_
      refine v_iload h dX6_thicksThatFit_31 4 rfl 33 rfl ?_
      obtain ⟨u4, hu4, hf⟩ := zb hf
      refine v_wcallVi h (rest := []) dX6_thicksThatFit_33 (tX6_trialLeaksAs_s1 l G ca ad (v.1, v.2.1, (u2.1, (zpt u2.2.1 x1 x6), u2.2.2), v.2.2.2) x3 x4 hu4) gX6_thicksThatFit_X6_trialLeaksAs rfl rfl ⟨rfl, rfl⟩ nX6_trialLeaksAs ⟨Nat.le_of_ble_eq_true rfl, Nat.le_of_ble_eq_true rfl⟩ 0 rfl rfl rfl rfl (Nat.le_of_ble_eq_true rfl) ⟨Nat.zero_le _, Nat.zero_le _⟩ (wX_adr _ _ _ _) 36 rfl ?_
      refine v_if_eq h dX6_thicksThatFit_36 48 (by decide) 39 rfl (fun c5 => ?_) (fun c5 => ?_)
      · replace hf := zt c5 hf
        refine v_iinc h dX6_thicksThatFit_48 6 rfl (x6 + 1) rfl (Nat.le_of_ble_eq_true rfl) rfl rfl [(0, .ref (ad 0)), (1, .int x1), (2, .ref (ad 119)), (3, .int x3), (4, .int x4), (5, .int x5), (6, .int (x6 + 1))] rfl 51 rfl ?_
        refine v_goto h dX6_thicksThatFit_51 6 (by decide) ?_
        exact v_sub [0, 1, 2, 3, 4, 5, 6] rfl (ih v x1 x3 x4 x5 (x6 + 1) u4.2 _ hf kx)
      · replace hf := zf c5 hf
        refine v_iload h dX6_thicksThatFit_39 5 rfl 41 rfl ?_
        refine v_iconst h dX6_thicksThatFit_41 1 rfl 42 rfl ?_
        refine v_iload h dX6_thicksThatFit_42 6 rfl 44 rfl ?_
        refine v_ishl h dX6_thicksThatFit_44 45 rfl ?_
        obtain ⟨d6, ed6, hf⟩ := zl hf
        refine v_topi ed6 ?_
        refine v_ior h dX6_thicksThatFit_45 46 rfl ?_
        obtain ⟨d7, ed7, hf⟩ := zl hf
        refine v_topi ed7 ?_
        refine v_istore h dX6_thicksThatFit_46 (Nat.le_of_ble_eq_true rfl) rfl rfl [(0, .ref (ad 0)), (1, .int x1), (2, .ref (ad 119)), (3, .int x3), (4, .int x4), (5, .int d7), (6, .int x6)] rfl 48 rfl ?_
        refine v_iinc h dX6_thicksThatFit_48 6 rfl (x6 + 1) rfl (Nat.le_of_ble_eq_true rfl) rfl rfl [(0, .ref (ad 0)), (1, .int x1), (2, .ref (ad 119)), (3, .int x3), (4, .int x4), (5, .int d7), (6, .int (x6 + 1))] rfl 51 rfl ?_
        refine v_goto h dX6_thicksThatFit_51 6 (by decide) ?_
        exact v_sub [0, 1, 2, 3, 4, 5, 6] rfl (ih v x1 x3 x4 d7 (x6 + 1) u4.2 _ hf kx)
set_option maxRecDepth 100000 in
set_option maxHeartbeats 4000000 in
theorem tX6_thicksThatFit_s1 (l : Launch) (G : va_G) (ca : Nat → ClassId) (ad : Nat → Nat) (v : XV) (x1 : Int32) (x3 : Int32) (x4 : Int32) {o : (Int32 × CV)} (hf : fX6_thicksThatFit v 1 x1 x3 x4 = some o) : zMi l yX6_thicksThatFit wsX6_thicksThatFit rX6_thicksThatFit_s1 G ca [.ref (ad 0), .int x1, .ref (ad 119), .int x3, .int x4] (wX ca ad v) o.1 (wX ca ad (v.1, v.2.1, o.2, v.2.2.2)) := by
  refine zMi.of (cc := cX6_thicksThatFit) (nL := 7) (own := RX6) (ty := .int) (by decide) rfl rfl (Nat.le_of_ble_eq_true rfl) (fun X h hE => ?_)
  show V X G 7 0 0 (wX ca ad v) 0 [(0, .ref (ad 0)), (1, .int x1), (2, .ref (ad 119)), (3, .int x3), (4, .int x4)] []
  unfold fX6_thicksThatFit at hf
  refine v_iconst h dX6_thicksThatFit_0 0 rfl 1 rfl ?_
  refine v_istore h dX6_thicksThatFit_1 (Nat.le_of_ble_eq_true rfl) rfl rfl [(0, .ref (ad 0)), (1, .int x1), (2, .ref (ad 119)), (3, .int x3), (4, .int x4), (5, .int 0)] rfl 3 rfl ?_
  refine v_iconst h dX6_thicksThatFit_3 1 rfl 4 rfl ?_
  refine v_istore h dX6_thicksThatFit_4 (Nat.le_of_ble_eq_true rfl) rfl rfl [(0, .ref (ad 0)), (1, .int x1), (2, .ref (ad 119)), (3, .int x3), (4, .int x4), (5, .int 0), (6, .int 1)] rfl 6 rfl ?_
  obtain ⟨u1, hu1, hf⟩ := zb hf
  refine v_sub [0, 1, 2, 3, 4, 5, 6] rfl ?_
  refine tX6_thicksThatFit_s1_l6 h zF v x1 x3 x4 0 1 v.2.2.1 _ hu1 ?_
  refine v_iload h dX6_thicksThatFit_54 0 rfl 56 rfl ?_
  cases (Option.some.inj hf)
  exact hE 56 _ rfl dX6_thicksThatFit_56
abbrev rX6_thicksThatFit_s2 : Room := { frames := 5, cells := 0, slots := 0, locals := 110 }
set_option maxRecDepth 100000 in
set_option maxHeartbeats 4000000 in
theorem tX6_thicksThatFit_s2_l6 {X : zX} {l : Launch} {G : va_G} {ca : Nat → ClassId} {ad : Nat → Nat} (h : zOk X l G ca cX6_thicksThatFit RX6 wsX6_thicksThatFit 7 rX6_thicksThatFit_s2) : ∀ (n : Nat) (v : XV) (x1 : Int32) (x3 : Int32) (x4 : Int32) (x5 : Int32) (x6 : Int32) (m2 : CV) (out : (Int32 × CV)), fX6_thicksThatFit_L6 n v 2 x1 x3 x4 x5 x6 m2 = some out → (V X G 7 0 0 (wX ca ad (v.1, v.2.1, out.2, v.2.2.2)) 54 [(5, .int out.1)] []) → V X G 7 0 0 (wX ca ad (v.1, v.2.1, m2, v.2.2.2)) 6 [(0, .ref (ad 0)), (1, .int x1), (2, .ref (ad 121)), (3, .int x3), (4, .int x4), (5, .int x5), (6, .int x6)] [] := by
  intro n
  induction n with
  | zero => intro v x1 x3 x4 x5 x6 m2 out hf; rw [fX6_thicksThatFit_L6] at hf; cases hf
  | succ n ih =>
    intro v x1 x3 x4 x5 x6 m2 out hf kx
    rw [fX6_thicksThatFit_L6] at hf
    refine v_iload h dX6_thicksThatFit_6 6 rfl 8 rfl ?_
    refine v_bipush h dX6_thicksThatFit_8 20 rfl 10 rfl ?_
    refine v_icmp_gt h dX6_thicksThatFit_10 54 (by decide) 13 rfl (fun c1 => ?_) (fun c1 => ?_)
    · replace hf := zt c1 hf
      cases (Option.some.inj hf)
      exact v_sub [5] rfl (kx)
    · replace hf := zf c1 hf
      refine v_aload_n h dX6_thicksThatFit_13 0 rfl 14 rfl ?_
      obtain ⟨u2, hu2, hf⟩ := zb hf
      refine v_wcallVv h (rest := []) dX6_thicksThatFit_14 (tX6_startTrial l G ca ad (v.1, v.2.1, m2, v.2.2.2)  hu2) gX6_thicksThatFit_X6_startTrial rfl rfl ⟨rfl, rfl⟩ nX6_startTrial ⟨Nat.le_of_ble_eq_true rfl, Nat.le_of_ble_eq_true rfl⟩ 0 rfl rfl rfl rfl (Nat.le_of_ble_eq_true rfl) ⟨Nat.zero_le _, Nat.zero_le _⟩ (wX_adr _ _ _ _) 17 rfl ?_
      refine v_aload_n h dX6_thicksThatFit_17 0 rfl 18 rfl ?_
      refine v_get h (v := .ref (ad 99)) dX6_thicksThatFit_18 iX6_thicksThatFit_X6 0 rfl rfl 2 (by decide) (zwi 1 rfl) rfl 21 rfl ?_
      refine v_get h (v := .ref (ad 101)) dX6_thicksThatFit_21 iX6_thicksThatFit_X0 99 rfl rfl 1 (by decide) (zwi 2 rfl) rfl 24 rfl ?_
      refine v_iload_n h dX6_thicksThatFit_24 1 rfl 25 rfl ?_
      refine v_iload h dX6_thicksThatFit_25 6 rfl 27 rfl ?_
      obtain ⟨g3, hf⟩ := zg hf
      refine v_iast h (f := u2.2.1) dX6_thicksThatFit_27 101 0 rfl rfl (zix_in g3) (wX ca ad (v.1, v.2.1, (u2.1, (zpt u2.2.1 x1 x6), u2.2.2), v.2.2.2)) rfl 28 rfl ?_
      refine v_aload_n h dX6_thicksThatFit_28 0 rfl 29 rfl ?_
      refine v_aload_n h dX6_thicksThatFit_29 2 rfl 30 rfl ?_
      refine v_iload_n h dX6_thicksThatFit_30 3 rfl 31 rfl ?_
      refine v_iload h dX6_thicksThatFit_31 4 rfl 33 rfl ?_
      obtain ⟨u4, hu4, hf⟩ := zb hf
      refine v_wcallVi h (rest := []) dX6_thicksThatFit_33 (tX6_trialLeaksAs_s2 l G ca ad (v.1, v.2.1, (u2.1, (zpt u2.2.1 x1 x6), u2.2.2), v.2.2.2) x3 x4 hu4) gX6_thicksThatFit_X6_trialLeaksAs rfl rfl ⟨rfl, rfl⟩ nX6_trialLeaksAs ⟨Nat.le_of_ble_eq_true rfl, Nat.le_of_ble_eq_true rfl⟩ 0 rfl rfl rfl rfl (Nat.le_of_ble_eq_true rfl) ⟨Nat.zero_le _, Nat.zero_le _⟩ (wX_adr _ _ _ _) 36 rfl ?_
      refine v_if_eq h dX6_thicksThatFit_36 48 (by decide) 39 rfl (fun c5 => ?_) (fun c5 => ?_)
      · replace hf := zt c5 hf
        refine v_iinc h dX6_thicksThatFit_48 6 rfl (x6 + 1) rfl (Nat.le_of_ble_eq_true rfl) rfl rfl [(0, .ref (ad 0)), (1, .int x1), (2, .ref (ad 121)), (3, .int x3), (4, .int x4), (5, .int x5), (6, .int (x6 + 1))] rfl 51 rfl ?_
        refine v_goto h dX6_thicksThatFit_51 6 (by decide) ?_
        exact v_sub [0, 1, 2, 3, 4, 5, 6] rfl (ih v x1 x3 x4 x5 (x6 + 1) u4.2 _ hf kx)
      · replace hf := zf c5 hf
        refine v_iload h dX6_thicksThatFit_39 5 rfl 41 rfl ?_
        refine v_iconst h dX6_thicksThatFit_41 1 rfl 42 rfl ?_
        refine v_iload h dX6_thicksThatFit_42 6 rfl 44 rfl ?_
        refine v_ishl h dX6_thicksThatFit_44 45 rfl ?_
        obtain ⟨d6, ed6, hf⟩ := zl hf
        refine v_topi ed6 ?_
        refine v_ior h dX6_thicksThatFit_45 46 rfl ?_
        obtain ⟨d7, ed7, hf⟩ := zl hf
        refine v_topi ed7 ?_
        refine v_istore h dX6_thicksThatFit_46 (Nat.le_of_ble_eq_true rfl) rfl rfl [(0, .ref (ad 0)), (1, .int x1), (2, .ref (ad 121)), (3, .int x3), (4, .int x4), (5, .int d7), (6, .int x6)] rfl 48 rfl ?_
        refine v_iinc h dX6_thicksThatFit_48 6 rfl (x6 + 1) rfl (Nat.le_of_ble_eq_true rfl) rfl rfl [(0, .ref (ad 0)), (1, .int x1), (2, .ref (ad 121)), (3, .int x3), (4, .int x4), (5, .int d7), (6, .int (x6 + 1))] rfl 51 rfl ?_
        refine v_goto h dX6_thicksThatFit_51 6 (by decide) ?_
        exact v_sub [0, 1, 2, 3, 4, 5, 6] rfl (ih v x1 x3 x4 d7 (x6 + 1) u4.2 _ hf kx)
set_option maxRecDepth 100000 in
set_option maxHeartbeats 4000000 in
theorem tX6_thicksThatFit_s2 (l : Launch) (G : va_G) (ca : Nat → ClassId) (ad : Nat → Nat) (v : XV) (x1 : Int32) (x3 : Int32) (x4 : Int32) {o : (Int32 × CV)} (hf : fX6_thicksThatFit v 2 x1 x3 x4 = some o) : zMi l yX6_thicksThatFit wsX6_thicksThatFit rX6_thicksThatFit_s2 G ca [.ref (ad 0), .int x1, .ref (ad 121), .int x3, .int x4] (wX ca ad v) o.1 (wX ca ad (v.1, v.2.1, o.2, v.2.2.2)) := by
  refine zMi.of (cc := cX6_thicksThatFit) (nL := 7) (own := RX6) (ty := .int) (by decide) rfl rfl (Nat.le_of_ble_eq_true rfl) (fun X h hE => ?_)
  show V X G 7 0 0 (wX ca ad v) 0 [(0, .ref (ad 0)), (1, .int x1), (2, .ref (ad 121)), (3, .int x3), (4, .int x4)] []
  unfold fX6_thicksThatFit at hf
  refine v_iconst h dX6_thicksThatFit_0 0 rfl 1 rfl ?_
  refine v_istore h dX6_thicksThatFit_1 (Nat.le_of_ble_eq_true rfl) rfl rfl [(0, .ref (ad 0)), (1, .int x1), (2, .ref (ad 121)), (3, .int x3), (4, .int x4), (5, .int 0)] rfl 3 rfl ?_
  refine v_iconst h dX6_thicksThatFit_3 1 rfl 4 rfl ?_
  refine v_istore h dX6_thicksThatFit_4 (Nat.le_of_ble_eq_true rfl) rfl rfl [(0, .ref (ad 0)), (1, .int x1), (2, .ref (ad 121)), (3, .int x3), (4, .int x4), (5, .int 0), (6, .int 1)] rfl 6 rfl ?_
  obtain ⟨u1, hu1, hf⟩ := zb hf
  refine v_sub [0, 1, 2, 3, 4, 5, 6] rfl ?_
  refine tX6_thicksThatFit_s2_l6 h zF v x1 x3 x4 0 1 v.2.2.1 _ hu1 ?_
  refine v_iload h dX6_thicksThatFit_54 0 rfl 56 rfl ?_
  cases (Option.some.inj hf)
  exact hE 56 _ rfl dX6_thicksThatFit_56
abbrev rX6_thicksThatFit_s3 : Room := { frames := 5, cells := 0, slots := 0, locals := 110 }
set_option maxRecDepth 100000 in
set_option maxHeartbeats 4000000 in
theorem tX6_thicksThatFit_s3_l6 {X : zX} {l : Launch} {G : va_G} {ca : Nat → ClassId} {ad : Nat → Nat} (h : zOk X l G ca cX6_thicksThatFit RX6 wsX6_thicksThatFit 7 rX6_thicksThatFit_s3) : ∀ (n : Nat) (v : XV) (x1 : Int32) (x3 : Int32) (x4 : Int32) (x5 : Int32) (x6 : Int32) (m2 : CV) (out : (Int32 × CV)), fX6_thicksThatFit_L6 n v 3 x1 x3 x4 x5 x6 m2 = some out → (V X G 7 0 0 (wX ca ad (v.1, v.2.1, out.2, v.2.2.2)) 54 [(5, .int out.1)] []) → V X G 7 0 0 (wX ca ad (v.1, v.2.1, m2, v.2.2.2)) 6 [(0, .ref (ad 0)), (1, .int x1), (2, .ref (ad 123)), (3, .int x3), (4, .int x4), (5, .int x5), (6, .int x6)] [] := by
  intro n
  induction n with
  | zero => intro v x1 x3 x4 x5 x6 m2 out hf; rw [fX6_thicksThatFit_L6] at hf; cases hf
  | succ n ih =>
    intro v x1 x3 x4 x5 x6 m2 out hf kx
    rw [fX6_thicksThatFit_L6] at hf
    refine v_iload h dX6_thicksThatFit_6 6 rfl 8 rfl ?_
    refine v_bipush h dX6_thicksThatFit_8 20 rfl 10 rfl ?_
    refine v_icmp_gt h dX6_thicksThatFit_10 54 (by decide) 13 rfl (fun c1 => ?_) (fun c1 => ?_)
    · replace hf := zt c1 hf
      cases (Option.some.inj hf)
      exact v_sub [5] rfl (kx)
    · replace hf := zf c1 hf
      refine v_aload_n h dX6_thicksThatFit_13 0 rfl 14 rfl ?_
      obtain ⟨u2, hu2, hf⟩ := zb hf
      refine v_wcallVv h (rest := []) dX6_thicksThatFit_14 (tX6_startTrial l G ca ad (v.1, v.2.1, m2, v.2.2.2)  hu2) gX6_thicksThatFit_X6_startTrial rfl rfl ⟨rfl, rfl⟩ nX6_startTrial ⟨Nat.le_of_ble_eq_true rfl, Nat.le_of_ble_eq_true rfl⟩ 0 rfl rfl rfl rfl (Nat.le_of_ble_eq_true rfl) ⟨Nat.zero_le _, Nat.zero_le _⟩ (wX_adr _ _ _ _) 17 rfl ?_
      refine v_aload_n h dX6_thicksThatFit_17 0 rfl 18 rfl ?_
      refine v_get h (v := .ref (ad 99)) dX6_thicksThatFit_18 iX6_thicksThatFit_X6 0 rfl rfl 2 (by decide) (zwi 1 rfl) rfl 21 rfl ?_
      refine v_get h (v := .ref (ad 101)) dX6_thicksThatFit_21 iX6_thicksThatFit_X0 99 rfl rfl 1 (by decide) (zwi 2 rfl) rfl 24 rfl ?_
      refine v_iload_n h dX6_thicksThatFit_24 1 rfl 25 rfl ?_
      refine v_iload h dX6_thicksThatFit_25 6 rfl 27 rfl ?_
      obtain ⟨g3, hf⟩ := zg hf
      refine v_iast h (f := u2.2.1) dX6_thicksThatFit_27 101 0 rfl rfl (zix_in g3) (wX ca ad (v.1, v.2.1, (u2.1, (zpt u2.2.1 x1 x6), u2.2.2), v.2.2.2)) rfl 28 rfl ?_
      refine v_aload_n h dX6_thicksThatFit_28 0 rfl 29 rfl ?_
      refine v_aload_n h dX6_thicksThatFit_29 2 rfl 30 rfl ?_
      refine v_iload_n h dX6_thicksThatFit_30 3 rfl 31 rfl ?_
      refine v_iload h dX6_thicksThatFit_31 4 rfl 33 rfl ?_
      obtain ⟨u4, hu4, hf⟩ := zb hf
      refine v_wcallVi h (rest := []) dX6_thicksThatFit_33 (tX6_trialLeaksAs_s3 l G ca ad (v.1, v.2.1, (u2.1, (zpt u2.2.1 x1 x6), u2.2.2), v.2.2.2) x3 x4 hu4) gX6_thicksThatFit_X6_trialLeaksAs rfl rfl ⟨rfl, rfl⟩ nX6_trialLeaksAs ⟨Nat.le_of_ble_eq_true rfl, Nat.le_of_ble_eq_true rfl⟩ 0 rfl rfl rfl rfl (Nat.le_of_ble_eq_true rfl) ⟨Nat.zero_le _, Nat.zero_le _⟩ (wX_adr _ _ _ _) 36 rfl ?_
      refine v_if_eq h dX6_thicksThatFit_36 48 (by decide) 39 rfl (fun c5 => ?_) (fun c5 => ?_)
      · replace hf := zt c5 hf
        refine v_iinc h dX6_thicksThatFit_48 6 rfl (x6 + 1) rfl (Nat.le_of_ble_eq_true rfl) rfl rfl [(0, .ref (ad 0)), (1, .int x1), (2, .ref (ad 123)), (3, .int x3), (4, .int x4), (5, .int x5), (6, .int (x6 + 1))] rfl 51 rfl ?_
        refine v_goto h dX6_thicksThatFit_51 6 (by decide) ?_
        exact v_sub [0, 1, 2, 3, 4, 5, 6] rfl (ih v x1 x3 x4 x5 (x6 + 1) u4.2 _ hf kx)
      · replace hf := zf c5 hf
        refine v_iload h dX6_thicksThatFit_39 5 rfl 41 rfl ?_
        refine v_iconst h dX6_thicksThatFit_41 1 rfl 42 rfl ?_
        refine v_iload h dX6_thicksThatFit_42 6 rfl 44 rfl ?_
        refine v_ishl h dX6_thicksThatFit_44 45 rfl ?_
        obtain ⟨d6, ed6, hf⟩ := zl hf
        refine v_topi ed6 ?_
        refine v_ior h dX6_thicksThatFit_45 46 rfl ?_
        obtain ⟨d7, ed7, hf⟩ := zl hf
        refine v_topi ed7 ?_
        refine v_istore h dX6_thicksThatFit_46 (Nat.le_of_ble_eq_true rfl) rfl rfl [(0, .ref (ad 0)), (1, .int x1), (2, .ref (ad 123)), (3, .int x3), (4, .int x4), (5, .int d7), (6, .int x6)] rfl 48 rfl ?_
        refine v_iinc h dX6_thicksThatFit_48 6 rfl (x6 + 1) rfl (Nat.le_of_ble_eq_true rfl) rfl rfl [(0, .ref (ad 0)), (1, .int x1), (2, .ref (ad 123)), (3, .int x3), (4, .int x4), (5, .int d7), (6, .int (x6 + 1))] rfl 51 rfl ?_
        refine v_goto h dX6_thicksThatFit_51 6 (by decide) ?_
        exact v_sub [0, 1, 2, 3, 4, 5, 6] rfl (ih v x1 x3 x4 d7 (x6 + 1) u4.2 _ hf kx)
set_option maxRecDepth 100000 in
set_option maxHeartbeats 4000000 in
theorem tX6_thicksThatFit_s3 (l : Launch) (G : va_G) (ca : Nat → ClassId) (ad : Nat → Nat) (v : XV) (x1 : Int32) (x3 : Int32) (x4 : Int32) {o : (Int32 × CV)} (hf : fX6_thicksThatFit v 3 x1 x3 x4 = some o) : zMi l yX6_thicksThatFit wsX6_thicksThatFit rX6_thicksThatFit_s3 G ca [.ref (ad 0), .int x1, .ref (ad 123), .int x3, .int x4] (wX ca ad v) o.1 (wX ca ad (v.1, v.2.1, o.2, v.2.2.2)) := by
  refine zMi.of (cc := cX6_thicksThatFit) (nL := 7) (own := RX6) (ty := .int) (by decide) rfl rfl (Nat.le_of_ble_eq_true rfl) (fun X h hE => ?_)
  show V X G 7 0 0 (wX ca ad v) 0 [(0, .ref (ad 0)), (1, .int x1), (2, .ref (ad 123)), (3, .int x3), (4, .int x4)] []
  unfold fX6_thicksThatFit at hf
  refine v_iconst h dX6_thicksThatFit_0 0 rfl 1 rfl ?_
  refine v_istore h dX6_thicksThatFit_1 (Nat.le_of_ble_eq_true rfl) rfl rfl [(0, .ref (ad 0)), (1, .int x1), (2, .ref (ad 123)), (3, .int x3), (4, .int x4), (5, .int 0)] rfl 3 rfl ?_
  refine v_iconst h dX6_thicksThatFit_3 1 rfl 4 rfl ?_
  refine v_istore h dX6_thicksThatFit_4 (Nat.le_of_ble_eq_true rfl) rfl rfl [(0, .ref (ad 0)), (1, .int x1), (2, .ref (ad 123)), (3, .int x3), (4, .int x4), (5, .int 0), (6, .int 1)] rfl 6 rfl ?_
  obtain ⟨u1, hu1, hf⟩ := zb hf
  refine v_sub [0, 1, 2, 3, 4, 5, 6] rfl ?_
  refine tX6_thicksThatFit_s3_l6 h zF v x1 x3 x4 0 1 v.2.2.1 _ hu1 ?_
  refine v_iload h dX6_thicksThatFit_54 0 rfl 56 rfl ?_
  cases (Option.some.inj hf)
  exact hE 56 _ rfl dX6_thicksThatFit_56
abbrev rX6_stains : Room := { frames := 6, cells := 0, slots := 0, locals := 136 }
theorem nX6_stains : zNoMH yX6_stains 6 := ⟨by decide +kernel, by decide +kernel, by decide +kernel⟩
theorem iX6_stains_X6 : ∀ w ∈ wsX60, w ∈ wsX6_stains := fun _ h => (List.mem_cons_of_mem _ (List.mem_append_left _ (List.mem_append_left _ (List.mem_append_left _ (List.mem_append_left _ (List.mem_append_right _ h))))))
theorem iX6_stains_X1 : ∀ w ∈ wsX10, w ∈ wsX6_stains := fun _ h => (List.mem_cons_of_mem _ (List.mem_append_left _ (List.mem_append_left _ (List.mem_append_left _ (List.mem_append_right _ h)))))
theorem iX6_stains_X0 : ∀ w ∈ wsX00, w ∈ wsX6_stains := fun _ h => (List.mem_cons_of_mem _ (List.mem_append_left _ (List.mem_append_left _ (List.mem_append_right _ h))))
theorem iX6_stains_X3 : ∀ w ∈ wsX30, w ∈ wsX6_stains := fun _ h => (List.mem_cons_of_mem _ (List.mem_append_left _ (List.mem_append_right _ h)))
theorem iX6_stains_X5 : ∀ w ∈ wsX50, w ∈ wsX6_stains := fun _ h => (List.mem_cons_of_mem _ (List.mem_append_right _ h))
def fX6_stains (v : XV) (x1 : Int32) (x2 : Int32) (x3 : Int32) (x4 : Int32) (x5 : Int32) (x6 : Int32) : Option (Int32 × CV) := ((fX0_has v.1.2.2.1 x1) : Option Int32).bind (fun u1 => if u1 = 0 then (some ((-1), v.2.2.1)) else (((fX6_isSheet x2) : Option Int32).bind (fun u3 => if u3 = 0 then (some ((-1), v.2.2.1)) else (((fX6_isLane x3) : Option Int32).bind (fun u5 => if u5 = 0 then (some ((-1), v.2.2.1)) else (((fX6_outside x5 1 8) : Option Int32).bind (fun u7 => if u7 = 0 then (((fX6_outside x6 0 1) : Option Int32).bind (fun u9 => if u9 = 0 then (zgrd (zix x2 4) (((fX3_refuse (v.2.2.2.2.2.1 x2.toNatClampNeg) x3 x4 x5) : Option Int32).bind (fun u13 => if 0 ≤ u13 then (if x6 = 0 then (((fX6_kindsThatFit v x2.toNatClampNeg x1 x4 x5) : Option (Int32 × CV)).bind (fun u17 => some (u17.1, u17.2))) else (((fX6_thicksThatFit v x2.toNatClampNeg x1 x4 x5) : Option (Int32 × CV)).bind (fun u16 => some (u16.1, u16.2)))) else (some (u13, v.2.2.1))))) else (some ((-1), v.2.2.1)))) else (some ((-1), v.2.2.1)))))))))
set_option maxRecDepth 100000 in
set_option maxHeartbeats 4000000 in
theorem tX6_stains (l : Launch) (G : va_G) (ca : Nat → ClassId) (ad : Nat → Nat) (v : XV) (x1 : Int32) (x2 : Int32) (x3 : Int32) (x4 : Int32) (x5 : Int32) (x6 : Int32) {o : (Int32 × CV)} (hf : fX6_stains v x1 x2 x3 x4 x5 x6 = some o) : zMi l yX6_stains wsX6_stains rX6_stains G ca [.ref (ad 0), .int x1, .int x2, .int x3, .int x4, .int x5, .int x6] (wX ca ad v) o.1 (wX ca ad (v.1, v.2.1, o.2, v.2.2.2)) := by
  refine zMi.of (cc := cX6_stains) (nL := 8) (own := RX6) (ty := .int) (by decide) rfl rfl (Nat.le_of_ble_eq_true rfl) (fun X h hE => ?_)
  show V X G 8 0 0 (wX ca ad v) 0 [(0, .ref (ad 0)), (1, .int x1), (2, .int x2), (3, .int x3), (4, .int x4), (5, .int x5), (6, .int x6)] []
  unfold fX6_stains at hf
  refine v_aload_n h dX6_stains_0 0 rfl 1 rfl ?_
  refine v_get h (v := .ref (ad 1)) dX6_stains_1 iX6_stains_X6 0 rfl rfl 0 (by decide) (zwi 1 rfl) rfl 4 rfl ?_
  refine v_get h (v := .ref (ad 4)) dX6_stains_4 iX6_stains_X1 1 rfl rfl 2 (by decide) (zwi 2 rfl) rfl 7 rfl ?_
  refine v_iload_n h dX6_stains_7 1 rfl 8 rfl ?_
  obtain ⟨u1, hu1, hf⟩ := zb hf
  refine v_callVi h (rest := []) dX6_stains_8 (tX0_has l G ca (fun i => ad (4 + i)) v.1.2.2.1 x1 hu1) gX6_stains_X0_has rfl rfl ⟨rfl, rfl⟩ nX0_has ⟨Nat.le_of_ble_eq_true rfl, Nat.le_of_ble_eq_true rfl⟩ [4, 5, 6, 7, 8] rfl rfl 0 rfl rfl rfl rfl (Nat.le_of_ble_eq_true rfl) ⟨Nat.zero_le _, Nat.zero_le _⟩ rfl (wX ca ad v) rfl (wX_adr _ _ _ _) 11 rfl ?_
  refine v_if_eq h dX6_stains_11 49 (by decide) 14 rfl (fun c2 => ?_) (fun c2 => ?_)
  · replace hf := zt c2 hf
    refine v_iconst h dX6_stains_49 (-1) rfl 50 rfl ?_
    cases (Option.some.inj hf)
    exact hE 50 _ rfl dX6_stains_50
  · replace hf := zf c2 hf
    refine v_iload_n h dX6_stains_14 2 rfl 15 rfl ?_
    obtain ⟨u3, hu3, hf⟩ := zb hf
    refine v_callSi h (rest := []) dX6_stains_15 (tX6_isSheet l G ca   x2 hu3) gX6_stains_X6_isSheet rfl ⟨rfl, rfl⟩ nX6_isSheet ⟨Nat.le_of_ble_eq_true rfl, Nat.le_of_ble_eq_true rfl⟩ [] rfl rfl rfl rfl (Nat.le_of_ble_eq_true rfl) ⟨Nat.zero_le _, Nat.zero_le _⟩ rfl (wX ca ad v) rfl (wX_adr _ _ _ _) 18 rfl ?_
    refine v_if_eq h dX6_stains_18 49 (by decide) 21 rfl (fun c4 => ?_) (fun c4 => ?_)
    · replace hf := zt c4 hf
      refine v_iconst h dX6_stains_49 (-1) rfl 50 rfl ?_
      cases (Option.some.inj hf)
      exact hE 50 _ rfl dX6_stains_50
    · replace hf := zf c4 hf
      refine v_iload_n h dX6_stains_21 3 rfl 22 rfl ?_
      obtain ⟨u5, hu5, hf⟩ := zb hf
      refine v_callSi h (rest := []) dX6_stains_22 (tX6_isLane l G ca   x3 hu5) gX6_stains_X6_isLane rfl ⟨rfl, rfl⟩ nX6_isLane ⟨Nat.le_of_ble_eq_true rfl, Nat.le_of_ble_eq_true rfl⟩ [] rfl rfl rfl rfl (Nat.le_of_ble_eq_true rfl) ⟨Nat.zero_le _, Nat.zero_le _⟩ rfl (wX ca ad v) rfl (wX_adr _ _ _ _) 25 rfl ?_
      refine v_if_eq h dX6_stains_25 49 (by decide) 28 rfl (fun c6 => ?_) (fun c6 => ?_)
      · replace hf := zt c6 hf
        refine v_iconst h dX6_stains_49 (-1) rfl 50 rfl ?_
        cases (Option.some.inj hf)
        exact hE 50 _ rfl dX6_stains_50
      · replace hf := zf c6 hf
        refine v_iload h dX6_stains_28 5 rfl 30 rfl ?_
        refine v_iconst h dX6_stains_30 1 rfl 31 rfl ?_
        refine v_bipush h dX6_stains_31 8 rfl 33 rfl ?_
        obtain ⟨u7, hu7, hf⟩ := zb hf
        refine v_callSi h (rest := []) dX6_stains_33 (tX6_outside l G ca   x5 1 8 hu7) gX6_stains_X6_outside rfl ⟨rfl, rfl⟩ nX6_outside ⟨Nat.le_of_ble_eq_true rfl, Nat.le_of_ble_eq_true rfl⟩ [] rfl rfl rfl rfl (Nat.le_of_ble_eq_true rfl) ⟨Nat.zero_le _, Nat.zero_le _⟩ rfl (wX ca ad v) rfl (wX_adr _ _ _ _) 36 rfl ?_
        refine v_if_ne h dX6_stains_36 49 (by decide) 39 rfl (fun c8 => ?_) (fun c8 => ?_)
        · replace hf := zf c8 hf
          refine v_iconst h dX6_stains_49 (-1) rfl 50 rfl ?_
          cases (Option.some.inj hf)
          exact hE 50 _ rfl dX6_stains_50
        · replace hf := zt c8 hf
          refine v_iload h dX6_stains_39 6 rfl 41 rfl ?_
          refine v_iconst h dX6_stains_41 0 rfl 42 rfl ?_
          refine v_iconst h dX6_stains_42 1 rfl 43 rfl ?_
          obtain ⟨u9, hu9, hf⟩ := zb hf
          refine v_callSi h (rest := []) dX6_stains_43 (tX6_outside l G ca   x6 0 1 hu9) gX6_stains_X6_outside rfl ⟨rfl, rfl⟩ nX6_outside ⟨Nat.le_of_ble_eq_true rfl, Nat.le_of_ble_eq_true rfl⟩ [] rfl rfl rfl rfl (Nat.le_of_ble_eq_true rfl) ⟨Nat.zero_le _, Nat.zero_le _⟩ rfl (wX ca ad v) rfl (wX_adr _ _ _ _) 46 rfl ?_
          refine v_if_eq h dX6_stains_46 51 (by decide) 49 rfl (fun c10 => ?_) (fun c10 => ?_)
          · replace hf := zt c10 hf
            refine v_aload_n h dX6_stains_51 0 rfl 52 rfl ?_
            refine v_get h (v := .ref (ad 116)) dX6_stains_52 iX6_stains_X6 0 rfl rfl 5 (by decide) (zwi 3 rfl) rfl 55 rfl ?_
            refine v_iload_n h dX6_stains_55 2 rfl 56 rfl ?_
            obtain ⟨g11, hf⟩ := zg hf
            rcases zix4 g11 with e12 | e12 | e12 | e12
            · try rw [e12] at hf
              refine v_aald h dX6_stains_56 116 4 rfl rfl (zix_in g11) (b := (ad 117)) (by rw [e12] <;> rfl) 57 rfl ?_
              refine v_iload_n h dX6_stains_57 3 rfl 58 rfl ?_
              refine v_iload h dX6_stains_58 4 rfl 60 rfl ?_
              refine v_iload h dX6_stains_60 5 rfl 62 rfl ?_
              obtain ⟨u13, hu13, hf⟩ := zb hf
              refine v_callVi h (rest := []) dX6_stains_62 (tX3_refuse l G ca (fun i => ad (117 + i)) (v.2.2.2.2.2.1 0) x3 x4 x5 hu13) gX6_stains_X3_refuse rfl rfl ⟨rfl, rfl⟩ nX3_refuse ⟨Nat.le_of_ble_eq_true rfl, Nat.le_of_ble_eq_true rfl⟩ [117, 118] rfl rfl 0 rfl rfl rfl rfl (Nat.le_of_ble_eq_true rfl) ⟨Nat.zero_le _, Nat.zero_le _⟩ rfl (wX ca ad v) rfl (wX_adr _ _ _ _) 65 rfl ?_
              refine v_istore h dX6_stains_65 (Nat.le_of_ble_eq_true rfl) rfl rfl [(0, .ref (ad 0)), (1, .int x1), (2, .int x2), (3, .int x3), (4, .int x4), (5, .int x5), (6, .int x6), (7, .int u13)] rfl 67 rfl ?_
              refine v_iload h dX6_stains_67 7 rfl 69 rfl ?_
              refine v_if_ge h dX6_stains_69 75 (by decide) 72 rfl (fun c14 => ?_) (fun c14 => ?_)
              · replace hf := zt c14 hf
                refine v_iload h dX6_stains_75 6 rfl 77 rfl ?_
                refine v_if_ne h dX6_stains_77 98 (by decide) 80 rfl (fun c15 => ?_) (fun c15 => ?_)
                · replace hf := zf c15 hf
                  refine v_aload_n h dX6_stains_98 0 rfl 99 rfl ?_
                  refine v_iload_n h dX6_stains_99 1 rfl 100 rfl ?_
                  refine v_aload_n h dX6_stains_100 0 rfl 101 rfl ?_
                  refine v_get h (v := .ref (ad 116)) dX6_stains_101 iX6_stains_X6 0 rfl rfl 5 (by decide) (zwi 3 rfl) rfl 104 rfl ?_
                  refine v_iload_n h dX6_stains_104 2 rfl 105 rfl ?_
                  refine v_aald h dX6_stains_105 116 4 rfl rfl (zix_in g11) (b := (ad 117)) (by rw [e12] <;> rfl) 106 rfl ?_
                  refine v_iload h dX6_stains_106 4 rfl 108 rfl ?_
                  refine v_iload h dX6_stains_108 5 rfl 110 rfl ?_
                  obtain ⟨u16, hu16, hf⟩ := zb hf
                  refine v_wcallVi h (rest := []) dX6_stains_110 (tX6_thicksThatFit_s0 l G ca ad v x1 x4 x5 hu16) gX6_stains_X6_thicksThatFit rfl rfl ⟨rfl, rfl⟩ nX6_thicksThatFit ⟨Nat.le_of_ble_eq_true rfl, Nat.le_of_ble_eq_true rfl⟩ 0 rfl rfl rfl rfl (Nat.le_of_ble_eq_true rfl) ⟨Nat.zero_le _, Nat.zero_le _⟩ (wX_adr _ _ _ _) 113 rfl ?_
                  cases (Option.some.inj hf)
                  exact hE 113 _ rfl dX6_stains_113
                · replace hf := zt c15 hf
                  refine v_aload_n h dX6_stains_80 0 rfl 81 rfl ?_
                  refine v_iload_n h dX6_stains_81 1 rfl 82 rfl ?_
                  refine v_aload_n h dX6_stains_82 0 rfl 83 rfl ?_
                  refine v_get h (v := .ref (ad 116)) dX6_stains_83 iX6_stains_X6 0 rfl rfl 5 (by decide) (zwi 3 rfl) rfl 86 rfl ?_
                  refine v_iload_n h dX6_stains_86 2 rfl 87 rfl ?_
                  refine v_aald h dX6_stains_87 116 4 rfl rfl (zix_in g11) (b := (ad 117)) (by rw [e12] <;> rfl) 88 rfl ?_
                  refine v_iload h dX6_stains_88 4 rfl 90 rfl ?_
                  refine v_iload h dX6_stains_90 5 rfl 92 rfl ?_
                  obtain ⟨u17, hu17, hf⟩ := zb hf
                  refine v_wcallVi h (rest := []) dX6_stains_92 (tX6_kindsThatFit_s0 l G ca ad v x1 x4 x5 hu17) gX6_stains_X6_kindsThatFit rfl rfl ⟨rfl, rfl⟩ nX6_kindsThatFit ⟨Nat.le_of_ble_eq_true rfl, Nat.le_of_ble_eq_true rfl⟩ 0 rfl rfl rfl rfl (Nat.le_of_ble_eq_true rfl) ⟨Nat.zero_le _, Nat.zero_le _⟩ (wX_adr _ _ _ _) 95 rfl ?_
                  refine v_goto h dX6_stains_95 113 (by decide) ?_
                  cases (Option.some.inj hf)
                  exact hE 113 _ rfl dX6_stains_113
              · replace hf := zf c14 hf
                refine v_iload h dX6_stains_72 7 rfl 74 rfl ?_
                cases (Option.some.inj hf)
                exact hE 74 _ rfl dX6_stains_74
            · try rw [e12] at hf
              refine v_aald h dX6_stains_56 116 4 rfl rfl (zix_in g11) (b := (ad 119)) (by rw [e12] <;> rfl) 57 rfl ?_
              refine v_iload_n h dX6_stains_57 3 rfl 58 rfl ?_
              refine v_iload h dX6_stains_58 4 rfl 60 rfl ?_
              refine v_iload h dX6_stains_60 5 rfl 62 rfl ?_
              obtain ⟨u13, hu13, hf⟩ := zb hf
              refine v_callVi h (rest := []) dX6_stains_62 (tX3_refuse l G ca (fun i => ad (119 + i)) (v.2.2.2.2.2.1 1) x3 x4 x5 hu13) gX6_stains_X3_refuse rfl rfl ⟨rfl, rfl⟩ nX3_refuse ⟨Nat.le_of_ble_eq_true rfl, Nat.le_of_ble_eq_true rfl⟩ [119, 120] rfl rfl 0 rfl rfl rfl rfl (Nat.le_of_ble_eq_true rfl) ⟨Nat.zero_le _, Nat.zero_le _⟩ rfl (wX ca ad v) rfl (wX_adr _ _ _ _) 65 rfl ?_
              refine v_istore h dX6_stains_65 (Nat.le_of_ble_eq_true rfl) rfl rfl [(0, .ref (ad 0)), (1, .int x1), (2, .int x2), (3, .int x3), (4, .int x4), (5, .int x5), (6, .int x6), (7, .int u13)] rfl 67 rfl ?_
              refine v_iload h dX6_stains_67 7 rfl 69 rfl ?_
              refine v_if_ge h dX6_stains_69 75 (by decide) 72 rfl (fun c14 => ?_) (fun c14 => ?_)
              · replace hf := zt c14 hf
                refine v_iload h dX6_stains_75 6 rfl 77 rfl ?_
                refine v_if_ne h dX6_stains_77 98 (by decide) 80 rfl (fun c15 => ?_) (fun c15 => ?_)
                · replace hf := zf c15 hf
                  refine v_aload_n h dX6_stains_98 0 rfl 99 rfl ?_
                  refine v_iload_n h dX6_stains_99 1 rfl 100 rfl ?_
                  refine v_aload_n h dX6_stains_100 0 rfl 101 rfl ?_
                  refine v_get h (v := .ref (ad 116)) dX6_stains_101 iX6_stains_X6 0 rfl rfl 5 (by decide) (zwi 3 rfl) rfl 104 rfl ?_
                  refine v_iload_n h dX6_stains_104 2 rfl 105 rfl ?_
                  refine v_aald h dX6_stains_105 116 4 rfl rfl (zix_in g11) (b := (ad 119)) (by rw [e12] <;> rfl) 106 rfl ?_
                  refine v_iload h dX6_stains_106 4 rfl 108 rfl ?_
                  refine v_iload h dX6_stains_108 5 rfl 110 rfl ?_
                  obtain ⟨u16, hu16, hf⟩ := zb hf
                  refine v_wcallVi h (rest := []) dX6_stains_110 (tX6_thicksThatFit_s1 l G ca ad v x1 x4 x5 hu16) gX6_stains_X6_thicksThatFit rfl rfl ⟨rfl, rfl⟩ nX6_thicksThatFit ⟨Nat.le_of_ble_eq_true rfl, Nat.le_of_ble_eq_true rfl⟩ 0 rfl rfl rfl rfl (Nat.le_of_ble_eq_true rfl) ⟨Nat.zero_le _, Nat.zero_le _⟩ (wX_adr _ _ _ _) 113 rfl ?_
                  cases (Option.some.inj hf)
                  exact hE 113 _ rfl dX6_stains_113
                · replace hf := zt c15 hf
                  refine v_aload_n h dX6_stains_80 0 rfl 81 rfl ?_
                  refine v_iload_n h dX6_stains_81 1 rfl 82 rfl ?_
                  refine v_aload_n h dX6_stains_82 0 rfl 83 rfl ?_
                  refine v_get h (v := .ref (ad 116)) dX6_stains_83 iX6_stains_X6 0 rfl rfl 5 (by decide) (zwi 3 rfl) rfl 86 rfl ?_
                  refine v_iload_n h dX6_stains_86 2 rfl 87 rfl ?_
                  refine v_aald h dX6_stains_87 116 4 rfl rfl (zix_in g11) (b := (ad 119)) (by rw [e12] <;> rfl) 88 rfl ?_
                  refine v_iload h dX6_stains_88 4 rfl 90 rfl ?_
                  refine v_iload h dX6_stains_90 5 rfl 92 rfl ?_
                  obtain ⟨u17, hu17, hf⟩ := zb hf
                  refine v_wcallVi h (rest := []) dX6_stains_92 (tX6_kindsThatFit_s1 l G ca ad v x1 x4 x5 hu17) gX6_stains_X6_kindsThatFit rfl rfl ⟨rfl, rfl⟩ nX6_kindsThatFit ⟨Nat.le_of_ble_eq_true rfl, Nat.le_of_ble_eq_true rfl⟩ 0 rfl rfl rfl rfl (Nat.le_of_ble_eq_true rfl) ⟨Nat.zero_le _, Nat.zero_le _⟩ (wX_adr _ _ _ _) 95 rfl ?_
                  refine v_goto h dX6_stains_95 113 (by decide) ?_
                  cases (Option.some.inj hf)
                  exact hE 113 _ rfl dX6_stains_113
              · replace hf := zf c14 hf
                refine v_iload h dX6_stains_72 7 rfl 74 rfl ?_
                cases (Option.some.inj hf)
                exact hE 74 _ rfl dX6_stains_74
            · try rw [e12] at hf
              refine v_aald h dX6_stains_56 116 4 rfl rfl (zix_in g11) (b := (ad 121)) (by rw [e12] <;> rfl) 57 rfl ?_
              refine v_iload_n h dX6_stains_57 3 rfl 58 rfl ?_
              refine v_iload h dX6_stains_58 4 rfl 60 rfl ?_
              refine v_iload h dX6_stains_60 5 rfl 62 rfl ?_
              obtain ⟨u13, hu13, hf⟩ := zb hf
              refine v_callVi h (rest := []) dX6_stains_62 (tX3_refuse l G ca (fun i => ad (121 + i)) (v.2.2.2.2.2.1 2) x3 x4 x5 hu13) gX6_stains_X3_refuse rfl rfl ⟨rfl, rfl⟩ nX3_refuse ⟨Nat.le_of_ble_eq_true rfl, Nat.le_of_ble_eq_true rfl⟩ [121, 122] rfl rfl 0 rfl rfl rfl rfl (Nat.le_of_ble_eq_true rfl) ⟨Nat.zero_le _, Nat.zero_le _⟩ rfl (wX ca ad v) rfl (wX_adr _ _ _ _) 65 rfl ?_
              refine v_istore h dX6_stains_65 (Nat.le_of_ble_eq_true rfl) rfl rfl [(0, .ref (ad 0)), (1, .int x1), (2, .int x2), (3, .int x3), (4, .int x4), (5, .int x5), (6, .int x6), (7, .int u13)] rfl 67 rfl ?_
              refine v_iload h dX6_stains_67 7 rfl 69 rfl ?_
              refine v_if_ge h dX6_stains_69 75 (by decide) 72 rfl (fun c14 => ?_) (fun c14 => ?_)
              · replace hf := zt c14 hf
                refine v_iload h dX6_stains_75 6 rfl 77 rfl ?_
                refine v_if_ne h dX6_stains_77 98 (by decide) 80 rfl (fun c15 => ?_) (fun c15 => ?_)
                · replace hf := zf c15 hf
                  refine v_aload_n h dX6_stains_98 0 rfl 99 rfl ?_
                  refine v_iload_n h dX6_stains_99 1 rfl 100 rfl ?_
                  refine v_aload_n h dX6_stains_100 0 rfl 101 rfl ?_
                  refine v_get h (v := .ref (ad 116)) dX6_stains_101 iX6_stains_X6 0 rfl rfl 5 (by decide) (zwi 3 rfl) rfl 104 rfl ?_
                  refine v_iload_n h dX6_stains_104 2 rfl 105 rfl ?_
                  refine v_aald h dX6_stains_105 116 4 rfl rfl (zix_in g11) (b := (ad 121)) (by rw [e12] <;> rfl) 106 rfl ?_
                  refine v_iload h dX6_stains_106 4 rfl 108 rfl ?_
                  refine v_iload h dX6_stains_108 5 rfl 110 rfl ?_
                  obtain ⟨u16, hu16, hf⟩ := zb hf
                  refine v_wcallVi h (rest := []) dX6_stains_110 (tX6_thicksThatFit_s2 l G ca ad v x1 x4 x5 hu16) gX6_stains_X6_thicksThatFit rfl rfl ⟨rfl, rfl⟩ nX6_thicksThatFit ⟨Nat.le_of_ble_eq_true rfl, Nat.le_of_ble_eq_true rfl⟩ 0 rfl rfl rfl rfl (Nat.le_of_ble_eq_true rfl) ⟨Nat.zero_le _, Nat.zero_le _⟩ (wX_adr _ _ _ _) 113 rfl ?_
                  cases (Option.some.inj hf)
                  exact hE 113 _ rfl dX6_stains_113
                · replace hf := zt c15 hf
                  refine v_aload_n h dX6_stains_80 0 rfl 81 rfl ?_
                  refine v_iload_n h dX6_stains_81 1 rfl 82 rfl ?_
                  refine v_aload_n h dX6_stains_82 0 rfl 83 rfl ?_
                  refine v_get h (v := .ref (ad 116)) dX6_stains_83 iX6_stains_X6 0 rfl rfl 5 (by decide) (zwi 3 rfl) rfl 86 rfl ?_
                  refine v_iload_n h dX6_stains_86 2 rfl 87 rfl ?_
                  refine v_aald h dX6_stains_87 116 4 rfl rfl (zix_in g11) (b := (ad 121)) (by rw [e12] <;> rfl) 88 rfl ?_
                  refine v_iload h dX6_stains_88 4 rfl 90 rfl ?_
                  refine v_iload h dX6_stains_90 5 rfl 92 rfl ?_
                  obtain ⟨u17, hu17, hf⟩ := zb hf
                  refine v_wcallVi h (rest := []) dX6_stains_92 (tX6_kindsThatFit_s2 l G ca ad v x1 x4 x5 hu17) gX6_stains_X6_kindsThatFit rfl rfl ⟨rfl, rfl⟩ nX6_kindsThatFit ⟨Nat.le_of_ble_eq_true rfl, Nat.le_of_ble_eq_true rfl⟩ 0 rfl rfl rfl rfl (Nat.le_of_ble_eq_true rfl) ⟨Nat.zero_le _, Nat.zero_le _⟩ (wX_adr _ _ _ _) 95 rfl ?_
                  refine v_goto h dX6_stains_95 113 (by decide) ?_
                  cases (Option.some.inj hf)
                  exact hE 113 _ rfl dX6_stains_113
              · replace hf := zf c14 hf
                refine v_iload h dX6_stains_72 7 rfl 74 rfl ?_
                cases (Option.some.inj hf)
                exact hE 74 _ rfl dX6_stains_74
            · try rw [e12] at hf
              refine v_aald h dX6_stains_56 116 4 rfl rfl (zix_in g11) (b := (ad 123)) (by rw [e12] <;> rfl) 57 rfl ?_
              refine v_iload_n h dX6_stains_57 3 rfl 58 rfl ?_
              refine v_iload h dX6_stains_58 4 rfl 60 rfl ?_
              refine v_iload h dX6_stains_60 5 rfl 62 rfl ?_
              obtain ⟨u13, hu13, hf⟩ := zb hf
              refine v_callVi h (rest := []) dX6_stains_62 (tX3_refuse l G ca (fun i => ad (123 + i)) (v.2.2.2.2.2.1 3) x3 x4 x5 hu13) gX6_stains_X3_refuse rfl rfl ⟨rfl, rfl⟩ nX3_refuse ⟨Nat.le_of_ble_eq_true rfl, Nat.le_of_ble_eq_true rfl⟩ [123, 124] rfl rfl 0 rfl rfl rfl rfl (Nat.le_of_ble_eq_true rfl) ⟨Nat.zero_le _, Nat.zero_le _⟩ rfl (wX ca ad v) rfl (wX_adr _ _ _ _) 65 rfl ?_
              refine v_istore h dX6_stains_65 (Nat.le_of_ble_eq_true rfl) rfl rfl [(0, .ref (ad 0)), (1, .int x1), (2, .int x2), (3, .int x3), (4, .int x4), (5, .int x5), (6, .int x6), (7, .int u13)] rfl 67 rfl ?_
              refine v_iload h dX6_stains_67 7 rfl 69 rfl ?_
              refine v_if_ge h dX6_stains_69 75 (by decide) 72 rfl (fun c14 => ?_) (fun c14 => ?_)
              · replace hf := zt c14 hf
                refine v_iload h dX6_stains_75 6 rfl 77 rfl ?_
                refine v_if_ne h dX6_stains_77 98 (by decide) 80 rfl (fun c15 => ?_) (fun c15 => ?_)
                · replace hf := zf c15 hf
                  refine v_aload_n h dX6_stains_98 0 rfl 99 rfl ?_
                  refine v_iload_n h dX6_stains_99 1 rfl 100 rfl ?_
                  refine v_aload_n h dX6_stains_100 0 rfl 101 rfl ?_
                  refine v_get h (v := .ref (ad 116)) dX6_stains_101 iX6_stains_X6 0 rfl rfl 5 (by decide) (zwi 3 rfl) rfl 104 rfl ?_
                  refine v_iload_n h dX6_stains_104 2 rfl 105 rfl ?_
                  refine v_aald h dX6_stains_105 116 4 rfl rfl (zix_in g11) (b := (ad 123)) (by rw [e12] <;> rfl) 106 rfl ?_
                  refine v_iload h dX6_stains_106 4 rfl 108 rfl ?_
                  refine v_iload h dX6_stains_108 5 rfl 110 rfl ?_
                  obtain ⟨u16, hu16, hf⟩ := zb hf
                  refine v_wcallVi h (rest := []) dX6_stains_110 (tX6_thicksThatFit_s3 l G ca ad v x1 x4 x5 hu16) gX6_stains_X6_thicksThatFit rfl rfl ⟨rfl, rfl⟩ nX6_thicksThatFit ⟨Nat.le_of_ble_eq_true rfl, Nat.le_of_ble_eq_true rfl⟩ 0 rfl rfl rfl rfl (Nat.le_of_ble_eq_true rfl) ⟨Nat.zero_le _, Nat.zero_le _⟩ (wX_adr _ _ _ _) 113 rfl ?_
                  cases (Option.some.inj hf)
                  exact hE 113 _ rfl dX6_stains_113
                · replace hf := zt c15 hf
                  refine v_aload_n h dX6_stains_80 0 rfl 81 rfl ?_
                  refine v_iload_n h dX6_stains_81 1 rfl 82 rfl ?_
                  refine v_aload_n h dX6_stains_82 0 rfl 83 rfl ?_
                  refine v_get h (v := .ref (ad 116)) dX6_stains_83 iX6_stains_X6 0 rfl rfl 5 (by decide) (zwi 3 rfl) rfl 86 rfl ?_
                  refine v_iload_n h dX6_stains_86 2 rfl 87 rfl ?_
                  refine v_aald h dX6_stains_87 116 4 rfl rfl (zix_in g11) (b := (ad 123)) (by rw [e12] <;> rfl) 88 rfl ?_
                  refine v_iload h dX6_stains_88 4 rfl 90 rfl ?_
                  refine v_iload h dX6_stains_90 5 rfl 92 rfl ?_
                  obtain ⟨u17, hu17, hf⟩ := zb hf
                  refine v_wcallVi h (rest := []) dX6_stains_92 (tX6_kindsThatFit_s3 l G ca ad v x1 x4 x5 hu17) gX6_stains_X6_kindsThatFit rfl rfl ⟨rfl, rfl⟩ nX6_kindsThatFit ⟨Nat.le_of_ble_eq_true rfl, Nat.le_of_ble_eq_true rfl⟩ 0 rfl rfl rfl rfl (Nat.le_of_ble_eq_true rfl) ⟨Nat.zero_le _, Nat.zero_le _⟩ (wX_adr _ _ _ _) 95 rfl ?_
                  refine v_goto h dX6_stains_95 113 (by decide) ?_
                  cases (Option.some.inj hf)
                  exact hE 113 _ rfl dX6_stains_113
              · replace hf := zf c14 hf
                refine v_iload h dX6_stains_72 7 rfl 74 rfl ?_
                cases (Option.some.inj hf)
                exact hE 74 _ rfl dX6_stains_74
          · replace hf := zf c10 hf
            refine v_iconst h dX6_stains_49 (-1) rfl 50 rfl ?_
            cases (Option.some.inj hf)
            exact hE 50 _ rfl dX6_stains_50
abbrev rX6_film : Room := { frames := 4, cells := 0, slots := 0, locals := 86 }
theorem nX6_film : zNoMH yX6_film 4 := ⟨by decide +kernel, by decide +kernel, by decide +kernel⟩
theorem iX6_film_X6 : ∀ w ∈ wsX60, w ∈ wsX6_film := fun _ h => (List.mem_cons_of_mem _ (List.mem_append_left _ (List.mem_append_left _ (List.mem_append_left _ (List.mem_append_left _ (List.mem_append_right _ h))))))
theorem iX6_film_X3 : ∀ w ∈ wsX30, w ∈ wsX6_film := fun _ h => (List.mem_cons_of_mem _ (List.mem_append_left _ (List.mem_append_left _ (List.mem_append_left _ (List.mem_append_right _ h)))))
theorem iX6_film_X1 : ∀ w ∈ wsX10, w ∈ wsX6_film := fun _ h => (List.mem_cons_of_mem _ (List.mem_append_left _ (List.mem_append_left _ (List.mem_append_right _ h))))
theorem iX6_film_X0 : ∀ w ∈ wsX00, w ∈ wsX6_film := fun _ h => (List.mem_cons_of_mem _ (List.mem_append_left _ (List.mem_append_right _ h)))
theorem iX6_film_X5 : ∀ w ∈ wsX50, w ∈ wsX6_film := fun _ h => (List.mem_cons_of_mem _ (List.mem_append_right _ h))
def fX6_film_L56 : Nat → XV → Int32 → Int32 → Int32 → Int32 → CV → (Nat → SV) → Option (CV × (Nat → SV))
  | 0, _, _, _, _, _, _, _ => none
  | n + 1, v, x1, x2, x4, x6, m2, m5 => if x1 ≤ x6 then (some (m2, m5)) else (zgrd (zix x2 4) (((fX6_yearOfTrial (v.1, v.2.1, m2, v.2.2.2.1, v.2.2.2.2.1, m5, v.2.2.2.2.2.2)) : Option (Int32 × CV)).bind (fun u4 => ((fX3_put (m5 x2.toNatClampNeg) (x4 + x6) u4.1.toInt64) : Option SV).bind (fun u5 => fX6_film_L56 n v x1 x2 x4 (x6 + 1) u4.2 (va_up m5 (x2.toNatClampNeg) u5)))))
set_option maxRecDepth 100000 in
set_option maxHeartbeats 4000000 in
theorem tX6_film_l56 {X : zX} {l : Launch} {G : va_G} {ca : Nat → ClassId} {ad : Nat → Nat} (h : zOk X l G ca cX6_film RX6 wsX6_film 7 rX6_film) : ∀ (n : Nat) (v : XV) (x1 : Int32) (x2 : Int32) (x4 : Int32) (x6 : Int32) (m2 : CV) (m5 : (Nat → SV)) (out : (CV × (Nat → SV))), fX6_film_L56 n v x1 x2 x4 x6 m2 m5 = some out → (V X G 7 0 0 (wX ca ad (v.1, v.2.1, out.1, v.2.2.2.1, v.2.2.2.2.1, out.2, v.2.2.2.2.2.2)) 87 [(1, .int x1)] []) → V X G 7 0 0 (wX ca ad (v.1, v.2.1, m2, v.2.2.2.1, v.2.2.2.2.1, m5, v.2.2.2.2.2.2)) 56 [(0, .ref (ad 0)), (1, .int x1), (2, .int x2), (4, .int x4), (6, .int x6)] [] := by
  intro n
  induction n with
  | zero => intro v x1 x2 x4 x6 m2 m5 out hf; rw [fX6_film_L56] at hf; cases hf
  | succ n ih =>
    intro v x1 x2 x4 x6 m2 m5 out hf kx
    rw [fX6_film_L56] at hf
    refine v_iload h dX6_film_56 4 rfl 58 rfl ?_
    refine v_iload_n h dX6_film_58 1 rfl 59 rfl ?_
    refine v_icmp_ge h dX6_film_59 87 (by decide) 62 rfl (fun c1 => ?_) (fun c1 => ?_)
    · replace hf := zt c1 hf
      cases (Option.some.inj hf)
      exact v_sub [1] rfl (kx)
    · replace hf := zf c1 hf
      refine v_aload_n h dX6_film_62 0 rfl 63 rfl ?_
      refine v_get h (v := .ref (ad 116)) dX6_film_63 iX6_film_X6 0 rfl rfl 5 (by decide) (zwi 1 rfl) rfl 66 rfl ?_
      refine v_iload_n h dX6_film_66 2 rfl 67 rfl ?_
      obtain ⟨g2, hf⟩ := zg hf
      rcases zix4 g2 with e3 | e3 | e3 | e3
      · try rw [e3] at hf
        refine v_aald h dX6_film_67 116 4 rfl rfl (zix_in g2) (b := (ad 117)) (by rw [e3] <;> rfl) 68 rfl ?_
        refine v_iload h dX6_film_68 3 rfl 70 rfl ?_
        refine v_iload h dX6_film_70 4 rfl 72 rfl ?_
        refine v_iadd h dX6_film_72 73 rfl ?_
        refine v_aload_n h dX6_film_73 0 rfl 74 rfl ?_
        obtain ⟨u4, hu4, hf⟩ := zb hf
        refine v_wcallVi h (rest := [.int (x4 + x6), .ref (ad 117)]) dX6_film_74 (tX6_yearOfTrial l G ca ad (v.1, v.2.1, m2, v.2.2.2.1, v.2.2.2.2.1, m5, v.2.2.2.2.2.2)  hu4) gX6_film_X6_yearOfTrial rfl rfl ⟨rfl, rfl⟩ nX6_yearOfTrial ⟨Nat.le_of_ble_eq_true rfl, Nat.le_of_ble_eq_true rfl⟩ 0 rfl rfl rfl rfl (Nat.le_of_ble_eq_true rfl) ⟨Nat.zero_le _, Nat.zero_le _⟩ (wX_adr _ _ _ _) 77 rfl ?_
        refine v_i2l h dX6_film_77 78 rfl ?_
        obtain ⟨u5, hu5, hf⟩ := zb hf
        refine v_callVv h (rest := []) dX6_film_78 (tX3_put l G ca (fun i => ad (117 + i)) (m5 0) (x4 + x6) u4.1.toInt64 hu5) gX6_film_X3_put rfl rfl ⟨rfl, rfl⟩ nX3_put ⟨Nat.le_of_ble_eq_true rfl, Nat.le_of_ble_eq_true rfl⟩ [117, 118] rfl rfl 0 rfl rfl rfl rfl (Nat.le_of_ble_eq_true rfl) ⟨Nat.zero_le _, Nat.zero_le _⟩ rfl (wX ca ad (v.1, v.2.1, u4.2, v.2.2.2.1, v.2.2.2.2.1, (va_up m5 0 u5), v.2.2.2.2.2.2)) rfl (wX_adr _ _ _ _) 81 rfl ?_
        refine v_iinc h dX6_film_81 4 rfl (x6 + 1) rfl (Nat.le_of_ble_eq_true rfl) rfl rfl [(0, .ref (ad 0)), (1, .int x1), (2, .int x2), (4, .int x4), (6, .int (x6 + 1))] rfl 84 rfl ?_
        refine v_goto h dX6_film_84 56 (by decide) ?_
        exact v_sub [0, 1, 2, 3, 4] rfl (ih v x1 x2 x4 (x6 + 1) u4.2 (va_up m5 0 u5) _ hf kx)
      · try rw [e3] at hf
        refine v_aald h dX6_film_67 116 4 rfl rfl (zix_in g2) (b := (ad 119)) (by rw [e3] <;> rfl) 68 rfl ?_
        refine v_iload h dX6_film_68 3 rfl 70 rfl ?_
        refine v_iload h dX6_film_70 4 rfl 72 rfl ?_
        refine v_iadd h dX6_film_72 73 rfl ?_
        refine v_aload_n h dX6_film_73 0 rfl 74 rfl ?_
        obtain ⟨u4, hu4, hf⟩ := zb hf
        refine v_wcallVi h (rest := [.int (x4 + x6), .ref (ad 119)]) dX6_film_74 (tX6_yearOfTrial l G ca ad (v.1, v.2.1, m2, v.2.2.2.1, v.2.2.2.2.1, m5, v.2.2.2.2.2.2)  hu4) gX6_film_X6_yearOfTrial rfl rfl ⟨rfl, rfl⟩ nX6_yearOfTrial ⟨Nat.le_of_ble_eq_true rfl, Nat.le_of_ble_eq_true rfl⟩ 0 rfl rfl rfl rfl (Nat.le_of_ble_eq_true rfl) ⟨Nat.zero_le _, Nat.zero_le _⟩ (wX_adr _ _ _ _) 77 rfl ?_
        refine v_i2l h dX6_film_77 78 rfl ?_
        obtain ⟨u5, hu5, hf⟩ := zb hf
        refine v_callVv h (rest := []) dX6_film_78 (tX3_put l G ca (fun i => ad (119 + i)) (m5 1) (x4 + x6) u4.1.toInt64 hu5) gX6_film_X3_put rfl rfl ⟨rfl, rfl⟩ nX3_put ⟨Nat.le_of_ble_eq_true rfl, Nat.le_of_ble_eq_true rfl⟩ [119, 120] rfl rfl 0 rfl rfl rfl rfl (Nat.le_of_ble_eq_true rfl) ⟨Nat.zero_le _, Nat.zero_le _⟩ rfl (wX ca ad (v.1, v.2.1, u4.2, v.2.2.2.1, v.2.2.2.2.1, (va_up m5 1 u5), v.2.2.2.2.2.2)) rfl (wX_adr _ _ _ _) 81 rfl ?_
        refine v_iinc h dX6_film_81 4 rfl (x6 + 1) rfl (Nat.le_of_ble_eq_true rfl) rfl rfl [(0, .ref (ad 0)), (1, .int x1), (2, .int x2), (4, .int x4), (6, .int (x6 + 1))] rfl 84 rfl ?_
        refine v_goto h dX6_film_84 56 (by decide) ?_
        exact v_sub [0, 1, 2, 3, 4] rfl (ih v x1 x2 x4 (x6 + 1) u4.2 (va_up m5 1 u5) _ hf kx)
      · try rw [e3] at hf
        refine v_aald h dX6_film_67 116 4 rfl rfl (zix_in g2) (b := (ad 121)) (by rw [e3] <;> rfl) 68 rfl ?_
        refine v_iload h dX6_film_68 3 rfl 70 rfl ?_
        refine v_iload h dX6_film_70 4 rfl 72 rfl ?_
        refine v_iadd h dX6_film_72 73 rfl ?_
        refine v_aload_n h dX6_film_73 0 rfl 74 rfl ?_
        obtain ⟨u4, hu4, hf⟩ := zb hf
        refine v_wcallVi h (rest := [.int (x4 + x6), .ref (ad 121)]) dX6_film_74 (tX6_yearOfTrial l G ca ad (v.1, v.2.1, m2, v.2.2.2.1, v.2.2.2.2.1, m5, v.2.2.2.2.2.2)  hu4) gX6_film_X6_yearOfTrial rfl rfl ⟨rfl, rfl⟩ nX6_yearOfTrial ⟨Nat.le_of_ble_eq_true rfl, Nat.le_of_ble_eq_true rfl⟩ 0 rfl rfl rfl rfl (Nat.le_of_ble_eq_true rfl) ⟨Nat.zero_le _, Nat.zero_le _⟩ (wX_adr _ _ _ _) 77 rfl ?_
        refine v_i2l h dX6_film_77 78 rfl ?_
        obtain ⟨u5, hu5, hf⟩ := zb hf
        refine v_callVv h (rest := []) dX6_film_78 (tX3_put l G ca (fun i => ad (121 + i)) (m5 2) (x4 + x6) u4.1.toInt64 hu5) gX6_film_X3_put rfl rfl ⟨rfl, rfl⟩ nX3_put ⟨Nat.le_of_ble_eq_true rfl, Nat.le_of_ble_eq_true rfl⟩ [121, 122] rfl rfl 0 rfl rfl rfl rfl (Nat.le_of_ble_eq_true rfl) ⟨Nat.zero_le _, Nat.zero_le _⟩ rfl (wX ca ad (v.1, v.2.1, u4.2, v.2.2.2.1, v.2.2.2.2.1, (va_up m5 2 u5), v.2.2.2.2.2.2)) rfl (wX_adr _ _ _ _) 81 rfl ?_
        refine v_iinc h dX6_film_81 4 rfl (x6 + 1) rfl (Nat.le_of_ble_eq_true rfl) rfl rfl [(0, .ref (ad 0)), (1, .int x1), (2, .int x2), (4, .int x4), (6, .int (x6 + 1))] rfl 84 rfl ?_
        refine v_goto h dX6_film_84 56 (by decide) ?_
        exact v_sub [0, 1, 2, 3, 4] rfl (ih v x1 x2 x4 (x6 + 1) u4.2 (va_up m5 2 u5) _ hf kx)
      · try rw [e3] at hf
        refine v_aald h dX6_film_67 116 4 rfl rfl (zix_in g2) (b := (ad 123)) (by rw [e3] <;> rfl) 68 rfl ?_
        refine v_iload h dX6_film_68 3 rfl 70 rfl ?_
        refine v_iload h dX6_film_70 4 rfl 72 rfl ?_
        refine v_iadd h dX6_film_72 73 rfl ?_
        refine v_aload_n h dX6_film_73 0 rfl 74 rfl ?_
        obtain ⟨u4, hu4, hf⟩ := zb hf
        refine v_wcallVi h (rest := [.int (x4 + x6), .ref (ad 123)]) dX6_film_74 (tX6_yearOfTrial l G ca ad (v.1, v.2.1, m2, v.2.2.2.1, v.2.2.2.2.1, m5, v.2.2.2.2.2.2)  hu4) gX6_film_X6_yearOfTrial rfl rfl ⟨rfl, rfl⟩ nX6_yearOfTrial ⟨Nat.le_of_ble_eq_true rfl, Nat.le_of_ble_eq_true rfl⟩ 0 rfl rfl rfl rfl (Nat.le_of_ble_eq_true rfl) ⟨Nat.zero_le _, Nat.zero_le _⟩ (wX_adr _ _ _ _) 77 rfl ?_
        refine v_i2l h dX6_film_77 78 rfl ?_
        obtain ⟨u5, hu5, hf⟩ := zb hf
        refine v_callVv h (rest := []) dX6_film_78 (tX3_put l G ca (fun i => ad (123 + i)) (m5 3) (x4 + x6) u4.1.toInt64 hu5) gX6_film_X3_put rfl rfl ⟨rfl, rfl⟩ nX3_put ⟨Nat.le_of_ble_eq_true rfl, Nat.le_of_ble_eq_true rfl⟩ [123, 124] rfl rfl 0 rfl rfl rfl rfl (Nat.le_of_ble_eq_true rfl) ⟨Nat.zero_le _, Nat.zero_le _⟩ rfl (wX ca ad (v.1, v.2.1, u4.2, v.2.2.2.1, v.2.2.2.2.1, (va_up m5 3 u5), v.2.2.2.2.2.2)) rfl (wX_adr _ _ _ _) 81 rfl ?_
        refine v_iinc h dX6_film_81 4 rfl (x6 + 1) rfl (Nat.le_of_ble_eq_true rfl) rfl rfl [(0, .ref (ad 0)), (1, .int x1), (2, .int x2), (4, .int x4), (6, .int (x6 + 1))] rfl 84 rfl ?_
        refine v_goto h dX6_film_84 56 (by decide) ?_
        exact v_sub [0, 1, 2, 3, 4] rfl (ih v x1 x2 x4 (x6 + 1) u4.2 (va_up m5 3 u5) _ hf kx)
def fX6_film (v : XV) (x1 : Int32) (x2 : Int32) (x3 : Int32) (x4 : Int32) : Option (Int32 × CV × (Nat → SV)) := ((fX6_outside x1 1 24) : Option Int32).bind (fun u1 => if u1 = 0 then (((fX6_isSheet x2) : Option Int32).bind (fun u3 => if u3 = 0 then (some ((-1), v.2.2.1, v.2.2.2.2.2.1)) else (((fX6_isLane x3) : Option Int32).bind (fun u5 => if u5 = 0 then (some ((-1), v.2.2.1, v.2.2.2.2.2.1)) else (zgrd (zix x2 4) (((fX3_refuse (v.2.2.2.2.2.1 x2.toNatClampNeg) x3 x4 x1) : Option Int32).bind (fun u9 => if 0 ≤ u9 then (((fX6_startTrial v) : Option CV).bind (fun u11 => ((fX6_film_L56 zF (v.1, v.2.1, u11, v.2.2.2) x1 x2 x4 0 u11 v.2.2.2.2.2.1) : Option (CV × (Nat → SV))).bind (fun u12 => some (x1, u12.1, u12.2)))) else (some (u9, v.2.2.1, v.2.2.2.2.2.1))))))))) else (some ((-1), v.2.2.1, v.2.2.2.2.2.1)))
set_option maxRecDepth 100000 in
set_option maxHeartbeats 4000000 in
theorem tX6_film (l : Launch) (G : va_G) (ca : Nat → ClassId) (ad : Nat → Nat) (v : XV) (x1 : Int32) (x2 : Int32) (x3 : Int32) (x4 : Int32) {o : (Int32 × CV × (Nat → SV))} (hf : fX6_film v x1 x2 x3 x4 = some o) : zMi l yX6_film wsX6_film rX6_film G ca [.ref (ad 0), .int x1, .int x2, .int x3, .int x4] (wX ca ad v) o.1 (wX ca ad (v.1, v.2.1, o.2.1, v.2.2.2.1, v.2.2.2.2.1, o.2.2, v.2.2.2.2.2.2)) := by
  refine zMi.of (cc := cX6_film) (nL := 7) (own := RX6) (ty := .int) (by decide) rfl rfl (Nat.le_of_ble_eq_true rfl) (fun X h hE => ?_)
  show V X G 7 0 0 (wX ca ad v) 0 [(0, .ref (ad 0)), (1, .int x1), (2, .int x2), (3, .int x3), (4, .int x4)] []
  unfold fX6_film at hf
  refine v_iload_n h dX6_film_0 1 rfl 1 rfl ?_
  refine v_iconst h dX6_film_1 1 rfl 2 rfl ?_
  refine v_bipush h dX6_film_2 24 rfl 4 rfl ?_
  obtain ⟨u1, hu1, hf⟩ := zb hf
  refine v_callSi h (rest := []) dX6_film_4 (tX6_outside l G ca   x1 1 24 hu1) gX6_film_X6_outside rfl ⟨rfl, rfl⟩ nX6_outside ⟨Nat.le_of_ble_eq_true rfl, Nat.le_of_ble_eq_true rfl⟩ [] rfl rfl rfl rfl (Nat.le_of_ble_eq_true rfl) ⟨Nat.zero_le _, Nat.zero_le _⟩ rfl (wX ca ad v) rfl (wX_adr _ _ _ _) 7 rfl ?_
  refine v_if_ne h dX6_film_7 24 (by decide) 10 rfl (fun c2 => ?_) (fun c2 => ?_)
  · replace hf := zf c2 hf
    refine v_iconst h dX6_film_24 (-1) rfl 25 rfl ?_
    cases (Option.some.inj hf)
    exact hE 25 _ rfl dX6_film_25
  · replace hf := zt c2 hf
    refine v_iload_n h dX6_film_10 2 rfl 11 rfl ?_
    obtain ⟨u3, hu3, hf⟩ := zb hf
    refine v_callSi h (rest := []) dX6_film_11 (tX6_isSheet l G ca   x2 hu3) gX6_film_X6_isSheet rfl ⟨rfl, rfl⟩ nX6_isSheet ⟨Nat.le_of_ble_eq_true rfl, Nat.le_of_ble_eq_true rfl⟩ [] rfl rfl rfl rfl (Nat.le_of_ble_eq_true rfl) ⟨Nat.zero_le _, Nat.zero_le _⟩ rfl (wX ca ad v) rfl (wX_adr _ _ _ _) 14 rfl ?_
    refine v_if_eq h dX6_film_14 24 (by decide) 17 rfl (fun c4 => ?_) (fun c4 => ?_)
    · replace hf := zt c4 hf
      refine v_iconst h dX6_film_24 (-1) rfl 25 rfl ?_
      cases (Option.some.inj hf)
      exact hE 25 _ rfl dX6_film_25
    · replace hf := zf c4 hf
      refine v_iload_n h dX6_film_17 3 rfl 18 rfl ?_
      obtain ⟨u5, hu5, hf⟩ := zb hf
      refine v_callSi h (rest := []) dX6_film_18 (tX6_isLane l G ca   x3 hu5) gX6_film_X6_isLane rfl ⟨rfl, rfl⟩ nX6_isLane ⟨Nat.le_of_ble_eq_true rfl, Nat.le_of_ble_eq_true rfl⟩ [] rfl rfl rfl rfl (Nat.le_of_ble_eq_true rfl) ⟨Nat.zero_le _, Nat.zero_le _⟩ rfl (wX ca ad v) rfl (wX_adr _ _ _ _) 21 rfl ?_
      refine v_if_ne h dX6_film_21 26 (by decide) 24 rfl (fun c6 => ?_) (fun c6 => ?_)
      · replace hf := zf c6 hf
        refine v_aload_n h dX6_film_26 0 rfl 27 rfl ?_
        refine v_get h (v := .ref (ad 116)) dX6_film_27 iX6_film_X6 0 rfl rfl 5 (by decide) (zwi 1 rfl) rfl 30 rfl ?_
        refine v_iload_n h dX6_film_30 2 rfl 31 rfl ?_
        obtain ⟨g7, hf⟩ := zg hf
        rcases zix4 g7 with e8 | e8 | e8 | e8
        · try rw [e8] at hf
          refine v_aald h dX6_film_31 116 4 rfl rfl (zix_in g7) (b := (ad 117)) (by rw [e8] <;> rfl) 32 rfl ?_
          refine v_iload_n h dX6_film_32 3 rfl 33 rfl ?_
          refine v_iload h dX6_film_33 4 rfl 35 rfl ?_
          refine v_iload_n h dX6_film_35 1 rfl 36 rfl ?_
          obtain ⟨u9, hu9, hf⟩ := zb hf
          refine v_callVi h (rest := []) dX6_film_36 (tX3_refuse l G ca (fun i => ad (117 + i)) (v.2.2.2.2.2.1 0) x3 x4 x1 hu9) gX6_film_X3_refuse rfl rfl ⟨rfl, rfl⟩ nX3_refuse ⟨Nat.le_of_ble_eq_true rfl, Nat.le_of_ble_eq_true rfl⟩ [117, 118] rfl rfl 0 rfl rfl rfl rfl (Nat.le_of_ble_eq_true rfl) ⟨Nat.zero_le _, Nat.zero_le _⟩ rfl (wX ca ad v) rfl (wX_adr _ _ _ _) 39 rfl ?_
          refine v_istore h dX6_film_39 (Nat.le_of_ble_eq_true rfl) rfl rfl [(0, .ref (ad 0)), (1, .int x1), (2, .int x2), (3, .int x3), (4, .int x4), (5, .int u9)] rfl 41 rfl ?_
          refine v_iload h dX6_film_41 5 rfl 43 rfl ?_
          refine v_if_ge h dX6_film_43 49 (by decide) 46 rfl (fun c10 => ?_) (fun c10 => ?_)
          · replace hf := zt c10 hf
            refine v_aload_n h dX6_film_49 0 rfl 50 rfl ?_
            obtain ⟨u11, hu11, hf⟩ := zb hf
            refine v_wcallVv h (rest := []) dX6_film_50 (tX6_startTrial l G ca ad v  hu11) gX6_film_X6_startTrial rfl rfl ⟨rfl, rfl⟩ nX6_startTrial ⟨Nat.le_of_ble_eq_true rfl, Nat.le_of_ble_eq_true rfl⟩ 0 rfl rfl rfl rfl (Nat.le_of_ble_eq_true rfl) ⟨Nat.zero_le _, Nat.zero_le _⟩ (wX_adr _ _ _ _) 53 rfl ?_
            refine v_iconst h dX6_film_53 0 rfl 54 rfl ?_
            refine v_istore h dX6_film_54 (Nat.le_of_ble_eq_true rfl) rfl rfl [(0, .ref (ad 0)), (1, .int x1), (2, .int x2), (3, .int x3), (4, .int x4), (5, .int u9), (6, .int 0)] rfl 56 rfl ?_
            obtain ⟨u12, hu12, hf⟩ := zb hf
            refine v_sub [0, 1, 2, 4, 6] rfl ?_
            refine tX6_film_l56 h zF (v.1, v.2.1, u11, v.2.2.2) x1 x2 x4 0 u11 v.2.2.2.2.2.1 _ hu12 ?_
            refine v_iload_n h dX6_film_87 0 rfl 88 rfl ?_
            cases (Option.some.inj hf)
            exact hE 88 _ rfl dX6_film_88
          · replace hf := zf c10 hf
            refine v_iload h dX6_film_46 5 rfl 48 rfl ?_
            cases (Option.some.inj hf)
            exact hE 48 _ rfl dX6_film_48
        · try rw [e8] at hf
          refine v_aald h dX6_film_31 116 4 rfl rfl (zix_in g7) (b := (ad 119)) (by rw [e8] <;> rfl) 32 rfl ?_
          refine v_iload_n h dX6_film_32 3 rfl 33 rfl ?_
          refine v_iload h dX6_film_33 4 rfl 35 rfl ?_
          refine v_iload_n h dX6_film_35 1 rfl 36 rfl ?_
          obtain ⟨u9, hu9, hf⟩ := zb hf
          refine v_callVi h (rest := []) dX6_film_36 (tX3_refuse l G ca (fun i => ad (119 + i)) (v.2.2.2.2.2.1 1) x3 x4 x1 hu9) gX6_film_X3_refuse rfl rfl ⟨rfl, rfl⟩ nX3_refuse ⟨Nat.le_of_ble_eq_true rfl, Nat.le_of_ble_eq_true rfl⟩ [119, 120] rfl rfl 0 rfl rfl rfl rfl (Nat.le_of_ble_eq_true rfl) ⟨Nat.zero_le _, Nat.zero_le _⟩ rfl (wX ca ad v) rfl (wX_adr _ _ _ _) 39 rfl ?_
          refine v_istore h dX6_film_39 (Nat.le_of_ble_eq_true rfl) rfl rfl [(0, .ref (ad 0)), (1, .int x1), (2, .int x2), (3, .int x3), (4, .int x4), (5, .int u9)] rfl 41 rfl ?_
          refine v_iload h dX6_film_41 5 rfl 43 rfl ?_
          refine v_if_ge h dX6_film_43 49 (by decide) 46 rfl (fun c10 => ?_) (fun c10 => ?_)
          · replace hf := zt c10 hf
            refine v_aload_n h dX6_film_49 0 rfl 50 rfl ?_
            obtain ⟨u11, hu11, hf⟩ := zb hf
            refine v_wcallVv h (rest := []) dX6_film_50 (tX6_startTrial l G ca ad v  hu11) gX6_film_X6_startTrial rfl rfl ⟨rfl, rfl⟩ nX6_startTrial ⟨Nat.le_of_ble_eq_true rfl, Nat.le_of_ble_eq_true rfl⟩ 0 rfl rfl rfl rfl (Nat.le_of_ble_eq_true rfl) ⟨Nat.zero_le _, Nat.zero_le _⟩ (wX_adr _ _ _ _) 53 rfl ?_
            refine v_iconst h dX6_film_53 0 rfl 54 rfl ?_
            refine v_istore h dX6_film_54 (Nat.le_of_ble_eq_true rfl) rfl rfl [(0, .ref (ad 0)), (1, .int x1), (2, .int x2), (3, .int x3), (4, .int x4), (5, .int u9), (6, .int 0)] rfl 56 rfl ?_
            obtain ⟨u12, hu12, hf⟩ := zb hf
            refine v_sub [0, 1, 2, 4, 6] rfl ?_
            refine tX6_film_l56 h zF (v.1, v.2.1, u11, v.2.2.2) x1 x2 x4 0 u11 v.2.2.2.2.2.1 _ hu12 ?_
            refine v_iload_n h dX6_film_87 0 rfl 88 rfl ?_
            cases (Option.some.inj hf)
            exact hE 88 _ rfl dX6_film_88
          · replace hf := zf c10 hf
            refine v_iload h dX6_film_46 5 rfl 48 rfl ?_
            cases (Option.some.inj hf)
            exact hE 48 _ rfl dX6_film_48
        · try rw [e8] at hf
          refine v_aald h dX6_film_31 116 4 rfl rfl (zix_in g7) (b := (ad 121)) (by rw [e8] <;> rfl) 32 rfl ?_
          refine v_iload_n h dX6_film_32 3 rfl 33 rfl ?_
          refine v_iload h dX6_film_33 4 rfl 35 rfl ?_
          refine v_iload_n h dX6_film_35 1 rfl 36 rfl ?_
          obtain ⟨u9, hu9, hf⟩ := zb hf
          refine v_callVi h (rest := []) dX6_film_36 (tX3_refuse l G ca (fun i => ad (121 + i)) (v.2.2.2.2.2.1 2) x3 x4 x1 hu9) gX6_film_X3_refuse rfl rfl ⟨rfl, rfl⟩ nX3_refuse ⟨Nat.le_of_ble_eq_true rfl, Nat.le_of_ble_eq_true rfl⟩ [121, 122] rfl rfl 0 rfl rfl rfl rfl (Nat.le_of_ble_eq_true rfl) ⟨Nat.zero_le _, Nat.zero_le _⟩ rfl (wX ca ad v) rfl (wX_adr _ _ _ _) 39 rfl ?_
          refine v_istore h dX6_film_39 (Nat.le_of_ble_eq_true rfl) rfl rfl [(0, .ref (ad 0)), (1, .int x1), (2, .int x2), (3, .int x3), (4, .int x4), (5, .int u9)] rfl 41 rfl ?_
          refine v_iload h dX6_film_41 5 rfl 43 rfl ?_
          refine v_if_ge h dX6_film_43 49 (by decide) 46 rfl (fun c10 => ?_) (fun c10 => ?_)
          · replace hf := zt c10 hf
            refine v_aload_n h dX6_film_49 0 rfl 50 rfl ?_
            obtain ⟨u11, hu11, hf⟩ := zb hf
            refine v_wcallVv h (rest := []) dX6_film_50 (tX6_startTrial l G ca ad v  hu11) gX6_film_X6_startTrial rfl rfl ⟨rfl, rfl⟩ nX6_startTrial ⟨Nat.le_of_ble_eq_true rfl, Nat.le_of_ble_eq_true rfl⟩ 0 rfl rfl rfl rfl (Nat.le_of_ble_eq_true rfl) ⟨Nat.zero_le _, Nat.zero_le _⟩ (wX_adr _ _ _ _) 53 rfl ?_
            refine v_iconst h dX6_film_53 0 rfl 54 rfl ?_
            refine v_istore h dX6_film_54 (Nat.le_of_ble_eq_true rfl) rfl rfl [(0, .ref (ad 0)), (1, .int x1), (2, .int x2), (3, .int x3), (4, .int x4), (5, .int u9), (6, .int 0)] rfl 56 rfl ?_
            obtain ⟨u12, hu12, hf⟩ := zb hf
            refine v_sub [0, 1, 2, 4, 6] rfl ?_
            refine tX6_film_l56 h zF (v.1, v.2.1, u11, v.2.2.2) x1 x2 x4 0 u11 v.2.2.2.2.2.1 _ hu12 ?_
            refine v_iload_n h dX6_film_87 0 rfl 88 rfl ?_
            cases (Option.some.inj hf)
            exact hE 88 _ rfl dX6_film_88
          · replace hf := zf c10 hf
            refine v_iload h dX6_film_46 5 rfl 48 rfl ?_
            cases (Option.some.inj hf)
            exact hE 48 _ rfl dX6_film_48
        · try rw [e8] at hf
          refine v_aald h dX6_film_31 116 4 rfl rfl (zix_in g7) (b := (ad 123)) (by rw [e8] <;> rfl) 32 rfl ?_
          refine v_iload_n h dX6_film_32 3 rfl 33 rfl ?_
          refine v_iload h dX6_film_33 4 rfl 35 rfl ?_
          refine v_iload_n h dX6_film_35 1 rfl 36 rfl ?_
          obtain ⟨u9, hu9, hf⟩ := zb hf
          refine v_callVi h (rest := []) dX6_film_36 (tX3_refuse l G ca (fun i => ad (123 + i)) (v.2.2.2.2.2.1 3) x3 x4 x1 hu9) gX6_film_X3_refuse rfl rfl ⟨rfl, rfl⟩ nX3_refuse ⟨Nat.le_of_ble_eq_true rfl, Nat.le_of_ble_eq_true rfl⟩ [123, 124] rfl rfl 0 rfl rfl rfl rfl (Nat.le_of_ble_eq_true rfl) ⟨Nat.zero_le _, Nat.zero_le _⟩ rfl (wX ca ad v) rfl (wX_adr _ _ _ _) 39 rfl ?_
          refine v_istore h dX6_film_39 (Nat.le_of_ble_eq_true rfl) rfl rfl [(0, .ref (ad 0)), (1, .int x1), (2, .int x2), (3, .int x3), (4, .int x4), (5, .int u9)] rfl 41 rfl ?_
          refine v_iload h dX6_film_41 5 rfl 43 rfl ?_
          refine v_if_ge h dX6_film_43 49 (by decide) 46 rfl (fun c10 => ?_) (fun c10 => ?_)
          · replace hf := zt c10 hf
            refine v_aload_n h dX6_film_49 0 rfl 50 rfl ?_
            obtain ⟨u11, hu11, hf⟩ := zb hf
            refine v_wcallVv h (rest := []) dX6_film_50 (tX6_startTrial l G ca ad v  hu11) gX6_film_X6_startTrial rfl rfl ⟨rfl, rfl⟩ nX6_startTrial ⟨Nat.le_of_ble_eq_true rfl, Nat.le_of_ble_eq_true rfl⟩ 0 rfl rfl rfl rfl (Nat.le_of_ble_eq_true rfl) ⟨Nat.zero_le _, Nat.zero_le _⟩ (wX_adr _ _ _ _) 53 rfl ?_
            refine v_iconst h dX6_film_53 0 rfl 54 rfl ?_
            refine v_istore h dX6_film_54 (Nat.le_of_ble_eq_true rfl) rfl rfl [(0, .ref (ad 0)), (1, .int x1), (2, .int x2), (3, .int x3), (4, .int x4), (5, .int u9), (6, .int 0)] rfl 56 rfl ?_
            obtain ⟨u12, hu12, hf⟩ := zb hf
            refine v_sub [0, 1, 2, 4, 6] rfl ?_
            refine tX6_film_l56 h zF (v.1, v.2.1, u11, v.2.2.2) x1 x2 x4 0 u11 v.2.2.2.2.2.1 _ hu12 ?_
            refine v_iload_n h dX6_film_87 0 rfl 88 rfl ?_
            cases (Option.some.inj hf)
            exact hE 88 _ rfl dX6_film_88
          · replace hf := zf c10 hf
            refine v_iload h dX6_film_46 5 rfl 48 rfl ?_
            cases (Option.some.inj hf)
            exact hE 48 _ rfl dX6_film_48
      · replace hf := zt c6 hf
        refine v_iconst h dX6_film_24 (-1) rfl 25 rfl ?_
        cases (Option.some.inj hf)
        exact hE 25 _ rfl dX6_film_25
abbrev rX6_sheet : Room := { frames := 2, cells := 0, slots := 0, locals := 42 }
theorem nX6_sheet : zNoMH yX6_sheet 3 := ⟨by decide +kernel, by decide +kernel, by decide +kernel⟩
theorem iX6_sheet_X6 : ∀ w ∈ wsX60, w ∈ wsX6_sheet := fun _ h => (List.mem_cons_of_mem _ (List.mem_append_left _ (List.mem_append_right _ h)))
theorem iX6_sheet_X3 : ∀ w ∈ wsX30, w ∈ wsX6_sheet := fun _ h => (List.mem_cons_of_mem _ (List.mem_append_right _ h))
def fX6_sheet (v : XV) (x1 : Int32) (x2 : Int32) (x3 : Int32) : Option (Int32 × (Nat → SV)) := ((fX6_isSheet x1) : Option Int32).bind (fun u1 => if u1 = 0 then (some ((-1), v.2.2.2.2.2.1)) else (((fX6_isLane x2) : Option Int32).bind (fun u3 => if u3 = 0 then (some ((-1), v.2.2.2.2.2.1)) else (if x3 ≤ 24 then (if 0 ≤ x3 then (zgrd (zix x1 4) (((fX3_begin (v.2.2.2.2.2.1 x1.toNatClampNeg) x2 x3) : Option SV).bind (fun u9 => some (x3, (va_up v.2.2.2.2.2.1 (x1.toNatClampNeg) u9))))) else (some ((-14), v.2.2.2.2.2.1))) else (some ((-1), v.2.2.2.2.2.1))))))
set_option maxRecDepth 100000 in
set_option maxHeartbeats 4000000 in
theorem tX6_sheet (l : Launch) (G : va_G) (ca : Nat → ClassId) (ad : Nat → Nat) (v : XV) (x1 : Int32) (x2 : Int32) (x3 : Int32) {o : (Int32 × (Nat → SV))} (hf : fX6_sheet v x1 x2 x3 = some o) : zMi l yX6_sheet wsX6_sheet rX6_sheet G ca [.ref (ad 0), .int x1, .int x2, .int x3] (wX ca ad v) o.1 (wX ca ad (v.1, v.2.1, v.2.2.1, v.2.2.2.1, v.2.2.2.2.1, o.2, v.2.2.2.2.2.2)) := by
  refine zMi.of (cc := cX6_sheet) (nL := 4) (own := RX6) (ty := .int) (by decide) rfl rfl (Nat.le_of_ble_eq_true rfl) (fun X h hE => ?_)
  show V X G 4 0 0 (wX ca ad v) 0 [(0, .ref (ad 0)), (1, .int x1), (2, .int x2), (3, .int x3)] []
  unfold fX6_sheet at hf
  refine v_iload_n h dX6_sheet_0 1 rfl 1 rfl ?_
  obtain ⟨u1, hu1, hf⟩ := zb hf
  refine v_callSi h (rest := []) dX6_sheet_1 (tX6_isSheet l G ca   x1 hu1) gX6_sheet_X6_isSheet rfl ⟨rfl, rfl⟩ nX6_isSheet ⟨Nat.le_of_ble_eq_true rfl, Nat.le_of_ble_eq_true rfl⟩ [] rfl rfl rfl rfl (Nat.le_of_ble_eq_true rfl) ⟨Nat.zero_le _, Nat.zero_le _⟩ rfl (wX ca ad v) rfl (wX_adr _ _ _ _) 4 rfl ?_
  refine v_if_eq h dX6_sheet_4 20 (by decide) 7 rfl (fun c2 => ?_) (fun c2 => ?_)
  · replace hf := zt c2 hf
    refine v_iconst h dX6_sheet_20 (-1) rfl 21 rfl ?_
    cases (Option.some.inj hf)
    exact hE 21 _ rfl dX6_sheet_21
  · replace hf := zf c2 hf
    refine v_iload_n h dX6_sheet_7 2 rfl 8 rfl ?_
    obtain ⟨u3, hu3, hf⟩ := zb hf
    refine v_callSi h (rest := []) dX6_sheet_8 (tX6_isLane l G ca   x2 hu3) gX6_sheet_X6_isLane rfl ⟨rfl, rfl⟩ nX6_isLane ⟨Nat.le_of_ble_eq_true rfl, Nat.le_of_ble_eq_true rfl⟩ [] rfl rfl rfl rfl (Nat.le_of_ble_eq_true rfl) ⟨Nat.zero_le _, Nat.zero_le _⟩ rfl (wX ca ad v) rfl (wX_adr _ _ _ _) 11 rfl ?_
    refine v_if_eq h dX6_sheet_11 20 (by decide) 14 rfl (fun c4 => ?_) (fun c4 => ?_)
    · replace hf := zt c4 hf
      refine v_iconst h dX6_sheet_20 (-1) rfl 21 rfl ?_
      cases (Option.some.inj hf)
      exact hE 21 _ rfl dX6_sheet_21
    · replace hf := zf c4 hf
      refine v_iload_n h dX6_sheet_14 3 rfl 15 rfl ?_
      refine v_bipush h dX6_sheet_15 24 rfl 17 rfl ?_
      refine v_icmp_le h dX6_sheet_17 22 (by decide) 20 rfl (fun c5 => ?_) (fun c5 => ?_)
      · replace hf := zt c5 hf
        refine v_iload_n h dX6_sheet_22 3 rfl 23 rfl ?_
        refine v_if_ge h dX6_sheet_23 29 (by decide) 26 rfl (fun c6 => ?_) (fun c6 => ?_)
        · replace hf := zt c6 hf
          refine v_aload_n h dX6_sheet_29 0 rfl 30 rfl ?_
          refine v_get h (v := .ref (ad 116)) dX6_sheet_30 iX6_sheet_X6 0 rfl rfl 5 (by decide) (zwi 1 rfl) rfl 33 rfl ?_
          refine v_iload_n h dX6_sheet_33 1 rfl 34 rfl ?_
          obtain ⟨g7, hf⟩ := zg hf
          rcases zix4 g7 with e8 | e8 | e8 | e8
          · try rw [e8] at hf
            refine v_aald h dX6_sheet_34 116 4 rfl rfl (zix_in g7) (b := (ad 117)) (by rw [e8] <;> rfl) 35 rfl ?_
            refine v_iload_n h dX6_sheet_35 2 rfl 36 rfl ?_
            refine v_iload_n h dX6_sheet_36 3 rfl 37 rfl ?_
            obtain ⟨u9, hu9, hf⟩ := zb hf
            refine v_callVv h (rest := []) dX6_sheet_37 (tX3_begin l G ca (fun i => ad (117 + i)) (v.2.2.2.2.2.1 0) x2 x3 hu9) gX6_sheet_X3_begin rfl rfl ⟨rfl, rfl⟩ nX3_begin ⟨Nat.le_of_ble_eq_true rfl, Nat.le_of_ble_eq_true rfl⟩ [117, 118] rfl rfl 0 rfl rfl rfl rfl (Nat.le_of_ble_eq_true rfl) ⟨Nat.zero_le _, Nat.zero_le _⟩ rfl (wX ca ad (v.1, v.2.1, v.2.2.1, v.2.2.2.1, v.2.2.2.2.1, (va_up v.2.2.2.2.2.1 0 u9), v.2.2.2.2.2.2)) rfl (wX_adr _ _ _ _) 40 rfl ?_
            refine v_iload_n h dX6_sheet_40 3 rfl 41 rfl ?_
            cases (Option.some.inj hf)
            exact hE 41 _ rfl dX6_sheet_41
          · try rw [e8] at hf
            refine v_aald h dX6_sheet_34 116 4 rfl rfl (zix_in g7) (b := (ad 119)) (by rw [e8] <;> rfl) 35 rfl ?_
            refine v_iload_n h dX6_sheet_35 2 rfl 36 rfl ?_
            refine v_iload_n h dX6_sheet_36 3 rfl 37 rfl ?_
            obtain ⟨u9, hu9, hf⟩ := zb hf
            refine v_callVv h (rest := []) dX6_sheet_37 (tX3_begin l G ca (fun i => ad (119 + i)) (v.2.2.2.2.2.1 1) x2 x3 hu9) gX6_sheet_X3_begin rfl rfl ⟨rfl, rfl⟩ nX3_begin ⟨Nat.le_of_ble_eq_true rfl, Nat.le_of_ble_eq_true rfl⟩ [119, 120] rfl rfl 0 rfl rfl rfl rfl (Nat.le_of_ble_eq_true rfl) ⟨Nat.zero_le _, Nat.zero_le _⟩ rfl (wX ca ad (v.1, v.2.1, v.2.2.1, v.2.2.2.1, v.2.2.2.2.1, (va_up v.2.2.2.2.2.1 1 u9), v.2.2.2.2.2.2)) rfl (wX_adr _ _ _ _) 40 rfl ?_
            refine v_iload_n h dX6_sheet_40 3 rfl 41 rfl ?_
            cases (Option.some.inj hf)
            exact hE 41 _ rfl dX6_sheet_41
          · try rw [e8] at hf
            refine v_aald h dX6_sheet_34 116 4 rfl rfl (zix_in g7) (b := (ad 121)) (by rw [e8] <;> rfl) 35 rfl ?_
            refine v_iload_n h dX6_sheet_35 2 rfl 36 rfl ?_
            refine v_iload_n h dX6_sheet_36 3 rfl 37 rfl ?_
            obtain ⟨u9, hu9, hf⟩ := zb hf
            refine v_callVv h (rest := []) dX6_sheet_37 (tX3_begin l G ca (fun i => ad (121 + i)) (v.2.2.2.2.2.1 2) x2 x3 hu9) gX6_sheet_X3_begin rfl rfl ⟨rfl, rfl⟩ nX3_begin ⟨Nat.le_of_ble_eq_true rfl, Nat.le_of_ble_eq_true rfl⟩ [121, 122] rfl rfl 0 rfl rfl rfl rfl (Nat.le_of_ble_eq_true rfl) ⟨Nat.zero_le _, Nat.zero_le _⟩ rfl (wX ca ad (v.1, v.2.1, v.2.2.1, v.2.2.2.1, v.2.2.2.2.1, (va_up v.2.2.2.2.2.1 2 u9), v.2.2.2.2.2.2)) rfl (wX_adr _ _ _ _) 40 rfl ?_
            refine v_iload_n h dX6_sheet_40 3 rfl 41 rfl ?_
            cases (Option.some.inj hf)
            exact hE 41 _ rfl dX6_sheet_41
          · try rw [e8] at hf
            refine v_aald h dX6_sheet_34 116 4 rfl rfl (zix_in g7) (b := (ad 123)) (by rw [e8] <;> rfl) 35 rfl ?_
            refine v_iload_n h dX6_sheet_35 2 rfl 36 rfl ?_
            refine v_iload_n h dX6_sheet_36 3 rfl 37 rfl ?_
            obtain ⟨u9, hu9, hf⟩ := zb hf
            refine v_callVv h (rest := []) dX6_sheet_37 (tX3_begin l G ca (fun i => ad (123 + i)) (v.2.2.2.2.2.1 3) x2 x3 hu9) gX6_sheet_X3_begin rfl rfl ⟨rfl, rfl⟩ nX3_begin ⟨Nat.le_of_ble_eq_true rfl, Nat.le_of_ble_eq_true rfl⟩ [123, 124] rfl rfl 0 rfl rfl rfl rfl (Nat.le_of_ble_eq_true rfl) ⟨Nat.zero_le _, Nat.zero_le _⟩ rfl (wX ca ad (v.1, v.2.1, v.2.2.1, v.2.2.2.1, v.2.2.2.2.1, (va_up v.2.2.2.2.2.1 3 u9), v.2.2.2.2.2.2)) rfl (wX_adr _ _ _ _) 40 rfl ?_
            refine v_iload_n h dX6_sheet_40 3 rfl 41 rfl ?_
            cases (Option.some.inj hf)
            exact hE 41 _ rfl dX6_sheet_41
        · replace hf := zf c6 hf
          refine v_bipush h dX6_sheet_26 (-14) rfl 28 rfl ?_
          cases (Option.some.inj hf)
          exact hE 28 _ rfl dX6_sheet_28
      · replace hf := zf c5 hf
        refine v_iconst h dX6_sheet_20 (-1) rfl 21 rfl ?_
        cases (Option.some.inj hf)
        exact hE 21 _ rfl dX6_sheet_21
abbrev rX6_drop : Room := { frames := 2, cells := 0, slots := 0, locals := 42 }
theorem nX6_drop : zNoMH yX6_drop 1 := ⟨by decide +kernel, by decide +kernel, by decide +kernel⟩
theorem iX6_drop_X6 : ∀ w ∈ wsX60, w ∈ wsX6_drop := fun _ h => (List.mem_cons_of_mem _ (List.mem_append_left _ (List.mem_append_right _ h)))
theorem iX6_drop_X3 : ∀ w ∈ wsX30, w ∈ wsX6_drop := fun _ h => (List.mem_cons_of_mem _ (List.mem_append_right _ h))
def fX6_drop (v : XV) (x1 : Int32) : Option (Int32 × (Nat → SV)) := ((fX6_isSheet x1) : Option Int32).bind (fun u1 => if u1 = 0 then (some ((-1), v.2.2.2.2.2.1)) else (zgrd (zix x1 4) (if (v.2.2.2.2.2.1 x1.toNatClampNeg).2.1 = 0 then (some ((-11), v.2.2.2.2.2.1)) else (some ((v.2.2.2.2.2.1 x1.toNatClampNeg).2.2.2, (va_up v.2.2.2.2.2.1 (x1.toNatClampNeg) ((v.2.2.2.2.2.1 x1.toNatClampNeg).1, 0, (v.2.2.2.2.2.1 x1.toNatClampNeg).2.2)))))))
set_option maxRecDepth 100000 in
set_option maxHeartbeats 4000000 in
theorem tX6_drop (l : Launch) (G : va_G) (ca : Nat → ClassId) (ad : Nat → Nat) (v : XV) (x1 : Int32) {o : (Int32 × (Nat → SV))} (hf : fX6_drop v x1 = some o) : zMi l yX6_drop wsX6_drop rX6_drop G ca [.ref (ad 0), .int x1] (wX ca ad v) o.1 (wX ca ad (v.1, v.2.1, v.2.2.1, v.2.2.2.1, v.2.2.2.2.1, o.2, v.2.2.2.2.2.2)) := by
  refine zMi.of (cc := cX6_drop) (nL := 2) (own := RX6) (ty := .int) (by decide) rfl rfl (Nat.le_of_ble_eq_true rfl) (fun X h hE => ?_)
  show V X G 2 0 0 (wX ca ad v) 0 [(0, .ref (ad 0)), (1, .int x1)] []
  unfold fX6_drop at hf
  refine v_iload_n h dX6_drop_0 1 rfl 1 rfl ?_
  obtain ⟨u1, hu1, hf⟩ := zb hf
  refine v_callSi h (rest := []) dX6_drop_1 (tX6_isSheet l G ca   x1 hu1) gX6_drop_X6_isSheet rfl ⟨rfl, rfl⟩ nX6_isSheet ⟨Nat.le_of_ble_eq_true rfl, Nat.le_of_ble_eq_true rfl⟩ [] rfl rfl rfl rfl (Nat.le_of_ble_eq_true rfl) ⟨Nat.zero_le _, Nat.zero_le _⟩ rfl (wX ca ad v) rfl (wX_adr _ _ _ _) 4 rfl ?_
  refine v_if_ne h dX6_drop_4 9 (by decide) 7 rfl (fun c2 => ?_) (fun c2 => ?_)
  · replace hf := zf c2 hf
    refine v_aload_n h dX6_drop_9 0 rfl 10 rfl ?_
    refine v_get h (v := .ref (ad 116)) dX6_drop_10 iX6_drop_X6 0 rfl rfl 5 (by decide) (zwi 1 rfl) rfl 13 rfl ?_
    refine v_iload_n h dX6_drop_13 1 rfl 14 rfl ?_
    obtain ⟨g3, hf⟩ := zg hf
    rcases zix4 g3 with e4 | e4 | e4 | e4
    · try rw [e4] at hf
      refine v_aald h dX6_drop_14 116 4 rfl rfl (zix_in g3) (b := (ad 117)) (by rw [e4] <;> rfl) 15 rfl ?_
      refine v_get h (v := .int (v.2.2.2.2.2.1 0).2.1) dX6_drop_15 iX6_drop_X3 117 rfl rfl 1 (by decide) (zwi 2 rfl) rfl 18 rfl ?_
      refine v_if_ne h dX6_drop_18 24 (by decide) 21 rfl (fun c5 => ?_) (fun c5 => ?_)
      · replace hf := zf c5 hf
        refine v_aload_n h dX6_drop_24 0 rfl 25 rfl ?_
        refine v_get h (v := .ref (ad 116)) dX6_drop_25 iX6_drop_X6 0 rfl rfl 5 (by decide) (zwi 1 rfl) rfl 28 rfl ?_
        refine v_iload_n h dX6_drop_28 1 rfl 29 rfl ?_
        refine v_aald h dX6_drop_29 116 4 rfl rfl (zix_in g3) (b := (ad 117)) (by rw [e4] <;> rfl) 30 rfl ?_
        refine v_iconst h dX6_drop_30 0 rfl 31 rfl ?_
        refine v_put h dX6_drop_31 iX6_drop_X3 tyX3 tyX3_ok nmX3 117 rfl rfl 1 (by decide) (zwi 2 rfl) rfl rfl rfl (Nat.le_of_ble_eq_true rfl) (wX ca ad (v.1, v.2.1, v.2.2.1, v.2.2.2.1, v.2.2.2.2.1, (va_up v.2.2.2.2.2.1 0 ((v.2.2.2.2.2.1 0).1, 0, (v.2.2.2.2.2.1 0).2.2)), v.2.2.2.2.2.2)) rfl 34 rfl ?_
        refine v_aload_n h dX6_drop_34 0 rfl 35 rfl ?_
        refine v_get h (v := .ref (ad 116)) dX6_drop_35 iX6_drop_X6 0 rfl rfl 5 (by decide) (zwi 1 rfl) rfl 38 rfl ?_
        refine v_iload_n h dX6_drop_38 1 rfl 39 rfl ?_
        refine v_aald h dX6_drop_39 116 4 rfl rfl (zix_in g3) (b := (ad 117)) (by rw [e4] <;> rfl) 40 rfl ?_
        refine v_get h (v := .int (v.2.2.2.2.2.1 0).2.2.2) dX6_drop_40 iX6_drop_X3 117 rfl rfl 3 (by decide) (zwi 3 rfl) rfl 43 rfl ?_
        cases (Option.some.inj hf)
        exact hE 43 _ rfl dX6_drop_43
      · replace hf := zt c5 hf
        refine v_bipush h dX6_drop_21 (-11) rfl 23 rfl ?_
        cases (Option.some.inj hf)
        exact hE 23 _ rfl dX6_drop_23
    · try rw [e4] at hf
      refine v_aald h dX6_drop_14 116 4 rfl rfl (zix_in g3) (b := (ad 119)) (by rw [e4] <;> rfl) 15 rfl ?_
      refine v_get h (v := .int (v.2.2.2.2.2.1 1).2.1) dX6_drop_15 iX6_drop_X3 119 rfl rfl 1 (by decide) (zwi 2 rfl) rfl 18 rfl ?_
      refine v_if_ne h dX6_drop_18 24 (by decide) 21 rfl (fun c5 => ?_) (fun c5 => ?_)
      · replace hf := zf c5 hf
        refine v_aload_n h dX6_drop_24 0 rfl 25 rfl ?_
        refine v_get h (v := .ref (ad 116)) dX6_drop_25 iX6_drop_X6 0 rfl rfl 5 (by decide) (zwi 1 rfl) rfl 28 rfl ?_
        refine v_iload_n h dX6_drop_28 1 rfl 29 rfl ?_
        refine v_aald h dX6_drop_29 116 4 rfl rfl (zix_in g3) (b := (ad 119)) (by rw [e4] <;> rfl) 30 rfl ?_
        refine v_iconst h dX6_drop_30 0 rfl 31 rfl ?_
        refine v_put h dX6_drop_31 iX6_drop_X3 tyX3 tyX3_ok nmX3 119 rfl rfl 1 (by decide) (zwi 2 rfl) rfl rfl rfl (Nat.le_of_ble_eq_true rfl) (wX ca ad (v.1, v.2.1, v.2.2.1, v.2.2.2.1, v.2.2.2.2.1, (va_up v.2.2.2.2.2.1 1 ((v.2.2.2.2.2.1 1).1, 0, (v.2.2.2.2.2.1 1).2.2)), v.2.2.2.2.2.2)) rfl 34 rfl ?_
        refine v_aload_n h dX6_drop_34 0 rfl 35 rfl ?_
        refine v_get h (v := .ref (ad 116)) dX6_drop_35 iX6_drop_X6 0 rfl rfl 5 (by decide) (zwi 1 rfl) rfl 38 rfl ?_
        refine v_iload_n h dX6_drop_38 1 rfl 39 rfl ?_
        refine v_aald h dX6_drop_39 116 4 rfl rfl (zix_in g3) (b := (ad 119)) (by rw [e4] <;> rfl) 40 rfl ?_
        refine v_get h (v := .int (v.2.2.2.2.2.1 1).2.2.2) dX6_drop_40 iX6_drop_X3 119 rfl rfl 3 (by decide) (zwi 3 rfl) rfl 43 rfl ?_
        cases (Option.some.inj hf)
        exact hE 43 _ rfl dX6_drop_43
      · replace hf := zt c5 hf
        refine v_bipush h dX6_drop_21 (-11) rfl 23 rfl ?_
        cases (Option.some.inj hf)
        exact hE 23 _ rfl dX6_drop_23
    · try rw [e4] at hf
      refine v_aald h dX6_drop_14 116 4 rfl rfl (zix_in g3) (b := (ad 121)) (by rw [e4] <;> rfl) 15 rfl ?_
      refine v_get h (v := .int (v.2.2.2.2.2.1 2).2.1) dX6_drop_15 iX6_drop_X3 121 rfl rfl 1 (by decide) (zwi 2 rfl) rfl 18 rfl ?_
      refine v_if_ne h dX6_drop_18 24 (by decide) 21 rfl (fun c5 => ?_) (fun c5 => ?_)
      · replace hf := zf c5 hf
        refine v_aload_n h dX6_drop_24 0 rfl 25 rfl ?_
        refine v_get h (v := .ref (ad 116)) dX6_drop_25 iX6_drop_X6 0 rfl rfl 5 (by decide) (zwi 1 rfl) rfl 28 rfl ?_
        refine v_iload_n h dX6_drop_28 1 rfl 29 rfl ?_
        refine v_aald h dX6_drop_29 116 4 rfl rfl (zix_in g3) (b := (ad 121)) (by rw [e4] <;> rfl) 30 rfl ?_
        refine v_iconst h dX6_drop_30 0 rfl 31 rfl ?_
        refine v_put h dX6_drop_31 iX6_drop_X3 tyX3 tyX3_ok nmX3 121 rfl rfl 1 (by decide) (zwi 2 rfl) rfl rfl rfl (Nat.le_of_ble_eq_true rfl) (wX ca ad (v.1, v.2.1, v.2.2.1, v.2.2.2.1, v.2.2.2.2.1, (va_up v.2.2.2.2.2.1 2 ((v.2.2.2.2.2.1 2).1, 0, (v.2.2.2.2.2.1 2).2.2)), v.2.2.2.2.2.2)) rfl 34 rfl ?_
        refine v_aload_n h dX6_drop_34 0 rfl 35 rfl ?_
        refine v_get h (v := .ref (ad 116)) dX6_drop_35 iX6_drop_X6 0 rfl rfl 5 (by decide) (zwi 1 rfl) rfl 38 rfl ?_
        refine v_iload_n h dX6_drop_38 1 rfl 39 rfl ?_
        refine v_aald h dX6_drop_39 116 4 rfl rfl (zix_in g3) (b := (ad 121)) (by rw [e4] <;> rfl) 40 rfl ?_
        refine v_get h (v := .int (v.2.2.2.2.2.1 2).2.2.2) dX6_drop_40 iX6_drop_X3 121 rfl rfl 3 (by decide) (zwi 3 rfl) rfl 43 rfl ?_
        cases (Option.some.inj hf)
        exact hE 43 _ rfl dX6_drop_43
      · replace hf := zt c5 hf
        refine v_bipush h dX6_drop_21 (-11) rfl 23 rfl ?_
        cases (Option.some.inj hf)
        exact hE 23 _ rfl dX6_drop_23
    · try rw [e4] at hf
      refine v_aald h dX6_drop_14 116 4 rfl rfl (zix_in g3) (b := (ad 123)) (by rw [e4] <;> rfl) 15 rfl ?_
      refine v_get h (v := .int (v.2.2.2.2.2.1 3).2.1) dX6_drop_15 iX6_drop_X3 123 rfl rfl 1 (by decide) (zwi 2 rfl) rfl 18 rfl ?_
      refine v_if_ne h dX6_drop_18 24 (by decide) 21 rfl (fun c5 => ?_) (fun c5 => ?_)
      · replace hf := zf c5 hf
        refine v_aload_n h dX6_drop_24 0 rfl 25 rfl ?_
        refine v_get h (v := .ref (ad 116)) dX6_drop_25 iX6_drop_X6 0 rfl rfl 5 (by decide) (zwi 1 rfl) rfl 28 rfl ?_
        refine v_iload_n h dX6_drop_28 1 rfl 29 rfl ?_
        refine v_aald h dX6_drop_29 116 4 rfl rfl (zix_in g3) (b := (ad 123)) (by rw [e4] <;> rfl) 30 rfl ?_
        refine v_iconst h dX6_drop_30 0 rfl 31 rfl ?_
        refine v_put h dX6_drop_31 iX6_drop_X3 tyX3 tyX3_ok nmX3 123 rfl rfl 1 (by decide) (zwi 2 rfl) rfl rfl rfl (Nat.le_of_ble_eq_true rfl) (wX ca ad (v.1, v.2.1, v.2.2.1, v.2.2.2.1, v.2.2.2.2.1, (va_up v.2.2.2.2.2.1 3 ((v.2.2.2.2.2.1 3).1, 0, (v.2.2.2.2.2.1 3).2.2)), v.2.2.2.2.2.2)) rfl 34 rfl ?_
        refine v_aload_n h dX6_drop_34 0 rfl 35 rfl ?_
        refine v_get h (v := .ref (ad 116)) dX6_drop_35 iX6_drop_X6 0 rfl rfl 5 (by decide) (zwi 1 rfl) rfl 38 rfl ?_
        refine v_iload_n h dX6_drop_38 1 rfl 39 rfl ?_
        refine v_aald h dX6_drop_39 116 4 rfl rfl (zix_in g3) (b := (ad 123)) (by rw [e4] <;> rfl) 40 rfl ?_
        refine v_get h (v := .int (v.2.2.2.2.2.1 3).2.2.2) dX6_drop_40 iX6_drop_X3 123 rfl rfl 3 (by decide) (zwi 3 rfl) rfl 43 rfl ?_
        cases (Option.some.inj hf)
        exact hE 43 _ rfl dX6_drop_43
      · replace hf := zt c5 hf
        refine v_bipush h dX6_drop_21 (-11) rfl 23 rfl ?_
        cases (Option.some.inj hf)
        exact hE 23 _ rfl dX6_drop_23
  · replace hf := zt c2 hf
    refine v_iconst h dX6_drop_7 (-1) rfl 8 rfl ?_
    cases (Option.some.inj hf)
    exact hE 8 _ rfl dX6_drop_8
abbrev rX6_item : Room := { frames := 2, cells := 0, slots := 0, locals := 45 }
theorem nX6_item : zNoMH yX6_item 4 := ⟨by decide +kernel, by decide +kernel, by decide +kernel⟩
theorem iX6_item_X6 : ∀ w ∈ wsX60, w ∈ wsX6_item := fun _ h => (List.mem_cons_of_mem _ (List.mem_append_left _ (List.mem_append_right _ h)))
theorem iX6_item_X3 : ∀ w ∈ wsX30, w ∈ wsX6_item := fun _ h => (List.mem_cons_of_mem _ (List.mem_append_right _ h))
def fX6_item (v : XV) (x1 : Int32) (x2 : Int32) (x3 : Int32) (x4 : Int64) : Option (Int32 × (Nat → SV)) := ((fX6_isSheet x1) : Option Int32).bind (fun u1 => if u1 = 0 then (some ((-1), v.2.2.2.2.2.1)) else (((fX6_isLane x2) : Option Int32).bind (fun u3 => if u3 = 0 then (some ((-1), v.2.2.2.2.2.1)) else (zgrd (zix x1 4) (((fX3_refuse (v.2.2.2.2.2.1 x1.toNatClampNeg) x2 x3 1) : Option Int32).bind (fun u7 => if 0 ≤ u7 then (((fX3_put (v.2.2.2.2.2.1 x1.toNatClampNeg) x3 x4) : Option SV).bind (fun u9 => some (1, (va_up v.2.2.2.2.2.1 (x1.toNatClampNeg) u9)))) else (some (u7, v.2.2.2.2.2.1))))))))
set_option maxRecDepth 100000 in
set_option maxHeartbeats 4000000 in
theorem tX6_item (l : Launch) (G : va_G) (ca : Nat → ClassId) (ad : Nat → Nat) (v : XV) (x1 : Int32) (x2 : Int32) (x3 : Int32) (x4 : Int64) {o : (Int32 × (Nat → SV))} (hf : fX6_item v x1 x2 x3 x4 = some o) : zMi l yX6_item wsX6_item rX6_item G ca [.ref (ad 0), .int x1, .int x2, .int x3, .long x4] (wX ca ad v) o.1 (wX ca ad (v.1, v.2.1, v.2.2.1, v.2.2.2.1, v.2.2.2.2.1, o.2, v.2.2.2.2.2.2)) := by
  refine zMi.of (cc := cX6_item) (nL := 7) (own := RX6) (ty := .int) (by decide) rfl rfl (Nat.le_of_ble_eq_true rfl) (fun X h hE => ?_)
  show V X G 7 0 0 (wX ca ad v) 0 [(0, .ref (ad 0)), (1, .int x1), (2, .int x2), (3, .int x3), (4, .long x4)] []
  unfold fX6_item at hf
  refine v_iload_n h dX6_item_0 1 rfl 1 rfl ?_
  obtain ⟨u1, hu1, hf⟩ := zb hf
  refine v_callSi h (rest := []) dX6_item_1 (tX6_isSheet l G ca   x1 hu1) gX6_item_X6_isSheet rfl ⟨rfl, rfl⟩ nX6_isSheet ⟨Nat.le_of_ble_eq_true rfl, Nat.le_of_ble_eq_true rfl⟩ [] rfl rfl rfl rfl (Nat.le_of_ble_eq_true rfl) ⟨Nat.zero_le _, Nat.zero_le _⟩ rfl (wX ca ad v) rfl (wX_adr _ _ _ _) 4 rfl ?_
  refine v_if_eq h dX6_item_4 14 (by decide) 7 rfl (fun c2 => ?_) (fun c2 => ?_)
  · replace hf := zt c2 hf
    refine v_iconst h dX6_item_14 (-1) rfl 15 rfl ?_
    cases (Option.some.inj hf)
    exact hE 15 _ rfl dX6_item_15
  · replace hf := zf c2 hf
    refine v_iload_n h dX6_item_7 2 rfl 8 rfl ?_
    obtain ⟨u3, hu3, hf⟩ := zb hf
    refine v_callSi h (rest := []) dX6_item_8 (tX6_isLane l G ca   x2 hu3) gX6_item_X6_isLane rfl ⟨rfl, rfl⟩ nX6_isLane ⟨Nat.le_of_ble_eq_true rfl, Nat.le_of_ble_eq_true rfl⟩ [] rfl rfl rfl rfl (Nat.le_of_ble_eq_true rfl) ⟨Nat.zero_le _, Nat.zero_le _⟩ rfl (wX ca ad v) rfl (wX_adr _ _ _ _) 11 rfl ?_
    refine v_if_ne h dX6_item_11 16 (by decide) 14 rfl (fun c4 => ?_) (fun c4 => ?_)
    · replace hf := zf c4 hf
      refine v_aload_n h dX6_item_16 0 rfl 17 rfl ?_
      refine v_get h (v := .ref (ad 116)) dX6_item_17 iX6_item_X6 0 rfl rfl 5 (by decide) (zwi 1 rfl) rfl 20 rfl ?_
      refine v_iload_n h dX6_item_20 1 rfl 21 rfl ?_
      obtain ⟨g5, hf⟩ := zg hf
      rcases zix4 g5 with e6 | e6 | e6 | e6
      · try rw [e6] at hf
        refine v_aald h dX6_item_21 116 4 rfl rfl (zix_in g5) (b := (ad 117)) (by rw [e6] <;> rfl) 22 rfl ?_
        refine v_iload_n h dX6_item_22 2 rfl 23 rfl ?_
        refine v_iload_n h dX6_item_23 3 rfl 24 rfl ?_
        refine v_iconst h dX6_item_24 1 rfl 25 rfl ?_
        obtain ⟨u7, hu7, hf⟩ := zb hf
        refine v_callVi h (rest := []) dX6_item_25 (tX3_refuse l G ca (fun i => ad (117 + i)) (v.2.2.2.2.2.1 0) x2 x3 1 hu7) gX6_item_X3_refuse rfl rfl ⟨rfl, rfl⟩ nX3_refuse ⟨Nat.le_of_ble_eq_true rfl, Nat.le_of_ble_eq_true rfl⟩ [117, 118] rfl rfl 0 rfl rfl rfl rfl (Nat.le_of_ble_eq_true rfl) ⟨Nat.zero_le _, Nat.zero_le _⟩ rfl (wX ca ad v) rfl (wX_adr _ _ _ _) 28 rfl ?_
        refine v_istore h dX6_item_28 (Nat.le_of_ble_eq_true rfl) rfl rfl [(0, .ref (ad 0)), (1, .int x1), (2, .int x2), (3, .int x3), (4, .long x4), (6, .int u7)] rfl 30 rfl ?_
        refine v_iload h dX6_item_30 5 rfl 32 rfl ?_
        refine v_if_ge h dX6_item_32 38 (by decide) 35 rfl (fun c8 => ?_) (fun c8 => ?_)
        · replace hf := zt c8 hf
          refine v_aload_n h dX6_item_38 0 rfl 39 rfl ?_
          refine v_get h (v := .ref (ad 116)) dX6_item_39 iX6_item_X6 0 rfl rfl 5 (by decide) (zwi 1 rfl) rfl 42 rfl ?_
          refine v_iload_n h dX6_item_42 1 rfl 43 rfl ?_
          refine v_aald h dX6_item_43 116 4 rfl rfl (zix_in g5) (b := (ad 117)) (by rw [e6] <;> rfl) 44 rfl ?_
          refine v_iload_n h dX6_item_44 3 rfl 45 rfl ?_
          refine v_lload h dX6_item_45 4 rfl 47 rfl ?_
          obtain ⟨u9, hu9, hf⟩ := zb hf
          refine v_callVv h (rest := []) dX6_item_47 (tX3_put l G ca (fun i => ad (117 + i)) (v.2.2.2.2.2.1 0) x3 x4 hu9) gX6_item_X3_put rfl rfl ⟨rfl, rfl⟩ nX3_put ⟨Nat.le_of_ble_eq_true rfl, Nat.le_of_ble_eq_true rfl⟩ [117, 118] rfl rfl 0 rfl rfl rfl rfl (Nat.le_of_ble_eq_true rfl) ⟨Nat.zero_le _, Nat.zero_le _⟩ rfl (wX ca ad (v.1, v.2.1, v.2.2.1, v.2.2.2.1, v.2.2.2.2.1, (va_up v.2.2.2.2.2.1 0 u9), v.2.2.2.2.2.2)) rfl (wX_adr _ _ _ _) 50 rfl ?_
          refine v_iconst h dX6_item_50 1 rfl 51 rfl ?_
          cases (Option.some.inj hf)
          exact hE 51 _ rfl dX6_item_51
        · replace hf := zf c8 hf
          refine v_iload h dX6_item_35 5 rfl 37 rfl ?_
          cases (Option.some.inj hf)
          exact hE 37 _ rfl dX6_item_37
      · try rw [e6] at hf
        refine v_aald h dX6_item_21 116 4 rfl rfl (zix_in g5) (b := (ad 119)) (by rw [e6] <;> rfl) 22 rfl ?_
        refine v_iload_n h dX6_item_22 2 rfl 23 rfl ?_
        refine v_iload_n h dX6_item_23 3 rfl 24 rfl ?_
        refine v_iconst h dX6_item_24 1 rfl 25 rfl ?_
        obtain ⟨u7, hu7, hf⟩ := zb hf
        refine v_callVi h (rest := []) dX6_item_25 (tX3_refuse l G ca (fun i => ad (119 + i)) (v.2.2.2.2.2.1 1) x2 x3 1 hu7) gX6_item_X3_refuse rfl rfl ⟨rfl, rfl⟩ nX3_refuse ⟨Nat.le_of_ble_eq_true rfl, Nat.le_of_ble_eq_true rfl⟩ [119, 120] rfl rfl 0 rfl rfl rfl rfl (Nat.le_of_ble_eq_true rfl) ⟨Nat.zero_le _, Nat.zero_le _⟩ rfl (wX ca ad v) rfl (wX_adr _ _ _ _) 28 rfl ?_
        refine v_istore h dX6_item_28 (Nat.le_of_ble_eq_true rfl) rfl rfl [(0, .ref (ad 0)), (1, .int x1), (2, .int x2), (3, .int x3), (4, .long x4), (6, .int u7)] rfl 30 rfl ?_
        refine v_iload h dX6_item_30 5 rfl 32 rfl ?_
        refine v_if_ge h dX6_item_32 38 (by decide) 35 rfl (fun c8 => ?_) (fun c8 => ?_)
        · replace hf := zt c8 hf
          refine v_aload_n h dX6_item_38 0 rfl 39 rfl ?_
          refine v_get h (v := .ref (ad 116)) dX6_item_39 iX6_item_X6 0 rfl rfl 5 (by decide) (zwi 1 rfl) rfl 42 rfl ?_
          refine v_iload_n h dX6_item_42 1 rfl 43 rfl ?_
          refine v_aald h dX6_item_43 116 4 rfl rfl (zix_in g5) (b := (ad 119)) (by rw [e6] <;> rfl) 44 rfl ?_
          refine v_iload_n h dX6_item_44 3 rfl 45 rfl ?_
          refine v_lload h dX6_item_45 4 rfl 47 rfl ?_
          obtain ⟨u9, hu9, hf⟩ := zb hf
          refine v_callVv h (rest := []) dX6_item_47 (tX3_put l G ca (fun i => ad (119 + i)) (v.2.2.2.2.2.1 1) x3 x4 hu9) gX6_item_X3_put rfl rfl ⟨rfl, rfl⟩ nX3_put ⟨Nat.le_of_ble_eq_true rfl, Nat.le_of_ble_eq_true rfl⟩ [119, 120] rfl rfl 0 rfl rfl rfl rfl (Nat.le_of_ble_eq_true rfl) ⟨Nat.zero_le _, Nat.zero_le _⟩ rfl (wX ca ad (v.1, v.2.1, v.2.2.1, v.2.2.2.1, v.2.2.2.2.1, (va_up v.2.2.2.2.2.1 1 u9), v.2.2.2.2.2.2)) rfl (wX_adr _ _ _ _) 50 rfl ?_
          refine v_iconst h dX6_item_50 1 rfl 51 rfl ?_
          cases (Option.some.inj hf)
          exact hE 51 _ rfl dX6_item_51
        · replace hf := zf c8 hf
          refine v_iload h dX6_item_35 5 rfl 37 rfl ?_
          cases (Option.some.inj hf)
          exact hE 37 _ rfl dX6_item_37
      · try rw [e6] at hf
        refine v_aald h dX6_item_21 116 4 rfl rfl (zix_in g5) (b := (ad 121)) (by rw [e6] <;> rfl) 22 rfl ?_
        refine v_iload_n h dX6_item_22 2 rfl 23 rfl ?_
        refine v_iload_n h dX6_item_23 3 rfl 24 rfl ?_
        refine v_iconst h dX6_item_24 1 rfl 25 rfl ?_
        obtain ⟨u7, hu7, hf⟩ := zb hf
        refine v_callVi h (rest := []) dX6_item_25 (tX3_refuse l G ca (fun i => ad (121 + i)) (v.2.2.2.2.2.1 2) x2 x3 1 hu7) gX6_item_X3_refuse rfl rfl ⟨rfl, rfl⟩ nX3_refuse ⟨Nat.le_of_ble_eq_true rfl, Nat.le_of_ble_eq_true rfl⟩ [121, 122] rfl rfl 0 rfl rfl rfl rfl (Nat.le_of_ble_eq_true rfl) ⟨Nat.zero_le _, Nat.zero_le _⟩ rfl (wX ca ad v) rfl (wX_adr _ _ _ _) 28 rfl ?_
        refine v_istore h dX6_item_28 (Nat.le_of_ble_eq_true rfl) rfl rfl [(0, .ref (ad 0)), (1, .int x1), (2, .int x2), (3, .int x3), (4, .long x4), (6, .int u7)] rfl 30 rfl ?_
        refine v_iload h dX6_item_30 5 rfl 32 rfl ?_
        refine v_if_ge h dX6_item_32 38 (by decide) 35 rfl (fun c8 => ?_) (fun c8 => ?_)
        · replace hf := zt c8 hf
          refine v_aload_n h dX6_item_38 0 rfl 39 rfl ?_
          refine v_get h (v := .ref (ad 116)) dX6_item_39 iX6_item_X6 0 rfl rfl 5 (by decide) (zwi 1 rfl) rfl 42 rfl ?_
          refine v_iload_n h dX6_item_42 1 rfl 43 rfl ?_
          refine v_aald h dX6_item_43 116 4 rfl rfl (zix_in g5) (b := (ad 121)) (by rw [e6] <;> rfl) 44 rfl ?_
          refine v_iload_n h dX6_item_44 3 rfl 45 rfl ?_
          refine v_lload h dX6_item_45 4 rfl 47 rfl ?_
          obtain ⟨u9, hu9, hf⟩ := zb hf
          refine v_callVv h (rest := []) dX6_item_47 (tX3_put l G ca (fun i => ad (121 + i)) (v.2.2.2.2.2.1 2) x3 x4 hu9) gX6_item_X3_put rfl rfl ⟨rfl, rfl⟩ nX3_put ⟨Nat.le_of_ble_eq_true rfl, Nat.le_of_ble_eq_true rfl⟩ [121, 122] rfl rfl 0 rfl rfl rfl rfl (Nat.le_of_ble_eq_true rfl) ⟨Nat.zero_le _, Nat.zero_le _⟩ rfl (wX ca ad (v.1, v.2.1, v.2.2.1, v.2.2.2.1, v.2.2.2.2.1, (va_up v.2.2.2.2.2.1 2 u9), v.2.2.2.2.2.2)) rfl (wX_adr _ _ _ _) 50 rfl ?_
          refine v_iconst h dX6_item_50 1 rfl 51 rfl ?_
          cases (Option.some.inj hf)
          exact hE 51 _ rfl dX6_item_51
        · replace hf := zf c8 hf
          refine v_iload h dX6_item_35 5 rfl 37 rfl ?_
          cases (Option.some.inj hf)
          exact hE 37 _ rfl dX6_item_37
      · try rw [e6] at hf
        refine v_aald h dX6_item_21 116 4 rfl rfl (zix_in g5) (b := (ad 123)) (by rw [e6] <;> rfl) 22 rfl ?_
        refine v_iload_n h dX6_item_22 2 rfl 23 rfl ?_
        refine v_iload_n h dX6_item_23 3 rfl 24 rfl ?_
        refine v_iconst h dX6_item_24 1 rfl 25 rfl ?_
        obtain ⟨u7, hu7, hf⟩ := zb hf
        refine v_callVi h (rest := []) dX6_item_25 (tX3_refuse l G ca (fun i => ad (123 + i)) (v.2.2.2.2.2.1 3) x2 x3 1 hu7) gX6_item_X3_refuse rfl rfl ⟨rfl, rfl⟩ nX3_refuse ⟨Nat.le_of_ble_eq_true rfl, Nat.le_of_ble_eq_true rfl⟩ [123, 124] rfl rfl 0 rfl rfl rfl rfl (Nat.le_of_ble_eq_true rfl) ⟨Nat.zero_le _, Nat.zero_le _⟩ rfl (wX ca ad v) rfl (wX_adr _ _ _ _) 28 rfl ?_
        refine v_istore h dX6_item_28 (Nat.le_of_ble_eq_true rfl) rfl rfl [(0, .ref (ad 0)), (1, .int x1), (2, .int x2), (3, .int x3), (4, .long x4), (6, .int u7)] rfl 30 rfl ?_
        refine v_iload h dX6_item_30 5 rfl 32 rfl ?_
        refine v_if_ge h dX6_item_32 38 (by decide) 35 rfl (fun c8 => ?_) (fun c8 => ?_)
        · replace hf := zt c8 hf
          refine v_aload_n h dX6_item_38 0 rfl 39 rfl ?_
          refine v_get h (v := .ref (ad 116)) dX6_item_39 iX6_item_X6 0 rfl rfl 5 (by decide) (zwi 1 rfl) rfl 42 rfl ?_
          refine v_iload_n h dX6_item_42 1 rfl 43 rfl ?_
          refine v_aald h dX6_item_43 116 4 rfl rfl (zix_in g5) (b := (ad 123)) (by rw [e6] <;> rfl) 44 rfl ?_
          refine v_iload_n h dX6_item_44 3 rfl 45 rfl ?_
          refine v_lload h dX6_item_45 4 rfl 47 rfl ?_
          obtain ⟨u9, hu9, hf⟩ := zb hf
          refine v_callVv h (rest := []) dX6_item_47 (tX3_put l G ca (fun i => ad (123 + i)) (v.2.2.2.2.2.1 3) x3 x4 hu9) gX6_item_X3_put rfl rfl ⟨rfl, rfl⟩ nX3_put ⟨Nat.le_of_ble_eq_true rfl, Nat.le_of_ble_eq_true rfl⟩ [123, 124] rfl rfl 0 rfl rfl rfl rfl (Nat.le_of_ble_eq_true rfl) ⟨Nat.zero_le _, Nat.zero_le _⟩ rfl (wX ca ad (v.1, v.2.1, v.2.2.1, v.2.2.2.1, v.2.2.2.2.1, (va_up v.2.2.2.2.2.1 3 u9), v.2.2.2.2.2.2)) rfl (wX_adr _ _ _ _) 50 rfl ?_
          refine v_iconst h dX6_item_50 1 rfl 51 rfl ?_
          cases (Option.some.inj hf)
          exact hE 51 _ rfl dX6_item_51
        · replace hf := zf c8 hf
          refine v_iload h dX6_item_35 5 rfl 37 rfl ?_
          cases (Option.some.inj hf)
          exact hE 37 _ rfl dX6_item_37
    · replace hf := zt c4 hf
      refine v_iconst h dX6_item_14 (-1) rfl 15 rfl ?_
      cases (Option.some.inj hf)
      exact hE 15 _ rfl dX6_item_15
abbrev rX6_copy : Room := { frames := 2, cells := 0, slots := 0, locals := 42 }
theorem nX6_copy : zNoMH yX6_copy 5 := ⟨by decide +kernel, by decide +kernel, by decide +kernel⟩
theorem iX6_copy_X6 : ∀ w ∈ wsX60, w ∈ wsX6_copy := fun _ h => (List.mem_cons_of_mem _ (List.mem_append_left _ (List.mem_append_right _ h)))
theorem iX6_copy_X3 : ∀ w ∈ wsX30, w ∈ wsX6_copy := fun _ h => (List.mem_cons_of_mem _ (List.mem_append_right _ h))
def fX6_copy (v : XV) (x1 : Int32) (x2 : Int32) (x3 : Int32) (x4 : Int32) (x5 : Int32) : Option (Int32 × (Nat → SV)) := ((fX6_isSheet x1) : Option Int32).bind (fun u1 => if u1 = 0 then (some ((-1), v.2.2.2.2.2.1)) else (((fX6_isSheet x3) : Option Int32).bind (fun u3 => if u3 = 0 then (some ((-1), v.2.2.2.2.2.1)) else (zgrd (zix x1 4) (zgrd (zix x3 4) (if (v.2.2.2.2.2.1 x1.toNatClampNeg).2.1 = 0 then (some ((-11), v.2.2.2.2.2.1)) else (if (v.2.2.2.2.2.1 x3.toNatClampNeg).2.1 = 0 then (some ((-11), v.2.2.2.2.2.1)) else (if (v.2.2.2.2.2.1 x1.toNatClampNeg).2.2.1 = (v.2.2.2.2.2.1 x3.toNatClampNeg).2.2.1 then (((fX3_spans (v.2.2.2.2.2.1 x1.toNatClampNeg) x2 x5) : Option Int32).bind (fun u12 => if u12 = 0 then (some ((-13), v.2.2.2.2.2.1)) else (((fX3_spans (v.2.2.2.2.2.1 x3.toNatClampNeg) x4 x5) : Option Int32).bind (fun u14 => if u14 = 0 then (some ((-13), v.2.2.2.2.2.1)) else (zgrd (zcok x2 x4 x5 24 24) (some (x5, (va_up v.2.2.2.2.2.1 (x3.toNatClampNeg) ((zcpy (v.2.2.2.2.2.1 x1.toNatClampNeg).1 (v.2.2.2.2.2.1 x3.toNatClampNeg).1 x2 x4 x5), (v.2.2.2.2.2.1 x3.toNatClampNeg).2))))))))) else (some ((-12), v.2.2.2.2.2.1))))))))))
set_option maxRecDepth 100000 in
set_option maxHeartbeats 4000000 in
theorem tX6_copy (l : Launch) (G : va_G) (ca : Nat → ClassId) (ad : Nat → Nat) (v : XV) (x1 : Int32) (x2 : Int32) (x3 : Int32) (x4 : Int32) (x5 : Int32) {o : (Int32 × (Nat → SV))} (hf : fX6_copy v x1 x2 x3 x4 x5 = some o) : zMi l yX6_copy wsX6_copy rX6_copy G ca [.ref (ad 0), .int x1, .int x2, .int x3, .int x4, .int x5] (wX ca ad v) o.1 (wX ca ad (v.1, v.2.1, v.2.2.1, v.2.2.2.1, v.2.2.2.2.1, o.2, v.2.2.2.2.2.2)) := by
  refine zMi.of (cc := cX6_copy) (nL := 8) (own := RX6) (ty := .int) (by decide) rfl rfl (Nat.le_of_ble_eq_true rfl) (fun X h hE => ?_)
  show V X G 8 0 0 (wX ca ad v) 0 [(0, .ref (ad 0)), (1, .int x1), (2, .int x2), (3, .int x3), (4, .int x4), (5, .int x5)] []
  unfold fX6_copy at hf
  refine v_iload_n h dX6_copy_0 1 rfl 1 rfl ?_
  obtain ⟨u1, hu1, hf⟩ := zb hf
  refine v_callSi h (rest := []) dX6_copy_1 (tX6_isSheet l G ca   x1 hu1) gX6_copy_X6_isSheet rfl ⟨rfl, rfl⟩ nX6_isSheet ⟨Nat.le_of_ble_eq_true rfl, Nat.le_of_ble_eq_true rfl⟩ [] rfl rfl rfl rfl (Nat.le_of_ble_eq_true rfl) ⟨Nat.zero_le _, Nat.zero_le _⟩ rfl (wX ca ad v) rfl (wX_adr _ _ _ _) 4 rfl ?_
  refine v_if_eq h dX6_copy_4 14 (by decide) 7 rfl (fun c2 => ?_) (fun c2 => ?_)
  · replace hf := zt c2 hf
    refine v_iconst h dX6_copy_14 (-1) rfl 15 rfl ?_
    cases (Option.some.inj hf)
    exact hE 15 _ rfl dX6_copy_15
  · replace hf := zf c2 hf
    refine v_iload_n h dX6_copy_7 3 rfl 8 rfl ?_
    obtain ⟨u3, hu3, hf⟩ := zb hf
    refine v_callSi h (rest := []) dX6_copy_8 (tX6_isSheet l G ca   x3 hu3) gX6_copy_X6_isSheet rfl ⟨rfl, rfl⟩ nX6_isSheet ⟨Nat.le_of_ble_eq_true rfl, Nat.le_of_ble_eq_true rfl⟩ [] rfl rfl rfl rfl (Nat.le_of_ble_eq_true rfl) ⟨Nat.zero_le _, Nat.zero_le _⟩ rfl (wX ca ad v) rfl (wX_adr _ _ _ _) 11 rfl ?_
    refine v_if_ne h dX6_copy_11 16 (by decide) 14 rfl (fun c4 => ?_) (fun c4 => ?_)
    · replace hf := zf c4 hf
      refine v_aload_n h dX6_copy_16 0 rfl 17 rfl ?_
      refine v_get h (v := .ref (ad 116)) dX6_copy_17 iX6_copy_X6 0 rfl rfl 5 (by decide) (zwi 1 rfl) rfl 20 rfl ?_
      refine v_iload_n h dX6_copy_20 1 rfl 21 rfl ?_
      obtain ⟨g5, hf⟩ := zg hf
      rcases zix4 g5 with e6 | e6 | e6 | e6
      · try rw [e6] at hf
        refine v_aald h dX6_copy_21 116 4 rfl rfl (zix_in g5) (b := (ad 117)) (by rw [e6] <;> rfl) 22 rfl ?_
        refine v_astore h dX6_copy_22 (Nat.le_of_ble_eq_true rfl) rfl rfl [(0, .ref (ad 0)), (1, .int x1), (2, .int x2), (3, .int x3), (4, .int x4), (5, .int x5), (6, .ref (ad 117))] rfl 24 rfl ?_
        refine v_aload_n h dX6_copy_24 0 rfl 25 rfl ?_
        refine v_get h (v := .ref (ad 116)) dX6_copy_25 iX6_copy_X6 0 rfl rfl 5 (by decide) (zwi 1 rfl) rfl 28 rfl ?_
        refine v_iload_n h dX6_copy_28 3 rfl 29 rfl ?_
        obtain ⟨g7, hf⟩ := zg hf
        rcases zix4 g7 with e8 | e8 | e8 | e8
        · try rw [e8] at hf
          refine v_aald h dX6_copy_29 116 4 rfl rfl (zix_in g7) (b := (ad 117)) (by rw [e8] <;> rfl) 30 rfl ?_
          refine v_astore h dX6_copy_30 (Nat.le_of_ble_eq_true rfl) rfl rfl [(0, .ref (ad 0)), (1, .int x1), (2, .int x2), (3, .int x3), (4, .int x4), (5, .int x5), (6, .ref (ad 117)), (7, .ref (ad 117))] rfl 32 rfl ?_
          refine v_aload h dX6_copy_32 6 rfl 34 rfl ?_
          refine v_get h (v := .int (v.2.2.2.2.2.1 0).2.1) dX6_copy_34 iX6_copy_X3 117 rfl rfl 1 (by decide) (zwi 2 rfl) rfl 37 rfl ?_
          refine v_if_eq h dX6_copy_37 48 (by decide) 40 rfl (fun c9 => ?_) (fun c9 => ?_)
          · replace hf := zt c9 hf
            refine v_bipush h dX6_copy_48 (-11) rfl 50 rfl ?_
            cases (Option.some.inj hf)
            exact hE 50 _ rfl dX6_copy_50
          · replace hf := zf c9 hf
            refine v_aload h dX6_copy_40 7 rfl 42 rfl ?_
            refine v_get h (v := .int (v.2.2.2.2.2.1 0).2.1) dX6_copy_42 iX6_copy_X3 117 rfl rfl 1 (by decide) (zwi 2 rfl) rfl 45 rfl ?_
            refine v_if_ne h dX6_copy_45 51 (by decide) 48 rfl (fun c10 => ?_) (fun c10 => ?_)
            · replace hf := zf c10 hf
              refine v_aload h dX6_copy_51 6 rfl 53 rfl ?_
              refine v_get h (v := .int (v.2.2.2.2.2.1 0).2.2.1) dX6_copy_53 iX6_copy_X3 117 rfl rfl 2 (by decide) (zwi 3 rfl) rfl 56 rfl ?_
              refine v_aload h dX6_copy_56 7 rfl 58 rfl ?_
              refine v_get h (v := .int (v.2.2.2.2.2.1 0).2.2.1) dX6_copy_58 iX6_copy_X3 117 rfl rfl 2 (by decide) (zwi 3 rfl) rfl 61 rfl ?_
              refine v_icmp_eq h dX6_copy_61 67 (by decide) 64 rfl (fun c11 => ?_) (fun c11 => ?_)
              · replace hf := zt c11 hf
                refine v_aload h dX6_copy_67 6 rfl 69 rfl ?_
                refine v_iload_n h dX6_copy_69 2 rfl 70 rfl ?_
                refine v_iload h dX6_copy_70 5 rfl 72 rfl ?_
                obtain ⟨u12, hu12, hf⟩ := zb hf
                refine v_callVi h (rest := []) dX6_copy_72 (tX3_spans l G ca (fun i => ad (117 + i)) (v.2.2.2.2.2.1 0) x2 x5 hu12) gX6_copy_X3_spans rfl rfl ⟨rfl, rfl⟩ nX3_spans ⟨Nat.le_of_ble_eq_true rfl, Nat.le_of_ble_eq_true rfl⟩ [117, 118] rfl rfl 0 rfl rfl rfl rfl (Nat.le_of_ble_eq_true rfl) ⟨Nat.zero_le _, Nat.zero_le _⟩ rfl (wX ca ad v) rfl (wX_adr _ _ _ _) 75 rfl ?_
                refine v_if_eq h dX6_copy_75 90 (by decide) 78 rfl (fun c13 => ?_) (fun c13 => ?_)
                · replace hf := zt c13 hf
                  refine v_bipush h dX6_copy_90 (-13) rfl 92 rfl ?_
                  cases (Option.some.inj hf)
                  exact hE 92 _ rfl dX6_copy_92
                · replace hf := zf c13 hf
                  refine v_aload h dX6_copy_78 7 rfl 80 rfl ?_
                  refine v_iload h dX6_copy_80 4 rfl 82 rfl ?_
                  refine v_iload h dX6_copy_82 5 rfl 84 rfl ?_
                  obtain ⟨u14, hu14, hf⟩ := zb hf
                  refine v_callVi h (rest := []) dX6_copy_84 (tX3_spans l G ca (fun i => ad (117 + i)) (v.2.2.2.2.2.1 0) x4 x5 hu14) gX6_copy_X3_spans rfl rfl ⟨rfl, rfl⟩ nX3_spans ⟨Nat.le_of_ble_eq_true rfl, Nat.le_of_ble_eq_true rfl⟩ [117, 118] rfl rfl 0 rfl rfl rfl rfl (Nat.le_of_ble_eq_true rfl) ⟨Nat.zero_le _, Nat.zero_le _⟩ rfl (wX ca ad v) rfl (wX_adr _ _ _ _) 87 rfl ?_
                  refine v_if_ne h dX6_copy_87 93 (by decide) 90 rfl (fun c15 => ?_) (fun c15 => ?_)
                  · replace hf := zf c15 hf
                    refine v_aload h dX6_copy_93 6 rfl 95 rfl ?_
                    refine v_get h (v := .ref (ad 118)) dX6_copy_95 iX6_copy_X3 117 rfl rfl 0 (by decide) (zwi 4 rfl) rfl 98 rfl ?_
                    refine v_iload_n h dX6_copy_98 2 rfl 99 rfl ?_
                    refine v_aload h dX6_copy_99 7 rfl 101 rfl ?_
                    refine v_get h (v := .ref (ad 118)) dX6_copy_101 iX6_copy_X3 117 rfl rfl 0 (by decide) (zwi 4 rfl) rfl 104 rfl ?_
                    refine v_iload h dX6_copy_104 4 rfl 106 rfl ?_
                    refine v_iload h dX6_copy_106 5 rfl 108 rfl ?_
                    obtain ⟨g16, hf⟩ := zg hf
                    refine v_copyl h (f := (v.2.2.2.2.2.1 0).1) (g := (v.2.2.2.2.2.1 0).1) dX6_copy_108 (zwi 5 rfl) (zwi 6 rfl) (zwi 7 rfl) (zwi 8 rfl) 118 118 1 rfl rfl rfl g16 (Nat.le_of_ble_eq_true rfl) (Nat.le_of_ble_eq_true rfl) (wX ca ad (v.1, v.2.1, v.2.2.1, v.2.2.2.1, v.2.2.2.2.1, (va_up v.2.2.2.2.2.1 0 ((zcpy (v.2.2.2.2.2.1 0).1 (v.2.2.2.2.2.1 0).1 x2 x4 x5), (v.2.2.2.2.2.1 0).2)), v.2.2.2.2.2.2)) rfl 111 rfl ?_
                    refine v_iload h dX6_copy_111 5 rfl 113 rfl ?_
                    cases (Option.some.inj hf)
                    exact hE 113 _ rfl dX6_copy_113
                  · replace hf := zt c15 hf
                    refine v_bipush h dX6_copy_90 (-13) rfl 92 rfl ?_
                    cases (Option.some.inj hf)
                    exact hE 92 _ rfl dX6_copy_92
              · replace hf := zf c11 hf
                refine v_bipush h dX6_copy_64 (-12) rfl 66 rfl ?_
                cases (Option.some.inj hf)
                exact hE 66 _ rfl dX6_copy_66
            · replace hf := zt c10 hf
              refine v_bipush h dX6_copy_48 (-11) rfl 50 rfl ?_
              cases (Option.some.inj hf)
              exact hE 50 _ rfl dX6_copy_50
        · try rw [e8] at hf
          refine v_aald h dX6_copy_29 116 4 rfl rfl (zix_in g7) (b := (ad 119)) (by rw [e8] <;> rfl) 30 rfl ?_
          refine v_astore h dX6_copy_30 (Nat.le_of_ble_eq_true rfl) rfl rfl [(0, .ref (ad 0)), (1, .int x1), (2, .int x2), (3, .int x3), (4, .int x4), (5, .int x5), (6, .ref (ad 117)), (7, .ref (ad 119))] rfl 32 rfl ?_
          refine v_aload h dX6_copy_32 6 rfl 34 rfl ?_
          refine v_get h (v := .int (v.2.2.2.2.2.1 0).2.1) dX6_copy_34 iX6_copy_X3 117 rfl rfl 1 (by decide) (zwi 2 rfl) rfl 37 rfl ?_
          refine v_if_eq h dX6_copy_37 48 (by decide) 40 rfl (fun c9 => ?_) (fun c9 => ?_)
          · replace hf := zt c9 hf
            refine v_bipush h dX6_copy_48 (-11) rfl 50 rfl ?_
            cases (Option.some.inj hf)
            exact hE 50 _ rfl dX6_copy_50
          · replace hf := zf c9 hf
            refine v_aload h dX6_copy_40 7 rfl 42 rfl ?_
            refine v_get h (v := .int (v.2.2.2.2.2.1 1).2.1) dX6_copy_42 iX6_copy_X3 119 rfl rfl 1 (by decide) (zwi 2 rfl) rfl 45 rfl ?_
            refine v_if_ne h dX6_copy_45 51 (by decide) 48 rfl (fun c10 => ?_) (fun c10 => ?_)
            · replace hf := zf c10 hf
              refine v_aload h dX6_copy_51 6 rfl 53 rfl ?_
              refine v_get h (v := .int (v.2.2.2.2.2.1 0).2.2.1) dX6_copy_53 iX6_copy_X3 117 rfl rfl 2 (by decide) (zwi 3 rfl) rfl 56 rfl ?_
              refine v_aload h dX6_copy_56 7 rfl 58 rfl ?_
              refine v_get h (v := .int (v.2.2.2.2.2.1 1).2.2.1) dX6_copy_58 iX6_copy_X3 119 rfl rfl 2 (by decide) (zwi 3 rfl) rfl 61 rfl ?_
              refine v_icmp_eq h dX6_copy_61 67 (by decide) 64 rfl (fun c11 => ?_) (fun c11 => ?_)
              · replace hf := zt c11 hf
                refine v_aload h dX6_copy_67 6 rfl 69 rfl ?_
                refine v_iload_n h dX6_copy_69 2 rfl 70 rfl ?_
                refine v_iload h dX6_copy_70 5 rfl 72 rfl ?_
                obtain ⟨u12, hu12, hf⟩ := zb hf
                refine v_callVi h (rest := []) dX6_copy_72 (tX3_spans l G ca (fun i => ad (117 + i)) (v.2.2.2.2.2.1 0) x2 x5 hu12) gX6_copy_X3_spans rfl rfl ⟨rfl, rfl⟩ nX3_spans ⟨Nat.le_of_ble_eq_true rfl, Nat.le_of_ble_eq_true rfl⟩ [117, 118] rfl rfl 0 rfl rfl rfl rfl (Nat.le_of_ble_eq_true rfl) ⟨Nat.zero_le _, Nat.zero_le _⟩ rfl (wX ca ad v) rfl (wX_adr _ _ _ _) 75 rfl ?_
                refine v_if_eq h dX6_copy_75 90 (by decide) 78 rfl (fun c13 => ?_) (fun c13 => ?_)
                · replace hf := zt c13 hf
                  refine v_bipush h dX6_copy_90 (-13) rfl 92 rfl ?_
                  cases (Option.some.inj hf)
                  exact hE 92 _ rfl dX6_copy_92
                · replace hf := zf c13 hf
                  refine v_aload h dX6_copy_78 7 rfl 80 rfl ?_
                  refine v_iload h dX6_copy_80 4 rfl 82 rfl ?_
                  refine v_iload h dX6_copy_82 5 rfl 84 rfl ?_
                  obtain ⟨u14, hu14, hf⟩ := zb hf
                  refine v_callVi h (rest := []) dX6_copy_84 (tX3_spans l G ca (fun i => ad (119 + i)) (v.2.2.2.2.2.1 1) x4 x5 hu14) gX6_copy_X3_spans rfl rfl ⟨rfl, rfl⟩ nX3_spans ⟨Nat.le_of_ble_eq_true rfl, Nat.le_of_ble_eq_true rfl⟩ [119, 120] rfl rfl 0 rfl rfl rfl rfl (Nat.le_of_ble_eq_true rfl) ⟨Nat.zero_le _, Nat.zero_le _⟩ rfl (wX ca ad v) rfl (wX_adr _ _ _ _) 87 rfl ?_
                  refine v_if_ne h dX6_copy_87 93 (by decide) 90 rfl (fun c15 => ?_) (fun c15 => ?_)
                  · replace hf := zf c15 hf
                    refine v_aload h dX6_copy_93 6 rfl 95 rfl ?_
                    refine v_get h (v := .ref (ad 118)) dX6_copy_95 iX6_copy_X3 117 rfl rfl 0 (by decide) (zwi 4 rfl) rfl 98 rfl ?_
                    refine v_iload_n h dX6_copy_98 2 rfl 99 rfl ?_
                    refine v_aload h dX6_copy_99 7 rfl 101 rfl ?_
                    refine v_get h (v := .ref (ad 120)) dX6_copy_101 iX6_copy_X3 119 rfl rfl 0 (by decide) (zwi 4 rfl) rfl 104 rfl ?_
                    refine v_iload h dX6_copy_104 4 rfl 106 rfl ?_
                    refine v_iload h dX6_copy_106 5 rfl 108 rfl ?_
                    obtain ⟨g16, hf⟩ := zg hf
                    refine v_copyl h (f := (v.2.2.2.2.2.1 0).1) (g := (v.2.2.2.2.2.1 1).1) dX6_copy_108 (zwi 5 rfl) (zwi 6 rfl) (zwi 7 rfl) (zwi 8 rfl) 118 120 1 rfl rfl rfl g16 (Nat.le_of_ble_eq_true rfl) (Nat.le_of_ble_eq_true rfl) (wX ca ad (v.1, v.2.1, v.2.2.1, v.2.2.2.1, v.2.2.2.2.1, (va_up v.2.2.2.2.2.1 1 ((zcpy (v.2.2.2.2.2.1 0).1 (v.2.2.2.2.2.1 1).1 x2 x4 x5), (v.2.2.2.2.2.1 1).2)), v.2.2.2.2.2.2)) rfl 111 rfl ?_
                    refine v_iload h dX6_copy_111 5 rfl 113 rfl ?_
                    cases (Option.some.inj hf)
                    exact hE 113 _ rfl dX6_copy_113
                  · replace hf := zt c15 hf
                    refine v_bipush h dX6_copy_90 (-13) rfl 92 rfl ?_
                    cases (Option.some.inj hf)
                    exact hE 92 _ rfl dX6_copy_92
              · replace hf := zf c11 hf
                refine v_bipush h dX6_copy_64 (-12) rfl 66 rfl ?_
                cases (Option.some.inj hf)
                exact hE 66 _ rfl dX6_copy_66
            · replace hf := zt c10 hf
              refine v_bipush h dX6_copy_48 (-11) rfl 50 rfl ?_
              cases (Option.some.inj hf)
              exact hE 50 _ rfl dX6_copy_50
        · try rw [e8] at hf
          refine v_aald h dX6_copy_29 116 4 rfl rfl (zix_in g7) (b := (ad 121)) (by rw [e8] <;> rfl) 30 rfl ?_
          refine v_astore h dX6_copy_30 (Nat.le_of_ble_eq_true rfl) rfl rfl [(0, .ref (ad 0)), (1, .int x1), (2, .int x2), (3, .int x3), (4, .int x4), (5, .int x5), (6, .ref (ad 117)), (7, .ref (ad 121))] rfl 32 rfl ?_
          refine v_aload h dX6_copy_32 6 rfl 34 rfl ?_
          refine v_get h (v := .int (v.2.2.2.2.2.1 0).2.1) dX6_copy_34 iX6_copy_X3 117 rfl rfl 1 (by decide) (zwi 2 rfl) rfl 37 rfl ?_
          refine v_if_eq h dX6_copy_37 48 (by decide) 40 rfl (fun c9 => ?_) (fun c9 => ?_)
          · replace hf := zt c9 hf
            refine v_bipush h dX6_copy_48 (-11) rfl 50 rfl ?_
            cases (Option.some.inj hf)
            exact hE 50 _ rfl dX6_copy_50
          · replace hf := zf c9 hf
            refine v_aload h dX6_copy_40 7 rfl 42 rfl ?_
            refine v_get h (v := .int (v.2.2.2.2.2.1 2).2.1) dX6_copy_42 iX6_copy_X3 121 rfl rfl 1 (by decide) (zwi 2 rfl) rfl 45 rfl ?_
            refine v_if_ne h dX6_copy_45 51 (by decide) 48 rfl (fun c10 => ?_) (fun c10 => ?_)
            · replace hf := zf c10 hf
              refine v_aload h dX6_copy_51 6 rfl 53 rfl ?_
              refine v_get h (v := .int (v.2.2.2.2.2.1 0).2.2.1) dX6_copy_53 iX6_copy_X3 117 rfl rfl 2 (by decide) (zwi 3 rfl) rfl 56 rfl ?_
              refine v_aload h dX6_copy_56 7 rfl 58 rfl ?_
              refine v_get h (v := .int (v.2.2.2.2.2.1 2).2.2.1) dX6_copy_58 iX6_copy_X3 121 rfl rfl 2 (by decide) (zwi 3 rfl) rfl 61 rfl ?_
              refine v_icmp_eq h dX6_copy_61 67 (by decide) 64 rfl (fun c11 => ?_) (fun c11 => ?_)
              · replace hf := zt c11 hf
                refine v_aload h dX6_copy_67 6 rfl 69 rfl ?_
                refine v_iload_n h dX6_copy_69 2 rfl 70 rfl ?_
                refine v_iload h dX6_copy_70 5 rfl 72 rfl ?_
                obtain ⟨u12, hu12, hf⟩ := zb hf
                refine v_callVi h (rest := []) dX6_copy_72 (tX3_spans l G ca (fun i => ad (117 + i)) (v.2.2.2.2.2.1 0) x2 x5 hu12) gX6_copy_X3_spans rfl rfl ⟨rfl, rfl⟩ nX3_spans ⟨Nat.le_of_ble_eq_true rfl, Nat.le_of_ble_eq_true rfl⟩ [117, 118] rfl rfl 0 rfl rfl rfl rfl (Nat.le_of_ble_eq_true rfl) ⟨Nat.zero_le _, Nat.zero_le _⟩ rfl (wX ca ad v) rfl (wX_adr _ _ _ _) 75 rfl ?_
                refine v_if_eq h dX6_copy_75 90 (by decide) 78 rfl (fun c13 => ?_) (fun c13 => ?_)
                · replace hf := zt c13 hf
                  refine v_bipush h dX6_copy_90 (-13) rfl 92 rfl ?_
                  cases (Option.some.inj hf)
                  exact hE 92 _ rfl dX6_copy_92
                · replace hf := zf c13 hf
                  refine v_aload h dX6_copy_78 7 rfl 80 rfl ?_
                  refine v_iload h dX6_copy_80 4 rfl 82 rfl ?_
                  refine v_iload h dX6_copy_82 5 rfl 84 rfl ?_
                  obtain ⟨u14, hu14, hf⟩ := zb hf
                  refine v_callVi h (rest := []) dX6_copy_84 (tX3_spans l G ca (fun i => ad (121 + i)) (v.2.2.2.2.2.1 2) x4 x5 hu14) gX6_copy_X3_spans rfl rfl ⟨rfl, rfl⟩ nX3_spans ⟨Nat.le_of_ble_eq_true rfl, Nat.le_of_ble_eq_true rfl⟩ [121, 122] rfl rfl 0 rfl rfl rfl rfl (Nat.le_of_ble_eq_true rfl) ⟨Nat.zero_le _, Nat.zero_le _⟩ rfl (wX ca ad v) rfl (wX_adr _ _ _ _) 87 rfl ?_
                  refine v_if_ne h dX6_copy_87 93 (by decide) 90 rfl (fun c15 => ?_) (fun c15 => ?_)
                  · replace hf := zf c15 hf
                    refine v_aload h dX6_copy_93 6 rfl 95 rfl ?_
                    refine v_get h (v := .ref (ad 118)) dX6_copy_95 iX6_copy_X3 117 rfl rfl 0 (by decide) (zwi 4 rfl) rfl 98 rfl ?_
                    refine v_iload_n h dX6_copy_98 2 rfl 99 rfl ?_
                    refine v_aload h dX6_copy_99 7 rfl 101 rfl ?_
                    refine v_get h (v := .ref (ad 122)) dX6_copy_101 iX6_copy_X3 121 rfl rfl 0 (by decide) (zwi 4 rfl) rfl 104 rfl ?_
                    refine v_iload h dX6_copy_104 4 rfl 106 rfl ?_
                    refine v_iload h dX6_copy_106 5 rfl 108 rfl ?_
                    obtain ⟨g16, hf⟩ := zg hf
                    refine v_copyl h (f := (v.2.2.2.2.2.1 0).1) (g := (v.2.2.2.2.2.1 2).1) dX6_copy_108 (zwi 5 rfl) (zwi 6 rfl) (zwi 7 rfl) (zwi 8 rfl) 118 122 1 rfl rfl rfl g16 (Nat.le_of_ble_eq_true rfl) (Nat.le_of_ble_eq_true rfl) (wX ca ad (v.1, v.2.1, v.2.2.1, v.2.2.2.1, v.2.2.2.2.1, (va_up v.2.2.2.2.2.1 2 ((zcpy (v.2.2.2.2.2.1 0).1 (v.2.2.2.2.2.1 2).1 x2 x4 x5), (v.2.2.2.2.2.1 2).2)), v.2.2.2.2.2.2)) rfl 111 rfl ?_
                    refine v_iload h dX6_copy_111 5 rfl 113 rfl ?_
                    cases (Option.some.inj hf)
                    exact hE 113 _ rfl dX6_copy_113
                  · replace hf := zt c15 hf
                    refine v_bipush h dX6_copy_90 (-13) rfl 92 rfl ?_
                    cases (Option.some.inj hf)
                    exact hE 92 _ rfl dX6_copy_92
              · replace hf := zf c11 hf
                refine v_bipush h dX6_copy_64 (-12) rfl 66 rfl ?_
                cases (Option.some.inj hf)
                exact hE 66 _ rfl dX6_copy_66
            · replace hf := zt c10 hf
              refine v_bipush h dX6_copy_48 (-11) rfl 50 rfl ?_
              cases (Option.some.inj hf)
              exact hE 50 _ rfl dX6_copy_50
        · try rw [e8] at hf
          refine v_aald h dX6_copy_29 116 4 rfl rfl (zix_in g7) (b := (ad 123)) (by rw [e8] <;> rfl) 30 rfl ?_
          refine v_astore h dX6_copy_30 (Nat.le_of_ble_eq_true rfl) rfl rfl [(0, .ref (ad 0)), (1, .int x1), (2, .int x2), (3, .int x3), (4, .int x4), (5, .int x5), (6, .ref (ad 117)), (7, .ref (ad 123))] rfl 32 rfl ?_
          refine v_aload h dX6_copy_32 6 rfl 34 rfl ?_
          refine v_get h (v := .int (v.2.2.2.2.2.1 0).2.1) dX6_copy_34 iX6_copy_X3 117 rfl rfl 1 (by decide) (zwi 2 rfl) rfl 37 rfl ?_
          refine v_if_eq h dX6_copy_37 48 (by decide) 40 rfl (fun c9 => ?_) (fun c9 => ?_)
          · replace hf := zt c9 hf
            refine v_bipush h dX6_copy_48 (-11) rfl 50 rfl ?_
            cases (Option.some.inj hf)
            exact hE 50 _ rfl dX6_copy_50
          · replace hf := zf c9 hf
            refine v_aload h dX6_copy_40 7 rfl 42 rfl ?_
            refine v_get h (v := .int (v.2.2.2.2.2.1 3).2.1) dX6_copy_42 iX6_copy_X3 123 rfl rfl 1 (by decide) (zwi 2 rfl) rfl 45 rfl ?_
            refine v_if_ne h dX6_copy_45 51 (by decide) 48 rfl (fun c10 => ?_) (fun c10 => ?_)
            · replace hf := zf c10 hf
              refine v_aload h dX6_copy_51 6 rfl 53 rfl ?_
              refine v_get h (v := .int (v.2.2.2.2.2.1 0).2.2.1) dX6_copy_53 iX6_copy_X3 117 rfl rfl 2 (by decide) (zwi 3 rfl) rfl 56 rfl ?_
              refine v_aload h dX6_copy_56 7 rfl 58 rfl ?_
              refine v_get h (v := .int (v.2.2.2.2.2.1 3).2.2.1) dX6_copy_58 iX6_copy_X3 123 rfl rfl 2 (by decide) (zwi 3 rfl) rfl 61 rfl ?_
              refine v_icmp_eq h dX6_copy_61 67 (by decide) 64 rfl (fun c11 => ?_) (fun c11 => ?_)
              · replace hf := zt c11 hf
                refine v_aload h dX6_copy_67 6 rfl 69 rfl ?_
                refine v_iload_n h dX6_copy_69 2 rfl 70 rfl ?_
                refine v_iload h dX6_copy_70 5 rfl 72 rfl ?_
                obtain ⟨u12, hu12, hf⟩ := zb hf
                refine v_callVi h (rest := []) dX6_copy_72 (tX3_spans l G ca (fun i => ad (117 + i)) (v.2.2.2.2.2.1 0) x2 x5 hu12) gX6_copy_X3_spans rfl rfl ⟨rfl, rfl⟩ nX3_spans ⟨Nat.le_of_ble_eq_true rfl, Nat.le_of_ble_eq_true rfl⟩ [117, 118] rfl rfl 0 rfl rfl rfl rfl (Nat.le_of_ble_eq_true rfl) ⟨Nat.zero_le _, Nat.zero_le _⟩ rfl (wX ca ad v) rfl (wX_adr _ _ _ _) 75 rfl ?_
                refine v_if_eq h dX6_copy_75 90 (by decide) 78 rfl (fun c13 => ?_) (fun c13 => ?_)
                · replace hf := zt c13 hf
                  refine v_bipush h dX6_copy_90 (-13) rfl 92 rfl ?_
                  cases (Option.some.inj hf)
                  exact hE 92 _ rfl dX6_copy_92
                · replace hf := zf c13 hf
                  refine v_aload h dX6_copy_78 7 rfl 80 rfl ?_
                  refine v_iload h dX6_copy_80 4 rfl 82 rfl ?_
                  refine v_iload h dX6_copy_82 5 rfl 84 rfl ?_
                  obtain ⟨u14, hu14, hf⟩ := zb hf
                  refine v_callVi h (rest := []) dX6_copy_84 (tX3_spans l G ca (fun i => ad (123 + i)) (v.2.2.2.2.2.1 3) x4 x5 hu14) gX6_copy_X3_spans rfl rfl ⟨rfl, rfl⟩ nX3_spans ⟨Nat.le_of_ble_eq_true rfl, Nat.le_of_ble_eq_true rfl⟩ [123, 124] rfl rfl 0 rfl rfl rfl rfl (Nat.le_of_ble_eq_true rfl) ⟨Nat.zero_le _, Nat.zero_le _⟩ rfl (wX ca ad v) rfl (wX_adr _ _ _ _) 87 rfl ?_
                  refine v_if_ne h dX6_copy_87 93 (by decide) 90 rfl (fun c15 => ?_) (fun c15 => ?_)
                  · replace hf := zf c15 hf
                    refine v_aload h dX6_copy_93 6 rfl 95 rfl ?_
                    refine v_get h (v := .ref (ad 118)) dX6_copy_95 iX6_copy_X3 117 rfl rfl 0 (by decide) (zwi 4 rfl) rfl 98 rfl ?_
                    refine v_iload_n h dX6_copy_98 2 rfl 99 rfl ?_
                    refine v_aload h dX6_copy_99 7 rfl 101 rfl ?_
                    refine v_get h (v := .ref (ad 124)) dX6_copy_101 iX6_copy_X3 123 rfl rfl 0 (by decide) (zwi 4 rfl) rfl 104 rfl ?_
                    refine v_iload h dX6_copy_104 4 rfl 106 rfl ?_
                    refine v_iload h dX6_copy_106 5 rfl 108 rfl ?_
                    obtain ⟨g16, hf⟩ := zg hf
                    refine v_copyl h (f := (v.2.2.2.2.2.1 0).1) (g := (v.2.2.2.2.2.1 3).1) dX6_copy_108 (zwi 5 rfl) (zwi 6 rfl) (zwi 7 rfl) (zwi 8 rfl) 118 124 1 rfl rfl rfl g16 (Nat.le_of_ble_eq_true rfl) (Nat.le_of_ble_eq_true rfl) (wX ca ad (v.1, v.2.1, v.2.2.1, v.2.2.2.1, v.2.2.2.2.1, (va_up v.2.2.2.2.2.1 3 ((zcpy (v.2.2.2.2.2.1 0).1 (v.2.2.2.2.2.1 3).1 x2 x4 x5), (v.2.2.2.2.2.1 3).2)), v.2.2.2.2.2.2)) rfl 111 rfl ?_
                    refine v_iload h dX6_copy_111 5 rfl 113 rfl ?_
                    cases (Option.some.inj hf)
                    exact hE 113 _ rfl dX6_copy_113
                  · replace hf := zt c15 hf
                    refine v_bipush h dX6_copy_90 (-13) rfl 92 rfl ?_
                    cases (Option.some.inj hf)
                    exact hE 92 _ rfl dX6_copy_92
              · replace hf := zf c11 hf
                refine v_bipush h dX6_copy_64 (-12) rfl 66 rfl ?_
                cases (Option.some.inj hf)
                exact hE 66 _ rfl dX6_copy_66
            · replace hf := zt c10 hf
              refine v_bipush h dX6_copy_48 (-11) rfl 50 rfl ?_
              cases (Option.some.inj hf)
              exact hE 50 _ rfl dX6_copy_50
      · try rw [e6] at hf
        refine v_aald h dX6_copy_21 116 4 rfl rfl (zix_in g5) (b := (ad 119)) (by rw [e6] <;> rfl) 22 rfl ?_
        refine v_astore h dX6_copy_22 (Nat.le_of_ble_eq_true rfl) rfl rfl [(0, .ref (ad 0)), (1, .int x1), (2, .int x2), (3, .int x3), (4, .int x4), (5, .int x5), (6, .ref (ad 119))] rfl 24 rfl ?_
        refine v_aload_n h dX6_copy_24 0 rfl 25 rfl ?_
        refine v_get h (v := .ref (ad 116)) dX6_copy_25 iX6_copy_X6 0 rfl rfl 5 (by decide) (zwi 1 rfl) rfl 28 rfl ?_
        refine v_iload_n h dX6_copy_28 3 rfl 29 rfl ?_
        obtain ⟨g7, hf⟩ := zg hf
        rcases zix4 g7 with e8 | e8 | e8 | e8
        · try rw [e8] at hf
          refine v_aald h dX6_copy_29 116 4 rfl rfl (zix_in g7) (b := (ad 117)) (by rw [e8] <;> rfl) 30 rfl ?_
          refine v_astore h dX6_copy_30 (Nat.le_of_ble_eq_true rfl) rfl rfl [(0, .ref (ad 0)), (1, .int x1), (2, .int x2), (3, .int x3), (4, .int x4), (5, .int x5), (6, .ref (ad 119)), (7, .ref (ad 117))] rfl 32 rfl ?_
          refine v_aload h dX6_copy_32 6 rfl 34 rfl ?_
          refine v_get h (v := .int (v.2.2.2.2.2.1 1).2.1) dX6_copy_34 iX6_copy_X3 119 rfl rfl 1 (by decide) (zwi 2 rfl) rfl 37 rfl ?_
          refine v_if_eq h dX6_copy_37 48 (by decide) 40 rfl (fun c9 => ?_) (fun c9 => ?_)
          · replace hf := zt c9 hf
            refine v_bipush h dX6_copy_48 (-11) rfl 50 rfl ?_
            cases (Option.some.inj hf)
            exact hE 50 _ rfl dX6_copy_50
          · replace hf := zf c9 hf
            refine v_aload h dX6_copy_40 7 rfl 42 rfl ?_
            refine v_get h (v := .int (v.2.2.2.2.2.1 0).2.1) dX6_copy_42 iX6_copy_X3 117 rfl rfl 1 (by decide) (zwi 2 rfl) rfl 45 rfl ?_
            refine v_if_ne h dX6_copy_45 51 (by decide) 48 rfl (fun c10 => ?_) (fun c10 => ?_)
            · replace hf := zf c10 hf
              refine v_aload h dX6_copy_51 6 rfl 53 rfl ?_
              refine v_get h (v := .int (v.2.2.2.2.2.1 1).2.2.1) dX6_copy_53 iX6_copy_X3 119 rfl rfl 2 (by decide) (zwi 3 rfl) rfl 56 rfl ?_
              refine v_aload h dX6_copy_56 7 rfl 58 rfl ?_
              refine v_get h (v := .int (v.2.2.2.2.2.1 0).2.2.1) dX6_copy_58 iX6_copy_X3 117 rfl rfl 2 (by decide) (zwi 3 rfl) rfl 61 rfl ?_
              refine v_icmp_eq h dX6_copy_61 67 (by decide) 64 rfl (fun c11 => ?_) (fun c11 => ?_)
              · replace hf := zt c11 hf
                refine v_aload h dX6_copy_67 6 rfl 69 rfl ?_
                refine v_iload_n h dX6_copy_69 2 rfl 70 rfl ?_
                refine v_iload h dX6_copy_70 5 rfl 72 rfl ?_
                obtain ⟨u12, hu12, hf⟩ := zb hf
                refine v_callVi h (rest := []) dX6_copy_72 (tX3_spans l G ca (fun i => ad (119 + i)) (v.2.2.2.2.2.1 1) x2 x5 hu12) gX6_copy_X3_spans rfl rfl ⟨rfl, rfl⟩ nX3_spans ⟨Nat.le_of_ble_eq_true rfl, Nat.le_of_ble_eq_true rfl⟩ [119, 120] rfl rfl 0 rfl rfl rfl rfl (Nat.le_of_ble_eq_true rfl) ⟨Nat.zero_le _, Nat.zero_le _⟩ rfl (wX ca ad v) rfl (wX_adr _ _ _ _) 75 rfl ?_
                refine v_if_eq h dX6_copy_75 90 (by decide) 78 rfl (fun c13 => ?_) (fun c13 => ?_)
                · replace hf := zt c13 hf
                  refine v_bipush h dX6_copy_90 (-13) rfl 92 rfl ?_
                  cases (Option.some.inj hf)
                  exact hE 92 _ rfl dX6_copy_92
                · replace hf := zf c13 hf
                  refine v_aload h dX6_copy_78 7 rfl 80 rfl ?_
                  refine v_iload h dX6_copy_80 4 rfl 82 rfl ?_
                  refine v_iload h dX6_copy_82 5 rfl 84 rfl ?_
                  obtain ⟨u14, hu14, hf⟩ := zb hf
                  refine v_callVi h (rest := []) dX6_copy_84 (tX3_spans l G ca (fun i => ad (117 + i)) (v.2.2.2.2.2.1 0) x4 x5 hu14) gX6_copy_X3_spans rfl rfl ⟨rfl, rfl⟩ nX3_spans ⟨Nat.le_of_ble_eq_true rfl, Nat.le_of_ble_eq_true rfl⟩ [117, 118] rfl rfl 0 rfl rfl rfl rfl (Nat.le_of_ble_eq_true rfl) ⟨Nat.zero_le _, Nat.zero_le _⟩ rfl (wX ca ad v) rfl (wX_adr _ _ _ _) 87 rfl ?_
                  refine v_if_ne h dX6_copy_87 93 (by decide) 90 rfl (fun c15 => ?_) (fun c15 => ?_)
                  · replace hf := zf c15 hf
                    refine v_aload h dX6_copy_93 6 rfl 95 rfl ?_
                    refine v_get h (v := .ref (ad 120)) dX6_copy_95 iX6_copy_X3 119 rfl rfl 0 (by decide) (zwi 4 rfl) rfl 98 rfl ?_
                    refine v_iload_n h dX6_copy_98 2 rfl 99 rfl ?_
                    refine v_aload h dX6_copy_99 7 rfl 101 rfl ?_
                    refine v_get h (v := .ref (ad 118)) dX6_copy_101 iX6_copy_X3 117 rfl rfl 0 (by decide) (zwi 4 rfl) rfl 104 rfl ?_
                    refine v_iload h dX6_copy_104 4 rfl 106 rfl ?_
                    refine v_iload h dX6_copy_106 5 rfl 108 rfl ?_
                    obtain ⟨g16, hf⟩ := zg hf
                    refine v_copyl h (f := (v.2.2.2.2.2.1 1).1) (g := (v.2.2.2.2.2.1 0).1) dX6_copy_108 (zwi 5 rfl) (zwi 6 rfl) (zwi 7 rfl) (zwi 8 rfl) 120 118 1 rfl rfl rfl g16 (Nat.le_of_ble_eq_true rfl) (Nat.le_of_ble_eq_true rfl) (wX ca ad (v.1, v.2.1, v.2.2.1, v.2.2.2.1, v.2.2.2.2.1, (va_up v.2.2.2.2.2.1 0 ((zcpy (v.2.2.2.2.2.1 1).1 (v.2.2.2.2.2.1 0).1 x2 x4 x5), (v.2.2.2.2.2.1 0).2)), v.2.2.2.2.2.2)) rfl 111 rfl ?_
                    refine v_iload h dX6_copy_111 5 rfl 113 rfl ?_
                    cases (Option.some.inj hf)
                    exact hE 113 _ rfl dX6_copy_113
                  · replace hf := zt c15 hf
                    refine v_bipush h dX6_copy_90 (-13) rfl 92 rfl ?_
                    cases (Option.some.inj hf)
                    exact hE 92 _ rfl dX6_copy_92
              · replace hf := zf c11 hf
                refine v_bipush h dX6_copy_64 (-12) rfl 66 rfl ?_
                cases (Option.some.inj hf)
                exact hE 66 _ rfl dX6_copy_66
            · replace hf := zt c10 hf
              refine v_bipush h dX6_copy_48 (-11) rfl 50 rfl ?_
              cases (Option.some.inj hf)
              exact hE 50 _ rfl dX6_copy_50
        · try rw [e8] at hf
          refine v_aald h dX6_copy_29 116 4 rfl rfl (zix_in g7) (b := (ad 119)) (by rw [e8] <;> rfl) 30 rfl ?_
          refine v_astore h dX6_copy_30 (Nat.le_of_ble_eq_true rfl) rfl rfl [(0, .ref (ad 0)), (1, .int x1), (2, .int x2), (3, .int x3), (4, .int x4), (5, .int x5), (6, .ref (ad 119)), (7, .ref (ad 119))] rfl 32 rfl ?_
          refine v_aload h dX6_copy_32 6 rfl 34 rfl ?_
          refine v_get h (v := .int (v.2.2.2.2.2.1 1).2.1) dX6_copy_34 iX6_copy_X3 119 rfl rfl 1 (by decide) (zwi 2 rfl) rfl 37 rfl ?_
          refine v_if_eq h dX6_copy_37 48 (by decide) 40 rfl (fun c9 => ?_) (fun c9 => ?_)
          · replace hf := zt c9 hf
            refine v_bipush h dX6_copy_48 (-11) rfl 50 rfl ?_
            cases (Option.some.inj hf)
            exact hE 50 _ rfl dX6_copy_50
          · replace hf := zf c9 hf
            refine v_aload h dX6_copy_40 7 rfl 42 rfl ?_
            refine v_get h (v := .int (v.2.2.2.2.2.1 1).2.1) dX6_copy_42 iX6_copy_X3 119 rfl rfl 1 (by decide) (zwi 2 rfl) rfl 45 rfl ?_
            refine v_if_ne h dX6_copy_45 51 (by decide) 48 rfl (fun c10 => ?_) (fun c10 => ?_)
            · replace hf := zf c10 hf
              refine v_aload h dX6_copy_51 6 rfl 53 rfl ?_
              refine v_get h (v := .int (v.2.2.2.2.2.1 1).2.2.1) dX6_copy_53 iX6_copy_X3 119 rfl rfl 2 (by decide) (zwi 3 rfl) rfl 56 rfl ?_
              refine v_aload h dX6_copy_56 7 rfl 58 rfl ?_
              refine v_get h (v := .int (v.2.2.2.2.2.1 1).2.2.1) dX6_copy_58 iX6_copy_X3 119 rfl rfl 2 (by decide) (zwi 3 rfl) rfl 61 rfl ?_
              refine v_icmp_eq h dX6_copy_61 67 (by decide) 64 rfl (fun c11 => ?_) (fun c11 => ?_)
              · replace hf := zt c11 hf
                refine v_aload h dX6_copy_67 6 rfl 69 rfl ?_
                refine v_iload_n h dX6_copy_69 2 rfl 70 rfl ?_
                refine v_iload h dX6_copy_70 5 rfl 72 rfl ?_
                obtain ⟨u12, hu12, hf⟩ := zb hf
                refine v_callVi h (rest := []) dX6_copy_72 (tX3_spans l G ca (fun i => ad (119 + i)) (v.2.2.2.2.2.1 1) x2 x5 hu12) gX6_copy_X3_spans rfl rfl ⟨rfl, rfl⟩ nX3_spans ⟨Nat.le_of_ble_eq_true rfl, Nat.le_of_ble_eq_true rfl⟩ [119, 120] rfl rfl 0 rfl rfl rfl rfl (Nat.le_of_ble_eq_true rfl) ⟨Nat.zero_le _, Nat.zero_le _⟩ rfl (wX ca ad v) rfl (wX_adr _ _ _ _) 75 rfl ?_
                refine v_if_eq h dX6_copy_75 90 (by decide) 78 rfl (fun c13 => ?_) (fun c13 => ?_)
                · replace hf := zt c13 hf
                  refine v_bipush h dX6_copy_90 (-13) rfl 92 rfl ?_
                  cases (Option.some.inj hf)
                  exact hE 92 _ rfl dX6_copy_92
                · replace hf := zf c13 hf
                  refine v_aload h dX6_copy_78 7 rfl 80 rfl ?_
                  refine v_iload h dX6_copy_80 4 rfl 82 rfl ?_
                  refine v_iload h dX6_copy_82 5 rfl 84 rfl ?_
                  obtain ⟨u14, hu14, hf⟩ := zb hf
                  refine v_callVi h (rest := []) dX6_copy_84 (tX3_spans l G ca (fun i => ad (119 + i)) (v.2.2.2.2.2.1 1) x4 x5 hu14) gX6_copy_X3_spans rfl rfl ⟨rfl, rfl⟩ nX3_spans ⟨Nat.le_of_ble_eq_true rfl, Nat.le_of_ble_eq_true rfl⟩ [119, 120] rfl rfl 0 rfl rfl rfl rfl (Nat.le_of_ble_eq_true rfl) ⟨Nat.zero_le _, Nat.zero_le _⟩ rfl (wX ca ad v) rfl (wX_adr _ _ _ _) 87 rfl ?_
                  refine v_if_ne h dX6_copy_87 93 (by decide) 90 rfl (fun c15 => ?_) (fun c15 => ?_)
                  · replace hf := zf c15 hf
                    refine v_aload h dX6_copy_93 6 rfl 95 rfl ?_
                    refine v_get h (v := .ref (ad 120)) dX6_copy_95 iX6_copy_X3 119 rfl rfl 0 (by decide) (zwi 4 rfl) rfl 98 rfl ?_
                    refine v_iload_n h dX6_copy_98 2 rfl 99 rfl ?_
                    refine v_aload h dX6_copy_99 7 rfl 101 rfl ?_
                    refine v_get h (v := .ref (ad 120)) dX6_copy_101 iX6_copy_X3 119 rfl rfl 0 (by decide) (zwi 4 rfl) rfl 104 rfl ?_
                    refine v_iload h dX6_copy_104 4 rfl 106 rfl ?_
                    refine v_iload h dX6_copy_106 5 rfl 108 rfl ?_
                    obtain ⟨g16, hf⟩ := zg hf
                    refine v_copyl h (f := (v.2.2.2.2.2.1 1).1) (g := (v.2.2.2.2.2.1 1).1) dX6_copy_108 (zwi 5 rfl) (zwi 6 rfl) (zwi 7 rfl) (zwi 8 rfl) 120 120 1 rfl rfl rfl g16 (Nat.le_of_ble_eq_true rfl) (Nat.le_of_ble_eq_true rfl) (wX ca ad (v.1, v.2.1, v.2.2.1, v.2.2.2.1, v.2.2.2.2.1, (va_up v.2.2.2.2.2.1 1 ((zcpy (v.2.2.2.2.2.1 1).1 (v.2.2.2.2.2.1 1).1 x2 x4 x5), (v.2.2.2.2.2.1 1).2)), v.2.2.2.2.2.2)) rfl 111 rfl ?_
                    refine v_iload h dX6_copy_111 5 rfl 113 rfl ?_
                    cases (Option.some.inj hf)
                    exact hE 113 _ rfl dX6_copy_113
                  · replace hf := zt c15 hf
                    refine v_bipush h dX6_copy_90 (-13) rfl 92 rfl ?_
                    cases (Option.some.inj hf)
                    exact hE 92 _ rfl dX6_copy_92
              · replace hf := zf c11 hf
                refine v_bipush h dX6_copy_64 (-12) rfl 66 rfl ?_
                cases (Option.some.inj hf)
                exact hE 66 _ rfl dX6_copy_66
            · replace hf := zt c10 hf
              refine v_bipush h dX6_copy_48 (-11) rfl 50 rfl ?_
              cases (Option.some.inj hf)
              exact hE 50 _ rfl dX6_copy_50
        · try rw [e8] at hf
          refine v_aald h dX6_copy_29 116 4 rfl rfl (zix_in g7) (b := (ad 121)) (by rw [e8] <;> rfl) 30 rfl ?_
          refine v_astore h dX6_copy_30 (Nat.le_of_ble_eq_true rfl) rfl rfl [(0, .ref (ad 0)), (1, .int x1), (2, .int x2), (3, .int x3), (4, .int x4), (5, .int x5), (6, .ref (ad 119)), (7, .ref (ad 121))] rfl 32 rfl ?_
          refine v_aload h dX6_copy_32 6 rfl 34 rfl ?_
          refine v_get h (v := .int (v.2.2.2.2.2.1 1).2.1) dX6_copy_34 iX6_copy_X3 119 rfl rfl 1 (by decide) (zwi 2 rfl) rfl 37 rfl ?_
          refine v_if_eq h dX6_copy_37 48 (by decide) 40 rfl (fun c9 => ?_) (fun c9 => ?_)
          · replace hf := zt c9 hf
            refine v_bipush h dX6_copy_48 (-11) rfl 50 rfl ?_
            cases (Option.some.inj hf)
            exact hE 50 _ rfl dX6_copy_50
          · replace hf := zf c9 hf
            refine v_aload h dX6_copy_40 7 rfl 42 rfl ?_
            refine v_get h (v := .int (v.2.2.2.2.2.1 2).2.1) dX6_copy_42 iX6_copy_X3 121 rfl rfl 1 (by decide) (zwi 2 rfl) rfl 45 rfl ?_
            refine v_if_ne h dX6_copy_45 51 (by decide) 48 rfl (fun c10 => ?_) (fun c10 => ?_)
            · replace hf := zf c10 hf
              refine v_aload h dX6_copy_51 6 rfl 53 rfl ?_
              refine v_get h (v := .int (v.2.2.2.2.2.1 1).2.2.1) dX6_copy_53 iX6_copy_X3 119 rfl rfl 2 (by decide) (zwi 3 rfl) rfl 56 rfl ?_
              refine v_aload h dX6_copy_56 7 rfl 58 rfl ?_
              refine v_get h (v := .int (v.2.2.2.2.2.1 2).2.2.1) dX6_copy_58 iX6_copy_X3 121 rfl rfl 2 (by decide) (zwi 3 rfl) rfl 61 rfl ?_
              refine v_icmp_eq h dX6_copy_61 67 (by decide) 64 rfl (fun c11 => ?_) (fun c11 => ?_)
              · replace hf := zt c11 hf
                refine v_aload h dX6_copy_67 6 rfl 69 rfl ?_
                refine v_iload_n h dX6_copy_69 2 rfl 70 rfl ?_
                refine v_iload h dX6_copy_70 5 rfl 72 rfl ?_
                obtain ⟨u12, hu12, hf⟩ := zb hf
                refine v_callVi h (rest := []) dX6_copy_72 (tX3_spans l G ca (fun i => ad (119 + i)) (v.2.2.2.2.2.1 1) x2 x5 hu12) gX6_copy_X3_spans rfl rfl ⟨rfl, rfl⟩ nX3_spans ⟨Nat.le_of_ble_eq_true rfl, Nat.le_of_ble_eq_true rfl⟩ [119, 120] rfl rfl 0 rfl rfl rfl rfl (Nat.le_of_ble_eq_true rfl) ⟨Nat.zero_le _, Nat.zero_le _⟩ rfl (wX ca ad v) rfl (wX_adr _ _ _ _) 75 rfl ?_
                refine v_if_eq h dX6_copy_75 90 (by decide) 78 rfl (fun c13 => ?_) (fun c13 => ?_)
                · replace hf := zt c13 hf
                  refine v_bipush h dX6_copy_90 (-13) rfl 92 rfl ?_
                  cases (Option.some.inj hf)
                  exact hE 92 _ rfl dX6_copy_92
                · replace hf := zf c13 hf
                  refine v_aload h dX6_copy_78 7 rfl 80 rfl ?_
                  refine v_iload h dX6_copy_80 4 rfl 82 rfl ?_
                  refine v_iload h dX6_copy_82 5 rfl 84 rfl ?_
                  obtain ⟨u14, hu14, hf⟩ := zb hf
                  refine v_callVi h (rest := []) dX6_copy_84 (tX3_spans l G ca (fun i => ad (121 + i)) (v.2.2.2.2.2.1 2) x4 x5 hu14) gX6_copy_X3_spans rfl rfl ⟨rfl, rfl⟩ nX3_spans ⟨Nat.le_of_ble_eq_true rfl, Nat.le_of_ble_eq_true rfl⟩ [121, 122] rfl rfl 0 rfl rfl rfl rfl (Nat.le_of_ble_eq_true rfl) ⟨Nat.zero_le _, Nat.zero_le _⟩ rfl (wX ca ad v) rfl (wX_adr _ _ _ _) 87 rfl ?_
                  refine v_if_ne h dX6_copy_87 93 (by decide) 90 rfl (fun c15 => ?_) (fun c15 => ?_)
                  · replace hf := zf c15 hf
                    refine v_aload h dX6_copy_93 6 rfl 95 rfl ?_
                    refine v_get h (v := .ref (ad 120)) dX6_copy_95 iX6_copy_X3 119 rfl rfl 0 (by decide) (zwi 4 rfl) rfl 98 rfl ?_
                    refine v_iload_n h dX6_copy_98 2 rfl 99 rfl ?_
                    refine v_aload h dX6_copy_99 7 rfl 101 rfl ?_
                    refine v_get h (v := .ref (ad 122)) dX6_copy_101 iX6_copy_X3 121 rfl rfl 0 (by decide) (zwi 4 rfl) rfl 104 rfl ?_
                    refine v_iload h dX6_copy_104 4 rfl 106 rfl ?_
                    refine v_iload h dX6_copy_106 5 rfl 108 rfl ?_
                    obtain ⟨g16, hf⟩ := zg hf
                    refine v_copyl h (f := (v.2.2.2.2.2.1 1).1) (g := (v.2.2.2.2.2.1 2).1) dX6_copy_108 (zwi 5 rfl) (zwi 6 rfl) (zwi 7 rfl) (zwi 8 rfl) 120 122 1 rfl rfl rfl g16 (Nat.le_of_ble_eq_true rfl) (Nat.le_of_ble_eq_true rfl) (wX ca ad (v.1, v.2.1, v.2.2.1, v.2.2.2.1, v.2.2.2.2.1, (va_up v.2.2.2.2.2.1 2 ((zcpy (v.2.2.2.2.2.1 1).1 (v.2.2.2.2.2.1 2).1 x2 x4 x5), (v.2.2.2.2.2.1 2).2)), v.2.2.2.2.2.2)) rfl 111 rfl ?_
                    refine v_iload h dX6_copy_111 5 rfl 113 rfl ?_
                    cases (Option.some.inj hf)
                    exact hE 113 _ rfl dX6_copy_113
                  · replace hf := zt c15 hf
                    refine v_bipush h dX6_copy_90 (-13) rfl 92 rfl ?_
                    cases (Option.some.inj hf)
                    exact hE 92 _ rfl dX6_copy_92
              · replace hf := zf c11 hf
                refine v_bipush h dX6_copy_64 (-12) rfl 66 rfl ?_
                cases (Option.some.inj hf)
                exact hE 66 _ rfl dX6_copy_66
            · replace hf := zt c10 hf
              refine v_bipush h dX6_copy_48 (-11) rfl 50 rfl ?_
              cases (Option.some.inj hf)
              exact hE 50 _ rfl dX6_copy_50
        · try rw [e8] at hf
          refine v_aald h dX6_copy_29 116 4 rfl rfl (zix_in g7) (b := (ad 123)) (by rw [e8] <;> rfl) 30 rfl ?_
          refine v_astore h dX6_copy_30 (Nat.le_of_ble_eq_true rfl) rfl rfl [(0, .ref (ad 0)), (1, .int x1), (2, .int x2), (3, .int x3), (4, .int x4), (5, .int x5), (6, .ref (ad 119)), (7, .ref (ad 123))] rfl 32 rfl ?_
          refine v_aload h dX6_copy_32 6 rfl 34 rfl ?_
          refine v_get h (v := .int (v.2.2.2.2.2.1 1).2.1) dX6_copy_34 iX6_copy_X3 119 rfl rfl 1 (by decide) (zwi 2 rfl) rfl 37 rfl ?_
          refine v_if_eq h dX6_copy_37 48 (by decide) 40 rfl (fun c9 => ?_) (fun c9 => ?_)
          · replace hf := zt c9 hf
            refine v_bipush h dX6_copy_48 (-11) rfl 50 rfl ?_
            cases (Option.some.inj hf)
            exact hE 50 _ rfl dX6_copy_50
          · replace hf := zf c9 hf
            refine v_aload h dX6_copy_40 7 rfl 42 rfl ?_
            refine v_get h (v := .int (v.2.2.2.2.2.1 3).2.1) dX6_copy_42 iX6_copy_X3 123 rfl rfl 1 (by decide) (zwi 2 rfl) rfl 45 rfl ?_
            refine v_if_ne h dX6_copy_45 51 (by decide) 48 rfl (fun c10 => ?_) (fun c10 => ?_)
            · replace hf := zf c10 hf
              refine v_aload h dX6_copy_51 6 rfl 53 rfl ?_
              refine v_get h (v := .int (v.2.2.2.2.2.1 1).2.2.1) dX6_copy_53 iX6_copy_X3 119 rfl rfl 2 (by decide) (zwi 3 rfl) rfl 56 rfl ?_
              refine v_aload h dX6_copy_56 7 rfl 58 rfl ?_
              refine v_get h (v := .int (v.2.2.2.2.2.1 3).2.2.1) dX6_copy_58 iX6_copy_X3 123 rfl rfl 2 (by decide) (zwi 3 rfl) rfl 61 rfl ?_
              refine v_icmp_eq h dX6_copy_61 67 (by decide) 64 rfl (fun c11 => ?_) (fun c11 => ?_)
              · replace hf := zt c11 hf
                refine v_aload h dX6_copy_67 6 rfl 69 rfl ?_
                refine v_iload_n h dX6_copy_69 2 rfl 70 rfl ?_
                refine v_iload h dX6_copy_70 5 rfl 72 rfl ?_
                obtain ⟨u12, hu12, hf⟩ := zb hf
                refine v_callVi h (rest := []) dX6_copy_72 (tX3_spans l G ca (fun i => ad (119 + i)) (v.2.2.2.2.2.1 1) x2 x5 hu12) gX6_copy_X3_spans rfl rfl ⟨rfl, rfl⟩ nX3_spans ⟨Nat.le_of_ble_eq_true rfl, Nat.le_of_ble_eq_true rfl⟩ [119, 120] rfl rfl 0 rfl rfl rfl rfl (Nat.le_of_ble_eq_true rfl) ⟨Nat.zero_le _, Nat.zero_le _⟩ rfl (wX ca ad v) rfl (wX_adr _ _ _ _) 75 rfl ?_
                refine v_if_eq h dX6_copy_75 90 (by decide) 78 rfl (fun c13 => ?_) (fun c13 => ?_)
                · replace hf := zt c13 hf
                  refine v_bipush h dX6_copy_90 (-13) rfl 92 rfl ?_
                  cases (Option.some.inj hf)
                  exact hE 92 _ rfl dX6_copy_92
                · replace hf := zf c13 hf
                  refine v_aload h dX6_copy_78 7 rfl 80 rfl ?_
                  refine v_iload h dX6_copy_80 4 rfl 82 rfl ?_
                  refine v_iload h dX6_copy_82 5 rfl 84 rfl ?_
                  obtain ⟨u14, hu14, hf⟩ := zb hf
                  refine v_callVi h (rest := []) dX6_copy_84 (tX3_spans l G ca (fun i => ad (123 + i)) (v.2.2.2.2.2.1 3) x4 x5 hu14) gX6_copy_X3_spans rfl rfl ⟨rfl, rfl⟩ nX3_spans ⟨Nat.le_of_ble_eq_true rfl, Nat.le_of_ble_eq_true rfl⟩ [123, 124] rfl rfl 0 rfl rfl rfl rfl (Nat.le_of_ble_eq_true rfl) ⟨Nat.zero_le _, Nat.zero_le _⟩ rfl (wX ca ad v) rfl (wX_adr _ _ _ _) 87 rfl ?_
                  refine v_if_ne h dX6_copy_87 93 (by decide) 90 rfl (fun c15 => ?_) (fun c15 => ?_)
                  · replace hf := zf c15 hf
                    refine v_aload h dX6_copy_93 6 rfl 95 rfl ?_
                    refine v_get h (v := .ref (ad 120)) dX6_copy_95 iX6_copy_X3 119 rfl rfl 0 (by decide) (zwi 4 rfl) rfl 98 rfl ?_
                    refine v_iload_n h dX6_copy_98 2 rfl 99 rfl ?_
                    refine v_aload h dX6_copy_99 7 rfl 101 rfl ?_
                    refine v_get h (v := .ref (ad 124)) dX6_copy_101 iX6_copy_X3 123 rfl rfl 0 (by decide) (zwi 4 rfl) rfl 104 rfl ?_
                    refine v_iload h dX6_copy_104 4 rfl 106 rfl ?_
                    refine v_iload h dX6_copy_106 5 rfl 108 rfl ?_
                    obtain ⟨g16, hf⟩ := zg hf
                    refine v_copyl h (f := (v.2.2.2.2.2.1 1).1) (g := (v.2.2.2.2.2.1 3).1) dX6_copy_108 (zwi 5 rfl) (zwi 6 rfl) (zwi 7 rfl) (zwi 8 rfl) 120 124 1 rfl rfl rfl g16 (Nat.le_of_ble_eq_true rfl) (Nat.le_of_ble_eq_true rfl) (wX ca ad (v.1, v.2.1, v.2.2.1, v.2.2.2.1, v.2.2.2.2.1, (va_up v.2.2.2.2.2.1 3 ((zcpy (v.2.2.2.2.2.1 1).1 (v.2.2.2.2.2.1 3).1 x2 x4 x5), (v.2.2.2.2.2.1 3).2)), v.2.2.2.2.2.2)) rfl 111 rfl ?_
                    refine v_iload h dX6_copy_111 5 rfl 113 rfl ?_
                    cases (Option.some.inj hf)
                    exact hE 113 _ rfl dX6_copy_113
                  · replace hf := zt c15 hf
                    refine v_bipush h dX6_copy_90 (-13) rfl 92 rfl ?_
                    cases (Option.some.inj hf)
                    exact hE 92 _ rfl dX6_copy_92
              · replace hf := zf c11 hf
                refine v_bipush h dX6_copy_64 (-12) rfl 66 rfl ?_
                cases (Option.some.inj hf)
                exact hE 66 _ rfl dX6_copy_66
            · replace hf := zt c10 hf
              refine v_bipush h dX6_copy_48 (-11) rfl 50 rfl ?_
              cases (Option.some.inj hf)
              exact hE 50 _ rfl dX6_copy_50
      · try rw [e6] at hf
        refine v_aald h dX6_copy_21 116 4 rfl rfl (zix_in g5) (b := (ad 121)) (by rw [e6] <;> rfl) 22 rfl ?_
        refine v_astore h dX6_copy_22 (Nat.le_of_ble_eq_true rfl) rfl rfl [(0, .ref (ad 0)), (1, .int x1), (2, .int x2), (3, .int x3), (4, .int x4), (5, .int x5), (6, .ref (ad 121))] rfl 24 rfl ?_
        refine v_aload_n h dX6_copy_24 0 rfl 25 rfl ?_
        refine v_get h (v := .ref (ad 116)) dX6_copy_25 iX6_copy_X6 0 rfl rfl 5 (by decide) (zwi 1 rfl) rfl 28 rfl ?_
        refine v_iload_n h dX6_copy_28 3 rfl 29 rfl ?_
        obtain ⟨g7, hf⟩ := zg hf
        rcases zix4 g7 with e8 | e8 | e8 | e8
        · try rw [e8] at hf
          refine v_aald h dX6_copy_29 116 4 rfl rfl (zix_in g7) (b := (ad 117)) (by rw [e8] <;> rfl) 30 rfl ?_
          refine v_astore h dX6_copy_30 (Nat.le_of_ble_eq_true rfl) rfl rfl [(0, .ref (ad 0)), (1, .int x1), (2, .int x2), (3, .int x3), (4, .int x4), (5, .int x5), (6, .ref (ad 121)), (7, .ref (ad 117))] rfl 32 rfl ?_
          refine v_aload h dX6_copy_32 6 rfl 34 rfl ?_
          refine v_get h (v := .int (v.2.2.2.2.2.1 2).2.1) dX6_copy_34 iX6_copy_X3 121 rfl rfl 1 (by decide) (zwi 2 rfl) rfl 37 rfl ?_
          refine v_if_eq h dX6_copy_37 48 (by decide) 40 rfl (fun c9 => ?_) (fun c9 => ?_)
          · replace hf := zt c9 hf
            refine v_bipush h dX6_copy_48 (-11) rfl 50 rfl ?_
            cases (Option.some.inj hf)
            exact hE 50 _ rfl dX6_copy_50
          · replace hf := zf c9 hf
            refine v_aload h dX6_copy_40 7 rfl 42 rfl ?_
            refine v_get h (v := .int (v.2.2.2.2.2.1 0).2.1) dX6_copy_42 iX6_copy_X3 117 rfl rfl 1 (by decide) (zwi 2 rfl) rfl 45 rfl ?_
            refine v_if_ne h dX6_copy_45 51 (by decide) 48 rfl (fun c10 => ?_) (fun c10 => ?_)
            · replace hf := zf c10 hf
              refine v_aload h dX6_copy_51 6 rfl 53 rfl ?_
              refine v_get h (v := .int (v.2.2.2.2.2.1 2).2.2.1) dX6_copy_53 iX6_copy_X3 121 rfl rfl 2 (by decide) (zwi 3 rfl) rfl 56 rfl ?_
              refine v_aload h dX6_copy_56 7 rfl 58 rfl ?_
              refine v_get h (v := .int (v.2.2.2.2.2.1 0).2.2.1) dX6_copy_58 iX6_copy_X3 117 rfl rfl 2 (by decide) (zwi 3 rfl) rfl 61 rfl ?_
              refine v_icmp_eq h dX6_copy_61 67 (by decide) 64 rfl (fun c11 => ?_) (fun c11 => ?_)
              · replace hf := zt c11 hf
                refine v_aload h dX6_copy_67 6 rfl 69 rfl ?_
                refine v_iload_n h dX6_copy_69 2 rfl 70 rfl ?_
                refine v_iload h dX6_copy_70 5 rfl 72 rfl ?_
                obtain ⟨u12, hu12, hf⟩ := zb hf
                refine v_callVi h (rest := []) dX6_copy_72 (tX3_spans l G ca (fun i => ad (121 + i)) (v.2.2.2.2.2.1 2) x2 x5 hu12) gX6_copy_X3_spans rfl rfl ⟨rfl, rfl⟩ nX3_spans ⟨Nat.le_of_ble_eq_true rfl, Nat.le_of_ble_eq_true rfl⟩ [121, 122] rfl rfl 0 rfl rfl rfl rfl (Nat.le_of_ble_eq_true rfl) ⟨Nat.zero_le _, Nat.zero_le _⟩ rfl (wX ca ad v) rfl (wX_adr _ _ _ _) 75 rfl ?_
                refine v_if_eq h dX6_copy_75 90 (by decide) 78 rfl (fun c13 => ?_) (fun c13 => ?_)
                · replace hf := zt c13 hf
                  refine v_bipush h dX6_copy_90 (-13) rfl 92 rfl ?_
                  cases (Option.some.inj hf)
                  exact hE 92 _ rfl dX6_copy_92
                · replace hf := zf c13 hf
                  refine v_aload h dX6_copy_78 7 rfl 80 rfl ?_
                  refine v_iload h dX6_copy_80 4 rfl 82 rfl ?_
                  refine v_iload h dX6_copy_82 5 rfl 84 rfl ?_
                  obtain ⟨u14, hu14, hf⟩ := zb hf
                  refine v_callVi h (rest := []) dX6_copy_84 (tX3_spans l G ca (fun i => ad (117 + i)) (v.2.2.2.2.2.1 0) x4 x5 hu14) gX6_copy_X3_spans rfl rfl ⟨rfl, rfl⟩ nX3_spans ⟨Nat.le_of_ble_eq_true rfl, Nat.le_of_ble_eq_true rfl⟩ [117, 118] rfl rfl 0 rfl rfl rfl rfl (Nat.le_of_ble_eq_true rfl) ⟨Nat.zero_le _, Nat.zero_le _⟩ rfl (wX ca ad v) rfl (wX_adr _ _ _ _) 87 rfl ?_
                  refine v_if_ne h dX6_copy_87 93 (by decide) 90 rfl (fun c15 => ?_) (fun c15 => ?_)
                  · replace hf := zf c15 hf
                    refine v_aload h dX6_copy_93 6 rfl 95 rfl ?_
                    refine v_get h (v := .ref (ad 122)) dX6_copy_95 iX6_copy_X3 121 rfl rfl 0 (by decide) (zwi 4 rfl) rfl 98 rfl ?_
                    refine v_iload_n h dX6_copy_98 2 rfl 99 rfl ?_
                    refine v_aload h dX6_copy_99 7 rfl 101 rfl ?_
                    refine v_get h (v := .ref (ad 118)) dX6_copy_101 iX6_copy_X3 117 rfl rfl 0 (by decide) (zwi 4 rfl) rfl 104 rfl ?_
                    refine v_iload h dX6_copy_104 4 rfl 106 rfl ?_
                    refine v_iload h dX6_copy_106 5 rfl 108 rfl ?_
                    obtain ⟨g16, hf⟩ := zg hf
                    refine v_copyl h (f := (v.2.2.2.2.2.1 2).1) (g := (v.2.2.2.2.2.1 0).1) dX6_copy_108 (zwi 5 rfl) (zwi 6 rfl) (zwi 7 rfl) (zwi 8 rfl) 122 118 1 rfl rfl rfl g16 (Nat.le_of_ble_eq_true rfl) (Nat.le_of_ble_eq_true rfl) (wX ca ad (v.1, v.2.1, v.2.2.1, v.2.2.2.1, v.2.2.2.2.1, (va_up v.2.2.2.2.2.1 0 ((zcpy (v.2.2.2.2.2.1 2).1 (v.2.2.2.2.2.1 0).1 x2 x4 x5), (v.2.2.2.2.2.1 0).2)), v.2.2.2.2.2.2)) rfl 111 rfl ?_
                    refine v_iload h dX6_copy_111 5 rfl 113 rfl ?_
                    cases (Option.some.inj hf)
                    exact hE 113 _ rfl dX6_copy_113
                  · replace hf := zt c15 hf
                    refine v_bipush h dX6_copy_90 (-13) rfl 92 rfl ?_
                    cases (Option.some.inj hf)
                    exact hE 92 _ rfl dX6_copy_92
              · replace hf := zf c11 hf
                refine v_bipush h dX6_copy_64 (-12) rfl 66 rfl ?_
                cases (Option.some.inj hf)
                exact hE 66 _ rfl dX6_copy_66
            · replace hf := zt c10 hf
              refine v_bipush h dX6_copy_48 (-11) rfl 50 rfl ?_
              cases (Option.some.inj hf)
              exact hE 50 _ rfl dX6_copy_50
        · try rw [e8] at hf
          refine v_aald h dX6_copy_29 116 4 rfl rfl (zix_in g7) (b := (ad 119)) (by rw [e8] <;> rfl) 30 rfl ?_
          refine v_astore h dX6_copy_30 (Nat.le_of_ble_eq_true rfl) rfl rfl [(0, .ref (ad 0)), (1, .int x1), (2, .int x2), (3, .int x3), (4, .int x4), (5, .int x5), (6, .ref (ad 121)), (7, .ref (ad 119))] rfl 32 rfl ?_
          refine v_aload h dX6_copy_32 6 rfl 34 rfl ?_
          refine v_get h (v := .int (v.2.2.2.2.2.1 2).2.1) dX6_copy_34 iX6_copy_X3 121 rfl rfl 1 (by decide) (zwi 2 rfl) rfl 37 rfl ?_
          refine v_if_eq h dX6_copy_37 48 (by decide) 40 rfl (fun c9 => ?_) (fun c9 => ?_)
          · replace hf := zt c9 hf
            refine v_bipush h dX6_copy_48 (-11) rfl 50 rfl ?_
            cases (Option.some.inj hf)
            exact hE 50 _ rfl dX6_copy_50
          · replace hf := zf c9 hf
            refine v_aload h dX6_copy_40 7 rfl 42 rfl ?_
            refine v_get h (v := .int (v.2.2.2.2.2.1 1).2.1) dX6_copy_42 iX6_copy_X3 119 rfl rfl 1 (by decide) (zwi 2 rfl) rfl 45 rfl ?_
            refine v_if_ne h dX6_copy_45 51 (by decide) 48 rfl (fun c10 => ?_) (fun c10 => ?_)
            · replace hf := zf c10 hf
              refine v_aload h dX6_copy_51 6 rfl 53 rfl ?_
              refine v_get h (v := .int (v.2.2.2.2.2.1 2).2.2.1) dX6_copy_53 iX6_copy_X3 121 rfl rfl 2 (by decide) (zwi 3 rfl) rfl 56 rfl ?_
              refine v_aload h dX6_copy_56 7 rfl 58 rfl ?_
              refine v_get h (v := .int (v.2.2.2.2.2.1 1).2.2.1) dX6_copy_58 iX6_copy_X3 119 rfl rfl 2 (by decide) (zwi 3 rfl) rfl 61 rfl ?_
              refine v_icmp_eq h dX6_copy_61 67 (by decide) 64 rfl (fun c11 => ?_) (fun c11 => ?_)
              · replace hf := zt c11 hf
                refine v_aload h dX6_copy_67 6 rfl 69 rfl ?_
                refine v_iload_n h dX6_copy_69 2 rfl 70 rfl ?_
                refine v_iload h dX6_copy_70 5 rfl 72 rfl ?_
                obtain ⟨u12, hu12, hf⟩ := zb hf
                refine v_callVi h (rest := []) dX6_copy_72 (tX3_spans l G ca (fun i => ad (121 + i)) (v.2.2.2.2.2.1 2) x2 x5 hu12) gX6_copy_X3_spans rfl rfl ⟨rfl, rfl⟩ nX3_spans ⟨Nat.le_of_ble_eq_true rfl, Nat.le_of_ble_eq_true rfl⟩ [121, 122] rfl rfl 0 rfl rfl rfl rfl (Nat.le_of_ble_eq_true rfl) ⟨Nat.zero_le _, Nat.zero_le _⟩ rfl (wX ca ad v) rfl (wX_adr _ _ _ _) 75 rfl ?_
                refine v_if_eq h dX6_copy_75 90 (by decide) 78 rfl (fun c13 => ?_) (fun c13 => ?_)
                · replace hf := zt c13 hf
                  refine v_bipush h dX6_copy_90 (-13) rfl 92 rfl ?_
                  cases (Option.some.inj hf)
                  exact hE 92 _ rfl dX6_copy_92
                · replace hf := zf c13 hf
                  refine v_aload h dX6_copy_78 7 rfl 80 rfl ?_
                  refine v_iload h dX6_copy_80 4 rfl 82 rfl ?_
                  refine v_iload h dX6_copy_82 5 rfl 84 rfl ?_
                  obtain ⟨u14, hu14, hf⟩ := zb hf
                  refine v_callVi h (rest := []) dX6_copy_84 (tX3_spans l G ca (fun i => ad (119 + i)) (v.2.2.2.2.2.1 1) x4 x5 hu14) gX6_copy_X3_spans rfl rfl ⟨rfl, rfl⟩ nX3_spans ⟨Nat.le_of_ble_eq_true rfl, Nat.le_of_ble_eq_true rfl⟩ [119, 120] rfl rfl 0 rfl rfl rfl rfl (Nat.le_of_ble_eq_true rfl) ⟨Nat.zero_le _, Nat.zero_le _⟩ rfl (wX ca ad v) rfl (wX_adr _ _ _ _) 87 rfl ?_
                  refine v_if_ne h dX6_copy_87 93 (by decide) 90 rfl (fun c15 => ?_) (fun c15 => ?_)
                  · replace hf := zf c15 hf
                    refine v_aload h dX6_copy_93 6 rfl 95 rfl ?_
                    refine v_get h (v := .ref (ad 122)) dX6_copy_95 iX6_copy_X3 121 rfl rfl 0 (by decide) (zwi 4 rfl) rfl 98 rfl ?_
                    refine v_iload_n h dX6_copy_98 2 rfl 99 rfl ?_
                    refine v_aload h dX6_copy_99 7 rfl 101 rfl ?_
                    refine v_get h (v := .ref (ad 120)) dX6_copy_101 iX6_copy_X3 119 rfl rfl 0 (by decide) (zwi 4 rfl) rfl 104 rfl ?_
                    refine v_iload h dX6_copy_104 4 rfl 106 rfl ?_
                    refine v_iload h dX6_copy_106 5 rfl 108 rfl ?_
                    obtain ⟨g16, hf⟩ := zg hf
                    refine v_copyl h (f := (v.2.2.2.2.2.1 2).1) (g := (v.2.2.2.2.2.1 1).1) dX6_copy_108 (zwi 5 rfl) (zwi 6 rfl) (zwi 7 rfl) (zwi 8 rfl) 122 120 1 rfl rfl rfl g16 (Nat.le_of_ble_eq_true rfl) (Nat.le_of_ble_eq_true rfl) (wX ca ad (v.1, v.2.1, v.2.2.1, v.2.2.2.1, v.2.2.2.2.1, (va_up v.2.2.2.2.2.1 1 ((zcpy (v.2.2.2.2.2.1 2).1 (v.2.2.2.2.2.1 1).1 x2 x4 x5), (v.2.2.2.2.2.1 1).2)), v.2.2.2.2.2.2)) rfl 111 rfl ?_
                    refine v_iload h dX6_copy_111 5 rfl 113 rfl ?_
                    cases (Option.some.inj hf)
                    exact hE 113 _ rfl dX6_copy_113
                  · replace hf := zt c15 hf
                    refine v_bipush h dX6_copy_90 (-13) rfl 92 rfl ?_
                    cases (Option.some.inj hf)
                    exact hE 92 _ rfl dX6_copy_92
              · replace hf := zf c11 hf
                refine v_bipush h dX6_copy_64 (-12) rfl 66 rfl ?_
                cases (Option.some.inj hf)
                exact hE 66 _ rfl dX6_copy_66
            · replace hf := zt c10 hf
              refine v_bipush h dX6_copy_48 (-11) rfl 50 rfl ?_
              cases (Option.some.inj hf)
              exact hE 50 _ rfl dX6_copy_50
        · try rw [e8] at hf
          refine v_aald h dX6_copy_29 116 4 rfl rfl (zix_in g7) (b := (ad 121)) (by rw [e8] <;> rfl) 30 rfl ?_
          refine v_astore h dX6_copy_30 (Nat.le_of_ble_eq_true rfl) rfl rfl [(0, .ref (ad 0)), (1, .int x1), (2, .int x2), (3, .int x3), (4, .int x4), (5, .int x5), (6, .ref (ad 121)), (7, .ref (ad 121))] rfl 32 rfl ?_
          refine v_aload h dX6_copy_32 6 rfl 34 rfl ?_
          refine v_get h (v := .int (v.2.2.2.2.2.1 2).2.1) dX6_copy_34 iX6_copy_X3 121 rfl rfl 1 (by decide) (zwi 2 rfl) rfl 37 rfl ?_
          refine v_if_eq h dX6_copy_37 48 (by decide) 40 rfl (fun c9 => ?_) (fun c9 => ?_)
          · replace hf := zt c9 hf
            refine v_bipush h dX6_copy_48 (-11) rfl 50 rfl ?_
            cases (Option.some.inj hf)
            exact hE 50 _ rfl dX6_copy_50
          · replace hf := zf c9 hf
            refine v_aload h dX6_copy_40 7 rfl 42 rfl ?_
            refine v_get h (v := .int (v.2.2.2.2.2.1 2).2.1) dX6_copy_42 iX6_copy_X3 121 rfl rfl 1 (by decide) (zwi 2 rfl) rfl 45 rfl ?_
            refine v_if_ne h dX6_copy_45 51 (by decide) 48 rfl (fun c10 => ?_) (fun c10 => ?_)
            · replace hf := zf c10 hf
              refine v_aload h dX6_copy_51 6 rfl 53 rfl ?_
              refine v_get h (v := .int (v.2.2.2.2.2.1 2).2.2.1) dX6_copy_53 iX6_copy_X3 121 rfl rfl 2 (by decide) (zwi 3 rfl) rfl 56 rfl ?_
              refine v_aload h dX6_copy_56 7 rfl 58 rfl ?_
              refine v_get h (v := .int (v.2.2.2.2.2.1 2).2.2.1) dX6_copy_58 iX6_copy_X3 121 rfl rfl 2 (by decide) (zwi 3 rfl) rfl 61 rfl ?_
              refine v_icmp_eq h dX6_copy_61 67 (by decide) 64 rfl (fun c11 => ?_) (fun c11 => ?_)
              · replace hf := zt c11 hf
                refine v_aload h dX6_copy_67 6 rfl 69 rfl ?_
                refine v_iload_n h dX6_copy_69 2 rfl 70 rfl ?_
                refine v_iload h dX6_copy_70 5 rfl 72 rfl ?_
                obtain ⟨u12, hu12, hf⟩ := zb hf
                refine v_callVi h (rest := []) dX6_copy_72 (tX3_spans l G ca (fun i => ad (121 + i)) (v.2.2.2.2.2.1 2) x2 x5 hu12) gX6_copy_X3_spans rfl rfl ⟨rfl, rfl⟩ nX3_spans ⟨Nat.le_of_ble_eq_true rfl, Nat.le_of_ble_eq_true rfl⟩ [121, 122] rfl rfl 0 rfl rfl rfl rfl (Nat.le_of_ble_eq_true rfl) ⟨Nat.zero_le _, Nat.zero_le _⟩ rfl (wX ca ad v) rfl (wX_adr _ _ _ _) 75 rfl ?_
                refine v_if_eq h dX6_copy_75 90 (by decide) 78 rfl (fun c13 => ?_) (fun c13 => ?_)
                · replace hf := zt c13 hf
                  refine v_bipush h dX6_copy_90 (-13) rfl 92 rfl ?_
                  cases (Option.some.inj hf)
                  exact hE 92 _ rfl dX6_copy_92
                · replace hf := zf c13 hf
                  refine v_aload h dX6_copy_78 7 rfl 80 rfl ?_
                  refine v_iload h dX6_copy_80 4 rfl 82 rfl ?_
                  refine v_iload h dX6_copy_82 5 rfl 84 rfl ?_
                  obtain ⟨u14, hu14, hf⟩ := zb hf
                  refine v_callVi h (rest := []) dX6_copy_84 (tX3_spans l G ca (fun i => ad (121 + i)) (v.2.2.2.2.2.1 2) x4 x5 hu14) gX6_copy_X3_spans rfl rfl ⟨rfl, rfl⟩ nX3_spans ⟨Nat.le_of_ble_eq_true rfl, Nat.le_of_ble_eq_true rfl⟩ [121, 122] rfl rfl 0 rfl rfl rfl rfl (Nat.le_of_ble_eq_true rfl) ⟨Nat.zero_le _, Nat.zero_le _⟩ rfl (wX ca ad v) rfl (wX_adr _ _ _ _) 87 rfl ?_
                  refine v_if_ne h dX6_copy_87 93 (by decide) 90 rfl (fun c15 => ?_) (fun c15 => ?_)
                  · replace hf := zf c15 hf
                    refine v_aload h dX6_copy_93 6 rfl 95 rfl ?_
                    refine v_get h (v := .ref (ad 122)) dX6_copy_95 iX6_copy_X3 121 rfl rfl 0 (by decide) (zwi 4 rfl) rfl 98 rfl ?_
                    refine v_iload_n h dX6_copy_98 2 rfl 99 rfl ?_
                    refine v_aload h dX6_copy_99 7 rfl 101 rfl ?_
                    refine v_get h (v := .ref (ad 122)) dX6_copy_101 iX6_copy_X3 121 rfl rfl 0 (by decide) (zwi 4 rfl) rfl 104 rfl ?_
                    refine v_iload h dX6_copy_104 4 rfl 106 rfl ?_
                    refine v_iload h dX6_copy_106 5 rfl 108 rfl ?_
                    obtain ⟨g16, hf⟩ := zg hf
                    refine v_copyl h (f := (v.2.2.2.2.2.1 2).1) (g := (v.2.2.2.2.2.1 2).1) dX6_copy_108 (zwi 5 rfl) (zwi 6 rfl) (zwi 7 rfl) (zwi 8 rfl) 122 122 1 rfl rfl rfl g16 (Nat.le_of_ble_eq_true rfl) (Nat.le_of_ble_eq_true rfl) (wX ca ad (v.1, v.2.1, v.2.2.1, v.2.2.2.1, v.2.2.2.2.1, (va_up v.2.2.2.2.2.1 2 ((zcpy (v.2.2.2.2.2.1 2).1 (v.2.2.2.2.2.1 2).1 x2 x4 x5), (v.2.2.2.2.2.1 2).2)), v.2.2.2.2.2.2)) rfl 111 rfl ?_
                    refine v_iload h dX6_copy_111 5 rfl 113 rfl ?_
                    cases (Option.some.inj hf)
                    exact hE 113 _ rfl dX6_copy_113
                  · replace hf := zt c15 hf
                    refine v_bipush h dX6_copy_90 (-13) rfl 92 rfl ?_
                    cases (Option.some.inj hf)
                    exact hE 92 _ rfl dX6_copy_92
              · replace hf := zf c11 hf
                refine v_bipush h dX6_copy_64 (-12) rfl 66 rfl ?_
                cases (Option.some.inj hf)
                exact hE 66 _ rfl dX6_copy_66
            · replace hf := zt c10 hf
              refine v_bipush h dX6_copy_48 (-11) rfl 50 rfl ?_
              cases (Option.some.inj hf)
              exact hE 50 _ rfl dX6_copy_50
        · try rw [e8] at hf
          refine v_aald h dX6_copy_29 116 4 rfl rfl (zix_in g7) (b := (ad 123)) (by rw [e8] <;> rfl) 30 rfl ?_
          refine v_astore h dX6_copy_30 (Nat.le_of_ble_eq_true rfl) rfl rfl [(0, .ref (ad 0)), (1, .int x1), (2, .int x2), (3, .int x3), (4, .int x4), (5, .int x5), (6, .ref (ad 121)), (7, .ref (ad 123))] rfl 32 rfl ?_
          refine v_aload h dX6_copy_32 6 rfl 34 rfl ?_
          refine v_get h (v := .int (v.2.2.2.2.2.1 2).2.1) dX6_copy_34 iX6_copy_X3 121 rfl rfl 1 (by decide) (zwi 2 rfl) rfl 37 rfl ?_
          refine v_if_eq h dX6_copy_37 48 (by decide) 40 rfl (fun c9 => ?_) (fun c9 => ?_)
          · replace hf := zt c9 hf
            refine v_bipush h dX6_copy_48 (-11) rfl 50 rfl ?_
            cases (Option.some.inj hf)
            exact hE 50 _ rfl dX6_copy_50
          · replace hf := zf c9 hf
            refine v_aload h dX6_copy_40 7 rfl 42 rfl ?_
            refine v_get h (v := .int (v.2.2.2.2.2.1 3).2.1) dX6_copy_42 iX6_copy_X3 123 rfl rfl 1 (by decide) (zwi 2 rfl) rfl 45 rfl ?_
            refine v_if_ne h dX6_copy_45 51 (by decide) 48 rfl (fun c10 => ?_) (fun c10 => ?_)
            · replace hf := zf c10 hf
              refine v_aload h dX6_copy_51 6 rfl 53 rfl ?_
              refine v_get h (v := .int (v.2.2.2.2.2.1 2).2.2.1) dX6_copy_53 iX6_copy_X3 121 rfl rfl 2 (by decide) (zwi 3 rfl) rfl 56 rfl ?_
              refine v_aload h dX6_copy_56 7 rfl 58 rfl ?_
              refine v_get h (v := .int (v.2.2.2.2.2.1 3).2.2.1) dX6_copy_58 iX6_copy_X3 123 rfl rfl 2 (by decide) (zwi 3 rfl) rfl 61 rfl ?_
              refine v_icmp_eq h dX6_copy_61 67 (by decide) 64 rfl (fun c11 => ?_) (fun c11 => ?_)
              · replace hf := zt c11 hf
                refine v_aload h dX6_copy_67 6 rfl 69 rfl ?_
                refine v_iload_n h dX6_copy_69 2 rfl 70 rfl ?_
                refine v_iload h dX6_copy_70 5 rfl 72 rfl ?_
                obtain ⟨u12, hu12, hf⟩ := zb hf
                refine v_callVi h (rest := []) dX6_copy_72 (tX3_spans l G ca (fun i => ad (121 + i)) (v.2.2.2.2.2.1 2) x2 x5 hu12) gX6_copy_X3_spans rfl rfl ⟨rfl, rfl⟩ nX3_spans ⟨Nat.le_of_ble_eq_true rfl, Nat.le_of_ble_eq_true rfl⟩ [121, 122] rfl rfl 0 rfl rfl rfl rfl (Nat.le_of_ble_eq_true rfl) ⟨Nat.zero_le _, Nat.zero_le _⟩ rfl (wX ca ad v) rfl (wX_adr _ _ _ _) 75 rfl ?_
                refine v_if_eq h dX6_copy_75 90 (by decide) 78 rfl (fun c13 => ?_) (fun c13 => ?_)
                · replace hf := zt c13 hf
                  refine v_bipush h dX6_copy_90 (-13) rfl 92 rfl ?_
                  cases (Option.some.inj hf)
                  exact hE 92 _ rfl dX6_copy_92
                · replace hf := zf c13 hf
                  refine v_aload h dX6_copy_78 7 rfl 80 rfl ?_
                  refine v_iload h dX6_copy_80 4 rfl 82 rfl ?_
                  refine v_iload h dX6_copy_82 5 rfl 84 rfl ?_
                  obtain ⟨u14, hu14, hf⟩ := zb hf
                  refine v_callVi h (rest := []) dX6_copy_84 (tX3_spans l G ca (fun i => ad (123 + i)) (v.2.2.2.2.2.1 3) x4 x5 hu14) gX6_copy_X3_spans rfl rfl ⟨rfl, rfl⟩ nX3_spans ⟨Nat.le_of_ble_eq_true rfl, Nat.le_of_ble_eq_true rfl⟩ [123, 124] rfl rfl 0 rfl rfl rfl rfl (Nat.le_of_ble_eq_true rfl) ⟨Nat.zero_le _, Nat.zero_le _⟩ rfl (wX ca ad v) rfl (wX_adr _ _ _ _) 87 rfl ?_
                  refine v_if_ne h dX6_copy_87 93 (by decide) 90 rfl (fun c15 => ?_) (fun c15 => ?_)
                  · replace hf := zf c15 hf
                    refine v_aload h dX6_copy_93 6 rfl 95 rfl ?_
                    refine v_get h (v := .ref (ad 122)) dX6_copy_95 iX6_copy_X3 121 rfl rfl 0 (by decide) (zwi 4 rfl) rfl 98 rfl ?_
                    refine v_iload_n h dX6_copy_98 2 rfl 99 rfl ?_
                    refine v_aload h dX6_copy_99 7 rfl 101 rfl ?_
                    refine v_get h (v := .ref (ad 124)) dX6_copy_101 iX6_copy_X3 123 rfl rfl 0 (by decide) (zwi 4 rfl) rfl 104 rfl ?_
                    refine v_iload h dX6_copy_104 4 rfl 106 rfl ?_
                    refine v_iload h dX6_copy_106 5 rfl 108 rfl ?_
                    obtain ⟨g16, hf⟩ := zg hf
                    refine v_copyl h (f := (v.2.2.2.2.2.1 2).1) (g := (v.2.2.2.2.2.1 3).1) dX6_copy_108 (zwi 5 rfl) (zwi 6 rfl) (zwi 7 rfl) (zwi 8 rfl) 122 124 1 rfl rfl rfl g16 (Nat.le_of_ble_eq_true rfl) (Nat.le_of_ble_eq_true rfl) (wX ca ad (v.1, v.2.1, v.2.2.1, v.2.2.2.1, v.2.2.2.2.1, (va_up v.2.2.2.2.2.1 3 ((zcpy (v.2.2.2.2.2.1 2).1 (v.2.2.2.2.2.1 3).1 x2 x4 x5), (v.2.2.2.2.2.1 3).2)), v.2.2.2.2.2.2)) rfl 111 rfl ?_
                    refine v_iload h dX6_copy_111 5 rfl 113 rfl ?_
                    cases (Option.some.inj hf)
                    exact hE 113 _ rfl dX6_copy_113
                  · replace hf := zt c15 hf
                    refine v_bipush h dX6_copy_90 (-13) rfl 92 rfl ?_
                    cases (Option.some.inj hf)
                    exact hE 92 _ rfl dX6_copy_92
              · replace hf := zf c11 hf
                refine v_bipush h dX6_copy_64 (-12) rfl 66 rfl ?_
                cases (Option.some.inj hf)
                exact hE 66 _ rfl dX6_copy_66
            · replace hf := zt c10 hf
              refine v_bipush h dX6_copy_48 (-11) rfl 50 rfl ?_
              cases (Option.some.inj hf)
              exact hE 50 _ rfl dX6_copy_50
      · try rw [e6] at hf
        refine v_aald h dX6_copy_21 116 4 rfl rfl (zix_in g5) (b := (ad 123)) (by rw [e6] <;> rfl) 22 rfl ?_
        refine v_astore h dX6_copy_22 (Nat.le_of_ble_eq_true rfl) rfl rfl [(0, .ref (ad 0)), (1, .int x1), (2, .int x2), (3, .int x3), (4, .int x4), (5, .int x5), (6, .ref (ad 123))] rfl 24 rfl ?_
        refine v_aload_n h dX6_copy_24 0 rfl 25 rfl ?_
        refine v_get h (v := .ref (ad 116)) dX6_copy_25 iX6_copy_X6 0 rfl rfl 5 (by decide) (zwi 1 rfl) rfl 28 rfl ?_
        refine v_iload_n h dX6_copy_28 3 rfl 29 rfl ?_
        obtain ⟨g7, hf⟩ := zg hf
        rcases zix4 g7 with e8 | e8 | e8 | e8
        · try rw [e8] at hf
          refine v_aald h dX6_copy_29 116 4 rfl rfl (zix_in g7) (b := (ad 117)) (by rw [e8] <;> rfl) 30 rfl ?_
          refine v_astore h dX6_copy_30 (Nat.le_of_ble_eq_true rfl) rfl rfl [(0, .ref (ad 0)), (1, .int x1), (2, .int x2), (3, .int x3), (4, .int x4), (5, .int x5), (6, .ref (ad 123)), (7, .ref (ad 117))] rfl 32 rfl ?_
          refine v_aload h dX6_copy_32 6 rfl 34 rfl ?_
          refine v_get h (v := .int (v.2.2.2.2.2.1 3).2.1) dX6_copy_34 iX6_copy_X3 123 rfl rfl 1 (by decide) (zwi 2 rfl) rfl 37 rfl ?_
          refine v_if_eq h dX6_copy_37 48 (by decide) 40 rfl (fun c9 => ?_) (fun c9 => ?_)
          · replace hf := zt c9 hf
            refine v_bipush h dX6_copy_48 (-11) rfl 50 rfl ?_
            cases (Option.some.inj hf)
            exact hE 50 _ rfl dX6_copy_50
          · replace hf := zf c9 hf
            refine v_aload h dX6_copy_40 7 rfl 42 rfl ?_
            refine v_get h (v := .int (v.2.2.2.2.2.1 0).2.1) dX6_copy_42 iX6_copy_X3 117 rfl rfl 1 (by decide) (zwi 2 rfl) rfl 45 rfl ?_
            refine v_if_ne h dX6_copy_45 51 (by decide) 48 rfl (fun c10 => ?_) (fun c10 => ?_)
            · replace hf := zf c10 hf
              refine v_aload h dX6_copy_51 6 rfl 53 rfl ?_
              refine v_get h (v := .int (v.2.2.2.2.2.1 3).2.2.1) dX6_copy_53 iX6_copy_X3 123 rfl rfl 2 (by decide) (zwi 3 rfl) rfl 56 rfl ?_
              refine v_aload h dX6_copy_56 7 rfl 58 rfl ?_
              refine v_get h (v := .int (v.2.2.2.2.2.1 0).2.2.1) dX6_copy_58 iX6_copy_X3 117 rfl rfl 2 (by decide) (zwi 3 rfl) rfl 61 rfl ?_
              refine v_icmp_eq h dX6_copy_61 67 (by decide) 64 rfl (fun c11 => ?_) (fun c11 => ?_)
              · replace hf := zt c11 hf
                refine v_aload h dX6_copy_67 6 rfl 69 rfl ?_
                refine v_iload_n h dX6_copy_69 2 rfl 70 rfl ?_
                refine v_iload h dX6_copy_70 5 rfl 72 rfl ?_
                obtain ⟨u12, hu12, hf⟩ := zb hf
                refine v_callVi h (rest := []) dX6_copy_72 (tX3_spans l G ca (fun i => ad (123 + i)) (v.2.2.2.2.2.1 3) x2 x5 hu12) gX6_copy_X3_spans rfl rfl ⟨rfl, rfl⟩ nX3_spans ⟨Nat.le_of_ble_eq_true rfl, Nat.le_of_ble_eq_true rfl⟩ [123, 124] rfl rfl 0 rfl rfl rfl rfl (Nat.le_of_ble_eq_true rfl) ⟨Nat.zero_le _, Nat.zero_le _⟩ rfl (wX ca ad v) rfl (wX_adr _ _ _ _) 75 rfl ?_
                refine v_if_eq h dX6_copy_75 90 (by decide) 78 rfl (fun c13 => ?_) (fun c13 => ?_)
                · replace hf := zt c13 hf
                  refine v_bipush h dX6_copy_90 (-13) rfl 92 rfl ?_
                  cases (Option.some.inj hf)
                  exact hE 92 _ rfl dX6_copy_92
                · replace hf := zf c13 hf
                  refine v_aload h dX6_copy_78 7 rfl 80 rfl ?_
                  refine v_iload h dX6_copy_80 4 rfl 82 rfl ?_
                  refine v_iload h dX6_copy_82 5 rfl 84 rfl ?_
                  obtain ⟨u14, hu14, hf⟩ := zb hf
                  refine v_callVi h (rest := []) dX6_copy_84 (tX3_spans l G ca (fun i => ad (117 + i)) (v.2.2.2.2.2.1 0) x4 x5 hu14) gX6_copy_X3_spans rfl rfl ⟨rfl, rfl⟩ nX3_spans ⟨Nat.le_of_ble_eq_true rfl, Nat.le_of_ble_eq_true rfl⟩ [117, 118] rfl rfl 0 rfl rfl rfl rfl (Nat.le_of_ble_eq_true rfl) ⟨Nat.zero_le _, Nat.zero_le _⟩ rfl (wX ca ad v) rfl (wX_adr _ _ _ _) 87 rfl ?_
                  refine v_if_ne h dX6_copy_87 93 (by decide) 90 rfl (fun c15 => ?_) (fun c15 => ?_)
                  · replace hf := zf c15 hf
                    refine v_aload h dX6_copy_93 6 rfl 95 rfl ?_
                    refine v_get h (v := .ref (ad 124)) dX6_copy_95 iX6_copy_X3 123 rfl rfl 0 (by decide) (zwi 4 rfl) rfl 98 rfl ?_
                    refine v_iload_n h dX6_copy_98 2 rfl 99 rfl ?_
                    refine v_aload h dX6_copy_99 7 rfl 101 rfl ?_
                    refine v_get h (v := .ref (ad 118)) dX6_copy_101 iX6_copy_X3 117 rfl rfl 0 (by decide) (zwi 4 rfl) rfl 104 rfl ?_
                    refine v_iload h dX6_copy_104 4 rfl 106 rfl ?_
                    refine v_iload h dX6_copy_106 5 rfl 108 rfl ?_
                    obtain ⟨g16, hf⟩ := zg hf
                    refine v_copyl h (f := (v.2.2.2.2.2.1 3).1) (g := (v.2.2.2.2.2.1 0).1) dX6_copy_108 (zwi 5 rfl) (zwi 6 rfl) (zwi 7 rfl) (zwi 8 rfl) 124 118 1 rfl rfl rfl g16 (Nat.le_of_ble_eq_true rfl) (Nat.le_of_ble_eq_true rfl) (wX ca ad (v.1, v.2.1, v.2.2.1, v.2.2.2.1, v.2.2.2.2.1, (va_up v.2.2.2.2.2.1 0 ((zcpy (v.2.2.2.2.2.1 3).1 (v.2.2.2.2.2.1 0).1 x2 x4 x5), (v.2.2.2.2.2.1 0).2)), v.2.2.2.2.2.2)) rfl 111 rfl ?_
                    refine v_iload h dX6_copy_111 5 rfl 113 rfl ?_
                    cases (Option.some.inj hf)
                    exact hE 113 _ rfl dX6_copy_113
                  · replace hf := zt c15 hf
                    refine v_bipush h dX6_copy_90 (-13) rfl 92 rfl ?_
                    cases (Option.some.inj hf)
                    exact hE 92 _ rfl dX6_copy_92
              · replace hf := zf c11 hf
                refine v_bipush h dX6_copy_64 (-12) rfl 66 rfl ?_
                cases (Option.some.inj hf)
                exact hE 66 _ rfl dX6_copy_66
            · replace hf := zt c10 hf
              refine v_bipush h dX6_copy_48 (-11) rfl 50 rfl ?_
              cases (Option.some.inj hf)
              exact hE 50 _ rfl dX6_copy_50
        · try rw [e8] at hf
          refine v_aald h dX6_copy_29 116 4 rfl rfl (zix_in g7) (b := (ad 119)) (by rw [e8] <;> rfl) 30 rfl ?_
          refine v_astore h dX6_copy_30 (Nat.le_of_ble_eq_true rfl) rfl rfl [(0, .ref (ad 0)), (1, .int x1), (2, .int x2), (3, .int x3), (4, .int x4), (5, .int x5), (6, .ref (ad 123)), (7, .ref (ad 119))] rfl 32 rfl ?_
          refine v_aload h dX6_copy_32 6 rfl 34 rfl ?_
          refine v_get h (v := .int (v.2.2.2.2.2.1 3).2.1) dX6_copy_34 iX6_copy_X3 123 rfl rfl 1 (by decide) (zwi 2 rfl) rfl 37 rfl ?_
          refine v_if_eq h dX6_copy_37 48 (by decide) 40 rfl (fun c9 => ?_) (fun c9 => ?_)
          · replace hf := zt c9 hf
            refine v_bipush h dX6_copy_48 (-11) rfl 50 rfl ?_
            cases (Option.some.inj hf)
            exact hE 50 _ rfl dX6_copy_50
          · replace hf := zf c9 hf
            refine v_aload h dX6_copy_40 7 rfl 42 rfl ?_
            refine v_get h (v := .int (v.2.2.2.2.2.1 1).2.1) dX6_copy_42 iX6_copy_X3 119 rfl rfl 1 (by decide) (zwi 2 rfl) rfl 45 rfl ?_
            refine v_if_ne h dX6_copy_45 51 (by decide) 48 rfl (fun c10 => ?_) (fun c10 => ?_)
            · replace hf := zf c10 hf
              refine v_aload h dX6_copy_51 6 rfl 53 rfl ?_
              refine v_get h (v := .int (v.2.2.2.2.2.1 3).2.2.1) dX6_copy_53 iX6_copy_X3 123 rfl rfl 2 (by decide) (zwi 3 rfl) rfl 56 rfl ?_
              refine v_aload h dX6_copy_56 7 rfl 58 rfl ?_
              refine v_get h (v := .int (v.2.2.2.2.2.1 1).2.2.1) dX6_copy_58 iX6_copy_X3 119 rfl rfl 2 (by decide) (zwi 3 rfl) rfl 61 rfl ?_
              refine v_icmp_eq h dX6_copy_61 67 (by decide) 64 rfl (fun c11 => ?_) (fun c11 => ?_)
              · replace hf := zt c11 hf
                refine v_aload h dX6_copy_67 6 rfl 69 rfl ?_
                refine v_iload_n h dX6_copy_69 2 rfl 70 rfl ?_
                refine v_iload h dX6_copy_70 5 rfl 72 rfl ?_
                obtain ⟨u12, hu12, hf⟩ := zb hf
                refine v_callVi h (rest := []) dX6_copy_72 (tX3_spans l G ca (fun i => ad (123 + i)) (v.2.2.2.2.2.1 3) x2 x5 hu12) gX6_copy_X3_spans rfl rfl ⟨rfl, rfl⟩ nX3_spans ⟨Nat.le_of_ble_eq_true rfl, Nat.le_of_ble_eq_true rfl⟩ [123, 124] rfl rfl 0 rfl rfl rfl rfl (Nat.le_of_ble_eq_true rfl) ⟨Nat.zero_le _, Nat.zero_le _⟩ rfl (wX ca ad v) rfl (wX_adr _ _ _ _) 75 rfl ?_
                refine v_if_eq h dX6_copy_75 90 (by decide) 78 rfl (fun c13 => ?_) (fun c13 => ?_)
                · replace hf := zt c13 hf
                  refine v_bipush h dX6_copy_90 (-13) rfl 92 rfl ?_
                  cases (Option.some.inj hf)
                  exact hE 92 _ rfl dX6_copy_92
                · replace hf := zf c13 hf
                  refine v_aload h dX6_copy_78 7 rfl 80 rfl ?_
                  refine v_iload h dX6_copy_80 4 rfl 82 rfl ?_
                  refine v_iload h dX6_copy_82 5 rfl 84 rfl ?_
                  obtain ⟨u14, hu14, hf⟩ := zb hf
                  refine v_callVi h (rest := []) dX6_copy_84 (tX3_spans l G ca (fun i => ad (119 + i)) (v.2.2.2.2.2.1 1) x4 x5 hu14) gX6_copy_X3_spans rfl rfl ⟨rfl, rfl⟩ nX3_spans ⟨Nat.le_of_ble_eq_true rfl, Nat.le_of_ble_eq_true rfl⟩ [119, 120] rfl rfl 0 rfl rfl rfl rfl (Nat.le_of_ble_eq_true rfl) ⟨Nat.zero_le _, Nat.zero_le _⟩ rfl (wX ca ad v) rfl (wX_adr _ _ _ _) 87 rfl ?_
                  refine v_if_ne h dX6_copy_87 93 (by decide) 90 rfl (fun c15 => ?_) (fun c15 => ?_)
                  · replace hf := zf c15 hf
                    refine v_aload h dX6_copy_93 6 rfl 95 rfl ?_
                    refine v_get h (v := .ref (ad 124)) dX6_copy_95 iX6_copy_X3 123 rfl rfl 0 (by decide) (zwi 4 rfl) rfl 98 rfl ?_
                    refine v_iload_n h dX6_copy_98 2 rfl 99 rfl ?_
                    refine v_aload h dX6_copy_99 7 rfl 101 rfl ?_
                    refine v_get h (v := .ref (ad 120)) dX6_copy_101 iX6_copy_X3 119 rfl rfl 0 (by decide) (zwi 4 rfl) rfl 104 rfl ?_
                    refine v_iload h dX6_copy_104 4 rfl 106 rfl ?_
                    refine v_iload h dX6_copy_106 5 rfl 108 rfl ?_
                    obtain ⟨g16, hf⟩ := zg hf
                    refine v_copyl h (f := (v.2.2.2.2.2.1 3).1) (g := (v.2.2.2.2.2.1 1).1) dX6_copy_108 (zwi 5 rfl) (zwi 6 rfl) (zwi 7 rfl) (zwi 8 rfl) 124 120 1 rfl rfl rfl g16 (Nat.le_of_ble_eq_true rfl) (Nat.le_of_ble_eq_true rfl) (wX ca ad (v.1, v.2.1, v.2.2.1, v.2.2.2.1, v.2.2.2.2.1, (va_up v.2.2.2.2.2.1 1 ((zcpy (v.2.2.2.2.2.1 3).1 (v.2.2.2.2.2.1 1).1 x2 x4 x5), (v.2.2.2.2.2.1 1).2)), v.2.2.2.2.2.2)) rfl 111 rfl ?_
                    refine v_iload h dX6_copy_111 5 rfl 113 rfl ?_
                    cases (Option.some.inj hf)
                    exact hE 113 _ rfl dX6_copy_113
                  · replace hf := zt c15 hf
                    refine v_bipush h dX6_copy_90 (-13) rfl 92 rfl ?_
                    cases (Option.some.inj hf)
                    exact hE 92 _ rfl dX6_copy_92
              · replace hf := zf c11 hf
                refine v_bipush h dX6_copy_64 (-12) rfl 66 rfl ?_
                cases (Option.some.inj hf)
                exact hE 66 _ rfl dX6_copy_66
            · replace hf := zt c10 hf
              refine v_bipush h dX6_copy_48 (-11) rfl 50 rfl ?_
              cases (Option.some.inj hf)
              exact hE 50 _ rfl dX6_copy_50
        · try rw [e8] at hf
          refine v_aald h dX6_copy_29 116 4 rfl rfl (zix_in g7) (b := (ad 121)) (by rw [e8] <;> rfl) 30 rfl ?_
          refine v_astore h dX6_copy_30 (Nat.le_of_ble_eq_true rfl) rfl rfl [(0, .ref (ad 0)), (1, .int x1), (2, .int x2), (3, .int x3), (4, .int x4), (5, .int x5), (6, .ref (ad 123)), (7, .ref (ad 121))] rfl 32 rfl ?_
          refine v_aload h dX6_copy_32 6 rfl 34 rfl ?_
          refine v_get h (v := .int (v.2.2.2.2.2.1 3).2.1) dX6_copy_34 iX6_copy_X3 123 rfl rfl 1 (by decide) (zwi 2 rfl) rfl 37 rfl ?_
          refine v_if_eq h dX6_copy_37 48 (by decide) 40 rfl (fun c9 => ?_) (fun c9 => ?_)
          · replace hf := zt c9 hf
            refine v_bipush h dX6_copy_48 (-11) rfl 50 rfl ?_
            cases (Option.some.inj hf)
            exact hE 50 _ rfl dX6_copy_50
          · replace hf := zf c9 hf
            refine v_aload h dX6_copy_40 7 rfl 42 rfl ?_
            refine v_get h (v := .int (v.2.2.2.2.2.1 2).2.1) dX6_copy_42 iX6_copy_X3 121 rfl rfl 1 (by decide) (zwi 2 rfl) rfl 45 rfl ?_
            refine v_if_ne h dX6_copy_45 51 (by decide) 48 rfl (fun c10 => ?_) (fun c10 => ?_)
            · replace hf := zf c10 hf
              refine v_aload h dX6_copy_51 6 rfl 53 rfl ?_
              refine v_get h (v := .int (v.2.2.2.2.2.1 3).2.2.1) dX6_copy_53 iX6_copy_X3 123 rfl rfl 2 (by decide) (zwi 3 rfl) rfl 56 rfl ?_
              refine v_aload h dX6_copy_56 7 rfl 58 rfl ?_
              refine v_get h (v := .int (v.2.2.2.2.2.1 2).2.2.1) dX6_copy_58 iX6_copy_X3 121 rfl rfl 2 (by decide) (zwi 3 rfl) rfl 61 rfl ?_
              refine v_icmp_eq h dX6_copy_61 67 (by decide) 64 rfl (fun c11 => ?_) (fun c11 => ?_)
              · replace hf := zt c11 hf
                refine v_aload h dX6_copy_67 6 rfl 69 rfl ?_
                refine v_iload_n h dX6_copy_69 2 rfl 70 rfl ?_
                refine v_iload h dX6_copy_70 5 rfl 72 rfl ?_
                obtain ⟨u12, hu12, hf⟩ := zb hf
                refine v_callVi h (rest := []) dX6_copy_72 (tX3_spans l G ca (fun i => ad (123 + i)) (v.2.2.2.2.2.1 3) x2 x5 hu12) gX6_copy_X3_spans rfl rfl ⟨rfl, rfl⟩ nX3_spans ⟨Nat.le_of_ble_eq_true rfl, Nat.le_of_ble_eq_true rfl⟩ [123, 124] rfl rfl 0 rfl rfl rfl rfl (Nat.le_of_ble_eq_true rfl) ⟨Nat.zero_le _, Nat.zero_le _⟩ rfl (wX ca ad v) rfl (wX_adr _ _ _ _) 75 rfl ?_
                refine v_if_eq h dX6_copy_75 90 (by decide) 78 rfl (fun c13 => ?_) (fun c13 => ?_)
                · replace hf := zt c13 hf
                  refine v_bipush h dX6_copy_90 (-13) rfl 92 rfl ?_
                  cases (Option.some.inj hf)
                  exact hE 92 _ rfl dX6_copy_92
                · replace hf := zf c13 hf
                  refine v_aload h dX6_copy_78 7 rfl 80 rfl ?_
                  refine v_iload h dX6_copy_80 4 rfl 82 rfl ?_
                  refine v_iload h dX6_copy_82 5 rfl 84 rfl ?_
                  obtain ⟨u14, hu14, hf⟩ := zb hf
                  refine v_callVi h (rest := []) dX6_copy_84 (tX3_spans l G ca (fun i => ad (121 + i)) (v.2.2.2.2.2.1 2) x4 x5 hu14) gX6_copy_X3_spans rfl rfl ⟨rfl, rfl⟩ nX3_spans ⟨Nat.le_of_ble_eq_true rfl, Nat.le_of_ble_eq_true rfl⟩ [121, 122] rfl rfl 0 rfl rfl rfl rfl (Nat.le_of_ble_eq_true rfl) ⟨Nat.zero_le _, Nat.zero_le _⟩ rfl (wX ca ad v) rfl (wX_adr _ _ _ _) 87 rfl ?_
                  refine v_if_ne h dX6_copy_87 93 (by decide) 90 rfl (fun c15 => ?_) (fun c15 => ?_)
                  · replace hf := zf c15 hf
                    refine v_aload h dX6_copy_93 6 rfl 95 rfl ?_
                    refine v_get h (v := .ref (ad 124)) dX6_copy_95 iX6_copy_X3 123 rfl rfl 0 (by decide) (zwi 4 rfl) rfl 98 rfl ?_
                    refine v_iload_n h dX6_copy_98 2 rfl 99 rfl ?_
                    refine v_aload h dX6_copy_99 7 rfl 101 rfl ?_
                    refine v_get h (v := .ref (ad 122)) dX6_copy_101 iX6_copy_X3 121 rfl rfl 0 (by decide) (zwi 4 rfl) rfl 104 rfl ?_
                    refine v_iload h dX6_copy_104 4 rfl 106 rfl ?_
                    refine v_iload h dX6_copy_106 5 rfl 108 rfl ?_
                    obtain ⟨g16, hf⟩ := zg hf
                    refine v_copyl h (f := (v.2.2.2.2.2.1 3).1) (g := (v.2.2.2.2.2.1 2).1) dX6_copy_108 (zwi 5 rfl) (zwi 6 rfl) (zwi 7 rfl) (zwi 8 rfl) 124 122 1 rfl rfl rfl g16 (Nat.le_of_ble_eq_true rfl) (Nat.le_of_ble_eq_true rfl) (wX ca ad (v.1, v.2.1, v.2.2.1, v.2.2.2.1, v.2.2.2.2.1, (va_up v.2.2.2.2.2.1 2 ((zcpy (v.2.2.2.2.2.1 3).1 (v.2.2.2.2.2.1 2).1 x2 x4 x5), (v.2.2.2.2.2.1 2).2)), v.2.2.2.2.2.2)) rfl 111 rfl ?_
                    refine v_iload h dX6_copy_111 5 rfl 113 rfl ?_
                    cases (Option.some.inj hf)
                    exact hE 113 _ rfl dX6_copy_113
                  · replace hf := zt c15 hf
                    refine v_bipush h dX6_copy_90 (-13) rfl 92 rfl ?_
                    cases (Option.some.inj hf)
                    exact hE 92 _ rfl dX6_copy_92
              · replace hf := zf c11 hf
                refine v_bipush h dX6_copy_64 (-12) rfl 66 rfl ?_
                cases (Option.some.inj hf)
                exact hE 66 _ rfl dX6_copy_66
            · replace hf := zt c10 hf
              refine v_bipush h dX6_copy_48 (-11) rfl 50 rfl ?_
              cases (Option.some.inj hf)
              exact hE 50 _ rfl dX6_copy_50
        · try rw [e8] at hf
          refine v_aald h dX6_copy_29 116 4 rfl rfl (zix_in g7) (b := (ad 123)) (by rw [e8] <;> rfl) 30 rfl ?_
          refine v_astore h dX6_copy_30 (Nat.le_of_ble_eq_true rfl) rfl rfl [(0, .ref (ad 0)), (1, .int x1), (2, .int x2), (3, .int x3), (4, .int x4), (5, .int x5), (6, .ref (ad 123)), (7, .ref (ad 123))] rfl 32 rfl ?_
          refine v_aload h dX6_copy_32 6 rfl 34 rfl ?_
          refine v_get h (v := .int (v.2.2.2.2.2.1 3).2.1) dX6_copy_34 iX6_copy_X3 123 rfl rfl 1 (by decide) (zwi 2 rfl) rfl 37 rfl ?_
          refine v_if_eq h dX6_copy_37 48 (by decide) 40 rfl (fun c9 => ?_) (fun c9 => ?_)
          · replace hf := zt c9 hf
            refine v_bipush h dX6_copy_48 (-11) rfl 50 rfl ?_
            cases (Option.some.inj hf)
            exact hE 50 _ rfl dX6_copy_50
          · replace hf := zf c9 hf
            refine v_aload h dX6_copy_40 7 rfl 42 rfl ?_
            refine v_get h (v := .int (v.2.2.2.2.2.1 3).2.1) dX6_copy_42 iX6_copy_X3 123 rfl rfl 1 (by decide) (zwi 2 rfl) rfl 45 rfl ?_
            refine v_if_ne h dX6_copy_45 51 (by decide) 48 rfl (fun c10 => ?_) (fun c10 => ?_)
            · replace hf := zf c10 hf
              refine v_aload h dX6_copy_51 6 rfl 53 rfl ?_
              refine v_get h (v := .int (v.2.2.2.2.2.1 3).2.2.1) dX6_copy_53 iX6_copy_X3 123 rfl rfl 2 (by decide) (zwi 3 rfl) rfl 56 rfl ?_
              refine v_aload h dX6_copy_56 7 rfl 58 rfl ?_
              refine v_get h (v := .int (v.2.2.2.2.2.1 3).2.2.1) dX6_copy_58 iX6_copy_X3 123 rfl rfl 2 (by decide) (zwi 3 rfl) rfl 61 rfl ?_
              refine v_icmp_eq h dX6_copy_61 67 (by decide) 64 rfl (fun c11 => ?_) (fun c11 => ?_)
              · replace hf := zt c11 hf
                refine v_aload h dX6_copy_67 6 rfl 69 rfl ?_
                refine v_iload_n h dX6_copy_69 2 rfl 70 rfl ?_
                refine v_iload h dX6_copy_70 5 rfl 72 rfl ?_
                obtain ⟨u12, hu12, hf⟩ := zb hf
                refine v_callVi h (rest := []) dX6_copy_72 (tX3_spans l G ca (fun i => ad (123 + i)) (v.2.2.2.2.2.1 3) x2 x5 hu12) gX6_copy_X3_spans rfl rfl ⟨rfl, rfl⟩ nX3_spans ⟨Nat.le_of_ble_eq_true rfl, Nat.le_of_ble_eq_true rfl⟩ [123, 124] rfl rfl 0 rfl rfl rfl rfl (Nat.le_of_ble_eq_true rfl) ⟨Nat.zero_le _, Nat.zero_le _⟩ rfl (wX ca ad v) rfl (wX_adr _ _ _ _) 75 rfl ?_
                refine v_if_eq h dX6_copy_75 90 (by decide) 78 rfl (fun c13 => ?_) (fun c13 => ?_)
                · replace hf := zt c13 hf
                  refine v_bipush h dX6_copy_90 (-13) rfl 92 rfl ?_
                  cases (Option.some.inj hf)
                  exact hE 92 _ rfl dX6_copy_92
                · replace hf := zf c13 hf
                  refine v_aload h dX6_copy_78 7 rfl 80 rfl ?_
                  refine v_iload h dX6_copy_80 4 rfl 82 rfl ?_
                  refine v_iload h dX6_copy_82 5 rfl 84 rfl ?_
                  obtain ⟨u14, hu14, hf⟩ := zb hf
                  refine v_callVi h (rest := []) dX6_copy_84 (tX3_spans l G ca (fun i => ad (123 + i)) (v.2.2.2.2.2.1 3) x4 x5 hu14) gX6_copy_X3_spans rfl rfl ⟨rfl, rfl⟩ nX3_spans ⟨Nat.le_of_ble_eq_true rfl, Nat.le_of_ble_eq_true rfl⟩ [123, 124] rfl rfl 0 rfl rfl rfl rfl (Nat.le_of_ble_eq_true rfl) ⟨Nat.zero_le _, Nat.zero_le _⟩ rfl (wX ca ad v) rfl (wX_adr _ _ _ _) 87 rfl ?_
                  refine v_if_ne h dX6_copy_87 93 (by decide) 90 rfl (fun c15 => ?_) (fun c15 => ?_)
                  · replace hf := zf c15 hf
                    refine v_aload h dX6_copy_93 6 rfl 95 rfl ?_
                    refine v_get h (v := .ref (ad 124)) dX6_copy_95 iX6_copy_X3 123 rfl rfl 0 (by decide) (zwi 4 rfl) rfl 98 rfl ?_
                    refine v_iload_n h dX6_copy_98 2 rfl 99 rfl ?_
                    refine v_aload h dX6_copy_99 7 rfl 101 rfl ?_
                    refine v_get h (v := .ref (ad 124)) dX6_copy_101 iX6_copy_X3 123 rfl rfl 0 (by decide) (zwi 4 rfl) rfl 104 rfl ?_
                    refine v_iload h dX6_copy_104 4 rfl 106 rfl ?_
                    refine v_iload h dX6_copy_106 5 rfl 108 rfl ?_
                    obtain ⟨g16, hf⟩ := zg hf
                    refine v_copyl h (f := (v.2.2.2.2.2.1 3).1) (g := (v.2.2.2.2.2.1 3).1) dX6_copy_108 (zwi 5 rfl) (zwi 6 rfl) (zwi 7 rfl) (zwi 8 rfl) 124 124 1 rfl rfl rfl g16 (Nat.le_of_ble_eq_true rfl) (Nat.le_of_ble_eq_true rfl) (wX ca ad (v.1, v.2.1, v.2.2.1, v.2.2.2.1, v.2.2.2.2.1, (va_up v.2.2.2.2.2.1 3 ((zcpy (v.2.2.2.2.2.1 3).1 (v.2.2.2.2.2.1 3).1 x2 x4 x5), (v.2.2.2.2.2.1 3).2)), v.2.2.2.2.2.2)) rfl 111 rfl ?_
                    refine v_iload h dX6_copy_111 5 rfl 113 rfl ?_
                    cases (Option.some.inj hf)
                    exact hE 113 _ rfl dX6_copy_113
                  · replace hf := zt c15 hf
                    refine v_bipush h dX6_copy_90 (-13) rfl 92 rfl ?_
                    cases (Option.some.inj hf)
                    exact hE 92 _ rfl dX6_copy_92
              · replace hf := zf c11 hf
                refine v_bipush h dX6_copy_64 (-12) rfl 66 rfl ?_
                cases (Option.some.inj hf)
                exact hE 66 _ rfl dX6_copy_66
            · replace hf := zt c10 hf
              refine v_bipush h dX6_copy_48 (-11) rfl 50 rfl ?_
              cases (Option.some.inj hf)
              exact hE 50 _ rfl dX6_copy_50
    · replace hf := zt c4 hf
      refine v_iconst h dX6_copy_14 (-1) rfl 15 rfl ?_
      cases (Option.some.inj hf)
      exact hE 15 _ rfl dX6_copy_15
