abbrev rX7_begin : Room := { frames := 1, cells := 0, slots := 0, locals := 25 }
theorem nX7_begin : zNoMH yX7_begin 0 := ⟨by decide +kernel, by decide +kernel, by decide +kernel⟩
theorem iX7_begin_X7 : ∀ w ∈ wsX70, w ∈ wsX7_begin := fun _ h => (List.mem_cons_of_mem _ (List.mem_append_right _ h))
def fX7_begin (v : MV) : Option zAI := ((fX7_bring v.2.2.2.2.2.2.2.1 v.2.2.2.2.2.2.2.2.1 0 0 54) : Option zAI).bind (fun u1 => some u1)
set_option maxRecDepth 100000 in
set_option maxHeartbeats 4000000 in
theorem tX7_begin (l : Launch) (G : va_G) (ca : Nat → ClassId) (ad : Nat → Nat) (v : MV)  {o : zAI} (hf : fX7_begin v = some o) : zMv l yX7_begin wsX7_begin rX7_begin G ca [.ref (ad 0)] (wM ca ad v) (wM ca ad (v.1, v.2.1, v.2.2.1, v.2.2.2.1, v.2.2.2.2.1, v.2.2.2.2.2.1, v.2.2.2.2.2.2.1, v.2.2.2.2.2.2.2.1, o, v.2.2.2.2.2.2.2.2.2)) := by
  refine zMv.of (cc := cX7_begin) (nL := 1) (own := RX7) (by decide) rfl rfl (Nat.le_of_ble_eq_true rfl) (fun X h hE => ?_)
  show V X G 1 0 0 (wM ca ad v) 0 [(0, .ref (ad 0))] []
  unfold fX7_begin at hf
  refine v_aload_n h dX7_begin_0 0 rfl 1 rfl ?_
  refine v_get h (v := .ref (ad 5)) dX7_begin_1 iX7_begin_X7 0 rfl rfl 7 (by decide) (zwi 1 rfl) rfl 4 rfl ?_
  refine v_iconst h dX7_begin_4 0 rfl 5 rfl ?_
  refine v_aload_n h dX7_begin_5 0 rfl 6 rfl ?_
  refine v_get h (v := .ref (ad 6)) dX7_begin_6 iX7_begin_X7 0 rfl rfl 8 (by decide) (zwi 2 rfl) rfl 9 rfl ?_
  refine v_iconst h dX7_begin_9 0 rfl 10 rfl ?_
  refine v_bipush h dX7_begin_10 54 rfl 12 rfl ?_
  obtain ⟨u1, hu1, hf⟩ := zb hf
  refine v_callSv h (rest := []) dX7_begin_12 (tX7_bring l G ca (ad 5) (ad 6) v.2.2.2.2.2.2.2.1 v.2.2.2.2.2.2.2.2.1 0 0 54 hu1) gX7_begin_X7_bring rfl ⟨rfl, rfl⟩ nX7_bring ⟨Nat.le_of_ble_eq_true rfl, Nat.le_of_ble_eq_true rfl⟩ [5, 6] rfl rfl rfl rfl (Nat.le_of_ble_eq_true rfl) ⟨Nat.zero_le _, Nat.zero_le _⟩ rfl (wM ca ad (v.1, v.2.1, v.2.2.1, v.2.2.2.1, v.2.2.2.2.1, v.2.2.2.2.2.1, v.2.2.2.2.2.2.1, v.2.2.2.2.2.2.2.1, u1, v.2.2.2.2.2.2.2.2.2)) rfl (wM_adr _ _ _ _) 15 rfl ?_
  cases (Option.some.inj hf)
  exact hE 15 _ dX7_begin_15
abbrev rX7_goOn : Room := { frames := 4, cells := 0, slots := 0, locals := 94 }
theorem nX7_goOn : zNoMH yX7_goOn 1 := ⟨by decide +kernel, by decide +kernel, by decide +kernel⟩
theorem iX7_goOn_X7 : ∀ w ∈ wsX70, w ∈ wsX7_goOn := fun _ h => (List.mem_cons_of_mem _ (List.mem_append_right _ h))
def fX7_goOn_L4 : Nat → MV → Int32 → Int32 → Int32 → zAI → zAI → Option (Int32 × zAI × zAI)
  | 0, _, _, _, _, _, _ => none
  | n + 1, v, x1, x2, x3, m8, m12 => if x1 ≤ x3 then (some (x2, m8, m12)) else (((fX7_yearIn m12 m8) : Option (Int32 × zAI × zAI)).bind (fun u2 => fX7_goOn_L4 n v x1 (x2 + u2.1) (x3 + 1) u2.2.2 u2.2.1))
set_option maxRecDepth 100000 in
set_option maxHeartbeats 4000000 in
theorem tX7_goOn_l4 {X : zX} {l : Launch} {G : va_G} {ca : Nat → ClassId} {ad : Nat → Nat} (h : zOk X l G ca cX7_goOn RX7 wsX7_goOn 4 rX7_goOn) : ∀ (n : Nat) (v : MV) (x1 : Int32) (x2 : Int32) (x3 : Int32) (m8 : zAI) (m12 : zAI) (out : (Int32 × zAI × zAI)), fX7_goOn_L4 n v x1 x2 x3 m8 m12 = some out → (V X G 4 0 0 (wM ca ad (v.1, v.2.1, v.2.2.1, v.2.2.2.1, v.2.2.2.2.1, v.2.2.2.2.2.1, v.2.2.2.2.2.2.1, v.2.2.2.2.2.2.2.1, out.2.1, v.2.2.2.2.2.2.2.2.2.1, v.2.2.2.2.2.2.2.2.2.2.1, v.2.2.2.2.2.2.2.2.2.2.2.1, out.2.2, v.2.2.2.2.2.2.2.2.2.2.2.2.2)) 26 [(2, .int out.1)] []) → V X G 4 0 0 (wM ca ad (v.1, v.2.1, v.2.2.1, v.2.2.2.1, v.2.2.2.2.1, v.2.2.2.2.2.1, v.2.2.2.2.2.2.1, v.2.2.2.2.2.2.2.1, m8, v.2.2.2.2.2.2.2.2.2.1, v.2.2.2.2.2.2.2.2.2.2.1, v.2.2.2.2.2.2.2.2.2.2.2.1, m12, v.2.2.2.2.2.2.2.2.2.2.2.2.2)) 4 [(0, .ref (ad 0)), (1, .int x1), (2, .int x2), (3, .int x3)] [] := by
  intro n
  induction n with
  | zero => intro v x1 x2 x3 m8 m12 out hf; rw [fX7_goOn_L4] at hf; cases hf
  | succ n ih =>
    intro v x1 x2 x3 m8 m12 out hf kx
    rw [fX7_goOn_L4] at hf
    refine v_iload_n h dX7_goOn_4 3 rfl 5 rfl ?_
    refine v_iload_n h dX7_goOn_5 1 rfl 6 rfl ?_
    refine v_icmp_ge h dX7_goOn_6 26 (by decide) 9 rfl (fun c1 => ?_) (fun c1 => ?_)
    · replace hf := zt c1 hf
      cases (Option.some.inj hf)
      exact v_sub [2] rfl (kx)
    · replace hf := zf c1 hf
      refine v_iload_n h dX7_goOn_9 2 rfl 10 rfl ?_
      refine v_aload_n h dX7_goOn_10 0 rfl 11 rfl ?_
      refine v_aload_n h dX7_goOn_11 0 rfl 12 rfl ?_
      refine v_get h (v := .ref (ad 6)) dX7_goOn_12 iX7_goOn_X7 0 rfl rfl 8 (by decide) (zwi 1 rfl) rfl 15 rfl ?_
      obtain ⟨u2, hu2, hf⟩ := zb hf
      refine v_callVi h (rest := [.int x2]) dX7_goOn_15 (tX7_yearIn l G ca ad (ad 6) (v.1, v.2.1, v.2.2.1, v.2.2.2.1, v.2.2.2.2.1, v.2.2.2.2.2.1, v.2.2.2.2.2.2.1, v.2.2.2.2.2.2.2.1, m8, v.2.2.2.2.2.2.2.2.2.1, v.2.2.2.2.2.2.2.2.2.2.1, v.2.2.2.2.2.2.2.2.2.2.2.1, m12, v.2.2.2.2.2.2.2.2.2.2.2.2.2) m12 m8  hu2) gX7_goOn_X7_yearIn rfl rfl ⟨rfl, rfl⟩ nX7_yearIn ⟨Nat.le_of_ble_eq_true rfl, Nat.le_of_ble_eq_true rfl⟩ [0, 9, 6] rfl rfl 0 rfl rfl rfl rfl (Nat.le_of_ble_eq_true rfl) ⟨Nat.zero_le _, Nat.zero_le _⟩ rfl (wM ca ad (v.1, v.2.1, v.2.2.1, v.2.2.2.1, v.2.2.2.2.1, v.2.2.2.2.2.1, v.2.2.2.2.2.2.1, v.2.2.2.2.2.2.2.1, u2.2.2, v.2.2.2.2.2.2.2.2.2.1, v.2.2.2.2.2.2.2.2.2.2.1, v.2.2.2.2.2.2.2.2.2.2.2.1, u2.2.1, v.2.2.2.2.2.2.2.2.2.2.2.2.2)) rfl (wM_adr _ _ _ _) 18 rfl ?_
      refine v_iadd h dX7_goOn_18 19 rfl ?_
      refine v_istore_n h dX7_goOn_19 (Nat.le_of_ble_eq_true rfl) rfl rfl [(0, .ref (ad 0)), (1, .int x1), (2, .int (x2 + u2.1)), (3, .int x3)] rfl 20 rfl ?_
      refine v_iinc h dX7_goOn_20 3 rfl (x3 + 1) rfl (Nat.le_of_ble_eq_true rfl) rfl rfl [(0, .ref (ad 0)), (1, .int x1), (2, .int (x2 + u2.1)), (3, .int (x3 + 1))] rfl 23 rfl ?_
      refine v_goto h dX7_goOn_23 4 (by decide) ?_
      exact v_sub [0, 1, 2, 3] rfl (ih v x1 (x2 + u2.1) (x3 + 1) u2.2.2 u2.2.1 _ hf kx)
def fX7_goOn (v : MV) (x1 : Int32) : Option (Int32 × zAI × zAI) := ((fX7_goOn_L4 zF v x1 0 0 v.2.2.2.2.2.2.2.2.1 v.2.2.2.2.2.2.2.2.2.2.2.2.1) : Option (Int32 × zAI × zAI)).bind (fun u1 => some (u1.1, u1.2.1, u1.2.2))
set_option maxRecDepth 100000 in
set_option maxHeartbeats 4000000 in
theorem tX7_goOn (l : Launch) (G : va_G) (ca : Nat → ClassId) (ad : Nat → Nat) (v : MV) (x1 : Int32) {o : (Int32 × zAI × zAI)} (hf : fX7_goOn v x1 = some o) : zMi l yX7_goOn wsX7_goOn rX7_goOn G ca [.ref (ad 0), .int x1] (wM ca ad v) o.1 (wM ca ad (v.1, v.2.1, v.2.2.1, v.2.2.2.1, v.2.2.2.2.1, v.2.2.2.2.2.1, v.2.2.2.2.2.2.1, v.2.2.2.2.2.2.2.1, o.2.1, v.2.2.2.2.2.2.2.2.2.1, v.2.2.2.2.2.2.2.2.2.2.1, v.2.2.2.2.2.2.2.2.2.2.2.1, o.2.2, v.2.2.2.2.2.2.2.2.2.2.2.2.2)) := by
  refine zMi.of (cc := cX7_goOn) (nL := 4) (own := RX7) (ty := .int) (by decide) rfl rfl (Nat.le_of_ble_eq_true rfl) (fun X h hE => ?_)
  show V X G 4 0 0 (wM ca ad v) 0 [(0, .ref (ad 0)), (1, .int x1)] []
  unfold fX7_goOn at hf
  refine v_iconst h dX7_goOn_0 0 rfl 1 rfl ?_
  refine v_istore_n h dX7_goOn_1 (Nat.le_of_ble_eq_true rfl) rfl rfl [(0, .ref (ad 0)), (1, .int x1), (2, .int 0)] rfl 2 rfl ?_
  refine v_iconst h dX7_goOn_2 0 rfl 3 rfl ?_
  refine v_istore_n h dX7_goOn_3 (Nat.le_of_ble_eq_true rfl) rfl rfl [(0, .ref (ad 0)), (1, .int x1), (2, .int 0), (3, .int 0)] rfl 4 rfl ?_
  obtain ⟨u1, hu1, hf⟩ := zb hf
  refine v_sub [0, 1, 2, 3] rfl ?_
  refine tX7_goOn_l4 h zF v x1 0 0 v.2.2.2.2.2.2.2.2.1 v.2.2.2.2.2.2.2.2.2.2.2.2.1 _ hu1 ?_
  refine v_iload_n h dX7_goOn_26 0 rfl 27 rfl ?_
  cases (Option.some.inj hf)
  exact hE 27 _ rfl dX7_goOn_27
abbrev rX7_ahead : Room := { frames := 5, cells := 0, slots := 0, locals := 117 }
theorem nX7_ahead : zNoMH yX7_ahead 2 := ⟨by decide +kernel, by decide +kernel, by decide +kernel⟩
theorem iX7_ahead_X7 : ∀ w ∈ wsX70, w ∈ wsX7_ahead := fun _ h => (List.mem_cons_of_mem _ (List.mem_append_right _ h))
def fX7_ahead (v : MV) (x1 : Int32) (x2 : Int32) : Option (Int32 × zAI × zAI) := ((fX7_in x1 0 40) : Option Int32).bind (fun u1 => if u1 = 0 then (some ((-1), v.2.2.2.2.2.2.2.2.1, v.2.2.2.2.2.2.2.2.2.2.2.2.1)) else (((fX7_in x2 0 2) : Option Int32).bind (fun u3 => if u3 = 0 then (some ((-1), v.2.2.2.2.2.2.2.2.1, v.2.2.2.2.2.2.2.2.2.2.2.2.1)) else (((fX7_begin v) : Option zAI).bind (fun u5 => ((fX7_goOn (v.1, v.2.1, v.2.2.1, v.2.2.2.1, v.2.2.2.2.1, v.2.2.2.2.2.1, v.2.2.2.2.2.2.1, v.2.2.2.2.2.2.2.1, u5, v.2.2.2.2.2.2.2.2.2) x1) : Option (Int32 × zAI × zAI)).bind (fun u6 => if x2 = 0 then (some ((zgt u6.2.1 3), u6.2.1, u6.2.2)) else (if x2 = 1 then (some ((zgt u6.2.1 2), u6.2.1, u6.2.2)) else (((fX7_heavy u6.2.1) : Option Int32).bind (fun u9 => some (u9, u6.2.1, u6.2.2))))))))))
set_option maxRecDepth 100000 in
set_option maxHeartbeats 4000000 in
theorem tX7_ahead (l : Launch) (G : va_G) (ca : Nat → ClassId) (ad : Nat → Nat) (v : MV) (x1 : Int32) (x2 : Int32) {o : (Int32 × zAI × zAI)} (hf : fX7_ahead v x1 x2 = some o) : zMi l yX7_ahead wsX7_ahead rX7_ahead G ca [.ref (ad 0), .int x1, .int x2] (wM ca ad v) o.1 (wM ca ad (v.1, v.2.1, v.2.2.1, v.2.2.2.1, v.2.2.2.2.1, v.2.2.2.2.2.1, v.2.2.2.2.2.2.1, v.2.2.2.2.2.2.2.1, o.2.1, v.2.2.2.2.2.2.2.2.2.1, v.2.2.2.2.2.2.2.2.2.2.1, v.2.2.2.2.2.2.2.2.2.2.2.1, o.2.2, v.2.2.2.2.2.2.2.2.2.2.2.2.2)) := by
  refine zMi.of (cc := cX7_ahead) (nL := 3) (own := RX7) (ty := .int) (by decide) rfl rfl (Nat.le_of_ble_eq_true rfl) (fun X h hE => ?_)
  show V X G 3 0 0 (wM ca ad v) 0 [(0, .ref (ad 0)), (1, .int x1), (2, .int x2)] []
  unfold fX7_ahead at hf
  refine v_iload_n h dX7_ahead_0 1 rfl 1 rfl ?_
  refine v_iconst h dX7_ahead_1 0 rfl 2 rfl ?_
  refine v_bipush h dX7_ahead_2 40 rfl 4 rfl ?_
  obtain ⟨u1, hu1, hf⟩ := zb hf
  refine v_callSi h (rest := []) dX7_ahead_4 (tX7_in l G ca   x1 0 40 hu1) gX7_ahead_X7_in rfl ⟨rfl, rfl⟩ nX7_in ⟨Nat.le_of_ble_eq_true rfl, Nat.le_of_ble_eq_true rfl⟩ [] rfl rfl rfl rfl (Nat.le_of_ble_eq_true rfl) ⟨Nat.zero_le _, Nat.zero_le _⟩ rfl (wM ca ad v) rfl (wM_adr _ _ _ _) 7 rfl ?_
  refine v_if_eq h dX7_ahead_7 19 (by decide) 10 rfl (fun c2 => ?_) (fun c2 => ?_)
  · replace hf := zt c2 hf
    refine v_iconst h dX7_ahead_19 (-1) rfl 20 rfl ?_
    cases (Option.some.inj hf)
    exact hE 20 _ rfl dX7_ahead_20
  · replace hf := zf c2 hf
    refine v_iload_n h dX7_ahead_10 2 rfl 11 rfl ?_
    refine v_iconst h dX7_ahead_11 0 rfl 12 rfl ?_
    refine v_iconst h dX7_ahead_12 2 rfl 13 rfl ?_
    obtain ⟨u3, hu3, hf⟩ := zb hf
    refine v_callSi h (rest := []) dX7_ahead_13 (tX7_in l G ca   x2 0 2 hu3) gX7_ahead_X7_in rfl ⟨rfl, rfl⟩ nX7_in ⟨Nat.le_of_ble_eq_true rfl, Nat.le_of_ble_eq_true rfl⟩ [] rfl rfl rfl rfl (Nat.le_of_ble_eq_true rfl) ⟨Nat.zero_le _, Nat.zero_le _⟩ rfl (wM ca ad v) rfl (wM_adr _ _ _ _) 16 rfl ?_
    refine v_if_ne h dX7_ahead_16 21 (by decide) 19 rfl (fun c4 => ?_) (fun c4 => ?_)
    · replace hf := zf c4 hf
      refine v_aload_n h dX7_ahead_21 0 rfl 22 rfl ?_
      obtain ⟨u5, hu5, hf⟩ := zb hf
      refine v_wcallVv h (rest := []) dX7_ahead_22 (tX7_begin l G ca ad v  hu5) gX7_ahead_X7_begin rfl rfl ⟨rfl, rfl⟩ nX7_begin ⟨Nat.le_of_ble_eq_true rfl, Nat.le_of_ble_eq_true rfl⟩ 0 rfl rfl rfl rfl (Nat.le_of_ble_eq_true rfl) ⟨Nat.zero_le _, Nat.zero_le _⟩ (wM_adr _ _ _ _) 25 rfl ?_
      refine v_aload_n h dX7_ahead_25 0 rfl 26 rfl ?_
      refine v_iload_n h dX7_ahead_26 1 rfl 27 rfl ?_
      obtain ⟨u6, hu6, hf⟩ := zb hf
      refine v_wcallVi h (rest := []) dX7_ahead_27 (tX7_goOn l G ca ad (v.1, v.2.1, v.2.2.1, v.2.2.2.1, v.2.2.2.2.1, v.2.2.2.2.2.1, v.2.2.2.2.2.2.1, v.2.2.2.2.2.2.2.1, u5, v.2.2.2.2.2.2.2.2.2) x1 hu6) gX7_ahead_X7_goOn rfl rfl ⟨rfl, rfl⟩ nX7_goOn ⟨Nat.le_of_ble_eq_true rfl, Nat.le_of_ble_eq_true rfl⟩ 0 rfl rfl rfl rfl (Nat.le_of_ble_eq_true rfl) ⟨Nat.zero_le _, Nat.zero_le _⟩ (wM_adr _ _ _ _) 30 rfl ?_
      refine v_pop h dX7_ahead_30 rfl 31 rfl ?_
      refine v_iload_n h dX7_ahead_31 2 rfl 32 rfl ?_
      refine v_if_ne h dX7_ahead_32 44 (by decide) 35 rfl (fun c7 => ?_) (fun c7 => ?_)
      · replace hf := zf c7 hf
        refine v_iload_n h dX7_ahead_44 2 rfl 45 rfl ?_
        refine v_iconst h dX7_ahead_45 1 rfl 46 rfl ?_
        refine v_icmp_ne h dX7_ahead_46 58 (by decide) 49 rfl (fun c8 => ?_) (fun c8 => ?_)
        · replace hf := zf c8 hf
          refine v_aload_n h dX7_ahead_58 0 rfl 59 rfl ?_
          refine v_get h (v := .ref (ad 6)) dX7_ahead_59 iX7_ahead_X7 0 rfl rfl 8 (by decide) (zwi 1 rfl) rfl 62 rfl ?_
          obtain ⟨u9, hu9, hf⟩ := zb hf
          refine v_callSi h (rest := []) dX7_ahead_62 (tX7_heavy l G ca (ad 6) u6.2.1  hu9) gX7_ahead_X7_heavy rfl ⟨rfl, rfl⟩ nX7_heavy ⟨Nat.le_of_ble_eq_true rfl, Nat.le_of_ble_eq_true rfl⟩ [6] rfl rfl rfl rfl (Nat.le_of_ble_eq_true rfl) ⟨Nat.zero_le _, Nat.zero_le _⟩ rfl (wM ca ad (v.1, v.2.1, v.2.2.1, v.2.2.2.1, v.2.2.2.2.1, v.2.2.2.2.2.1, v.2.2.2.2.2.2.1, v.2.2.2.2.2.2.2.1, u6.2.1, v.2.2.2.2.2.2.2.2.2.1, v.2.2.2.2.2.2.2.2.2.2.1, v.2.2.2.2.2.2.2.2.2.2.2.1, u6.2.2, v.2.2.2.2.2.2.2.2.2.2.2.2.2)) rfl (wM_adr _ _ _ _) 65 rfl ?_
          cases (Option.some.inj hf)
          exact hE 65 _ rfl dX7_ahead_65
        · replace hf := zt c8 hf
          refine v_aload_n h dX7_ahead_49 0 rfl 50 rfl ?_
          refine v_get h (v := .ref (ad 6)) dX7_ahead_50 iX7_ahead_X7 0 rfl rfl 8 (by decide) (zwi 1 rfl) rfl 53 rfl ?_
          refine v_iconst h dX7_ahead_53 2 rfl 54 rfl ?_
          refine v_iald h (f := u6.2.1) dX7_ahead_54 6 0 rfl rfl zi_2_407 55 rfl ?_
          refine v_goto h dX7_ahead_55 65 (by decide) ?_
          cases (Option.some.inj hf)
          exact hE 65 _ rfl dX7_ahead_65
      · replace hf := zt c7 hf
        refine v_aload_n h dX7_ahead_35 0 rfl 36 rfl ?_
        refine v_get h (v := .ref (ad 6)) dX7_ahead_36 iX7_ahead_X7 0 rfl rfl 8 (by decide) (zwi 1 rfl) rfl 39 rfl ?_
        refine v_iconst h dX7_ahead_39 3 rfl 40 rfl ?_
        refine v_iald h (f := u6.2.1) dX7_ahead_40 6 0 rfl rfl zi_3_407 41 rfl ?_
        refine v_goto h dX7_ahead_41 65 (by decide) ?_
        cases (Option.some.inj hf)
        exact hE 65 _ rfl dX7_ahead_65
    · replace hf := zt c4 hf
      refine v_iconst h dX7_ahead_19 (-1) rfl 20 rfl ?_
      cases (Option.some.inj hf)
      exact hE 20 _ rfl dX7_ahead_20
abbrev rX7_leak : Room := { frames := 4, cells := 0, slots := 0, locals := 94 }
theorem nX7_leak : zNoMH yX7_leak 0 := ⟨by decide +kernel, by decide +kernel, by decide +kernel⟩
theorem iX7_leak_X7 : ∀ w ∈ wsX70, w ∈ wsX7_leak := fun _ h => (List.mem_cons_of_mem _ (List.mem_append_right _ h))
def fX7_leak_L6 : Nat → MV → Int32 → zAI → zAI → Option ((Int32 × zAI × zAI) ⊕ (zAI × zAI))
  | 0, _, _, _, _ => none
  | n + 1, v, x1, m8, m12 => if 40 < x1 then (some (.inr (m8, m12))) else (((fX7_yearIn m12 m8) : Option (Int32 × zAI × zAI)).bind (fun u2 => if u2.1 ≤ 0 then (fX7_leak_L6 n v (x1 + 1) u2.2.2 u2.2.1) else (some (.inl (x1, u2.2.2, u2.2.1)))))
set_option maxRecDepth 100000 in
set_option maxHeartbeats 4000000 in
theorem tX7_leak_l6 {X : zX} {l : Launch} {G : va_G} {ca : Nat → ClassId} {ad : Nat → Nat} (h : zOk X l G ca cX7_leak RX7 wsX7_leak 2 rX7_leak) : ∀ (n : Nat) (v : MV) (x1 : Int32) (m8 : zAI) (m12 : zAI) (out : ((Int32 × zAI × zAI) ⊕ (zAI × zAI))), fX7_leak_L6 n v x1 m8 m12 = some out → (∀ e, out = .inr e → V X G 2 0 0 (wM ca ad (v.1, v.2.1, v.2.2.1, v.2.2.2.1, v.2.2.2.2.1, v.2.2.2.2.2.1, v.2.2.2.2.2.2.1, v.2.2.2.2.2.2.2.1, e.1, v.2.2.2.2.2.2.2.2.2.1, v.2.2.2.2.2.2.2.2.2.2.1, v.2.2.2.2.2.2.2.2.2.2.2.1, e.2, v.2.2.2.2.2.2.2.2.2.2.2.2.2)) 31 [] []) → (∀ r, out = .inl r → zEi X G cX7_leak 2 .int r.1 (wM ca ad (v.1, v.2.1, v.2.2.1, v.2.2.2.1, v.2.2.2.2.1, v.2.2.2.2.2.1, v.2.2.2.2.2.2.1, v.2.2.2.2.2.2.2.1, r.2.1, v.2.2.2.2.2.2.2.2.2.1, v.2.2.2.2.2.2.2.2.2.2.1, v.2.2.2.2.2.2.2.2.2.2.2.1, r.2.2, v.2.2.2.2.2.2.2.2.2.2.2.2.2))) → V X G 2 0 0 (wM ca ad (v.1, v.2.1, v.2.2.1, v.2.2.2.1, v.2.2.2.2.1, v.2.2.2.2.2.1, v.2.2.2.2.2.2.1, v.2.2.2.2.2.2.2.1, m8, v.2.2.2.2.2.2.2.2.2.1, v.2.2.2.2.2.2.2.2.2.2.1, v.2.2.2.2.2.2.2.2.2.2.2.1, m12, v.2.2.2.2.2.2.2.2.2.2.2.2.2)) 6 [(0, .ref (ad 0)), (1, .int x1)] [] := by
  intro n
  induction n with
  | zero => intro v x1 m8 m12 out hf; rw [fX7_leak_L6] at hf; cases hf
  | succ n ih =>
    intro v x1 m8 m12 out hf kx kr
    rw [fX7_leak_L6] at hf
    refine v_iload_n h dX7_leak_6 1 rfl 7 rfl ?_
    refine v_bipush h dX7_leak_7 40 rfl 9 rfl ?_
    refine v_icmp_gt h dX7_leak_9 31 (by decide) 12 rfl (fun c1 => ?_) (fun c1 => ?_)
    · replace hf := zt c1 hf
      cases (Option.some.inj hf)
      exact v_sub [] rfl (kx _ rfl)
    · replace hf := zf c1 hf
      refine v_aload_n h dX7_leak_12 0 rfl 13 rfl ?_
      refine v_aload_n h dX7_leak_13 0 rfl 14 rfl ?_
      refine v_get h (v := .ref (ad 6)) dX7_leak_14 iX7_leak_X7 0 rfl rfl 8 (by decide) (zwi 1 rfl) rfl 17 rfl ?_
      obtain ⟨u2, hu2, hf⟩ := zb hf
      refine v_callVi h (rest := []) dX7_leak_17 (tX7_yearIn l G ca ad (ad 6) (v.1, v.2.1, v.2.2.1, v.2.2.2.1, v.2.2.2.2.1, v.2.2.2.2.2.1, v.2.2.2.2.2.2.1, v.2.2.2.2.2.2.2.1, m8, v.2.2.2.2.2.2.2.2.2.1, v.2.2.2.2.2.2.2.2.2.2.1, v.2.2.2.2.2.2.2.2.2.2.2.1, m12, v.2.2.2.2.2.2.2.2.2.2.2.2.2) m12 m8  hu2) gX7_leak_X7_yearIn rfl rfl ⟨rfl, rfl⟩ nX7_yearIn ⟨Nat.le_of_ble_eq_true rfl, Nat.le_of_ble_eq_true rfl⟩ [0, 9, 6] rfl rfl 0 rfl rfl rfl rfl (Nat.le_of_ble_eq_true rfl) ⟨Nat.zero_le _, Nat.zero_le _⟩ rfl (wM ca ad (v.1, v.2.1, v.2.2.1, v.2.2.2.1, v.2.2.2.2.1, v.2.2.2.2.2.1, v.2.2.2.2.2.2.1, v.2.2.2.2.2.2.2.1, u2.2.2, v.2.2.2.2.2.2.2.2.2.1, v.2.2.2.2.2.2.2.2.2.2.1, v.2.2.2.2.2.2.2.2.2.2.2.1, u2.2.1, v.2.2.2.2.2.2.2.2.2.2.2.2.2)) rfl (wM_adr _ _ _ _) 20 rfl ?_
      refine v_if_le h dX7_leak_20 25 (by decide) 23 rfl (fun c3 => ?_) (fun c3 => ?_)
      · replace hf := zt c3 hf
        refine v_iinc h dX7_leak_25 1 rfl (x1 + 1) rfl (Nat.le_of_ble_eq_true rfl) rfl rfl [(0, .ref (ad 0)), (1, .int (x1 + 1))] rfl 28 rfl ?_
        refine v_goto h dX7_leak_28 6 (by decide) ?_
        exact v_sub [0, 1] rfl (ih v (x1 + 1) u2.2.2 u2.2.1 _ hf kx kr)
      · replace hf := zf c3 hf
        refine v_iload_n h dX7_leak_23 1 rfl 24 rfl ?_
        cases (Option.some.inj hf)
        exact kr _ rfl 24 _ rfl dX7_leak_24
def fX7_leak (v : MV) : Option (Int32 × zAI × zAI) := ((fX7_begin v) : Option zAI).bind (fun u1 => ((fX7_leak_L6 zF (v.1, v.2.1, v.2.2.1, v.2.2.2.1, v.2.2.2.2.1, v.2.2.2.2.2.1, v.2.2.2.2.2.2.1, v.2.2.2.2.2.2.2.1, u1, v.2.2.2.2.2.2.2.2.2) 1 u1 v.2.2.2.2.2.2.2.2.2.2.2.2.1) : Option ((Int32 × zAI × zAI) ⊕ (zAI × zAI))).bind (fun u2 => zrt u2 (fun r => some r) (fun x3 => some ((-4), x3.1, x3.2))))
set_option maxRecDepth 100000 in
set_option maxHeartbeats 4000000 in
theorem tX7_leak (l : Launch) (G : va_G) (ca : Nat → ClassId) (ad : Nat → Nat) (v : MV)  {o : (Int32 × zAI × zAI)} (hf : fX7_leak v = some o) : zMi l yX7_leak wsX7_leak rX7_leak G ca [.ref (ad 0)] (wM ca ad v) o.1 (wM ca ad (v.1, v.2.1, v.2.2.1, v.2.2.2.1, v.2.2.2.2.1, v.2.2.2.2.2.1, v.2.2.2.2.2.2.1, v.2.2.2.2.2.2.2.1, o.2.1, v.2.2.2.2.2.2.2.2.2.1, v.2.2.2.2.2.2.2.2.2.2.1, v.2.2.2.2.2.2.2.2.2.2.2.1, o.2.2, v.2.2.2.2.2.2.2.2.2.2.2.2.2)) := by
  refine zMi.of (cc := cX7_leak) (nL := 2) (own := RX7) (ty := .int) (by decide) rfl rfl (Nat.le_of_ble_eq_true rfl) (fun X h hE => ?_)
  show V X G 2 0 0 (wM ca ad v) 0 [(0, .ref (ad 0))] []
  unfold fX7_leak at hf
  refine v_aload_n h dX7_leak_0 0 rfl 1 rfl ?_
  obtain ⟨u1, hu1, hf⟩ := zb hf
  refine v_wcallVv h (rest := []) dX7_leak_1 (tX7_begin l G ca ad v  hu1) gX7_leak_X7_begin rfl rfl ⟨rfl, rfl⟩ nX7_begin ⟨Nat.le_of_ble_eq_true rfl, Nat.le_of_ble_eq_true rfl⟩ 0 rfl rfl rfl rfl (Nat.le_of_ble_eq_true rfl) ⟨Nat.zero_le _, Nat.zero_le _⟩ (wM_adr _ _ _ _) 4 rfl ?_
  refine v_iconst h dX7_leak_4 1 rfl 5 rfl ?_
  refine v_istore_n h dX7_leak_5 (Nat.le_of_ble_eq_true rfl) rfl rfl [(0, .ref (ad 0)), (1, .int 1)] rfl 6 rfl ?_
  obtain ⟨u2, hu2, hf⟩ := zb hf
  refine v_sub [0, 1] rfl ?_
  refine tX7_leak_l6 h zF (v.1, v.2.1, v.2.2.1, v.2.2.2.1, v.2.2.2.2.1, v.2.2.2.2.2.1, v.2.2.2.2.2.2.1, v.2.2.2.2.2.2.2.1, u1, v.2.2.2.2.2.2.2.2.2) 1 u1 v.2.2.2.2.2.2.2.2.2.2.2.2.1 _ hu2 (fun x3 ex => ?_) (fun x3 ex => ?_)
  · subst ex
    replace hf := hf
    refine v_bipush h dX7_leak_31 (-4) rfl 33 rfl ?_
    cases (Option.some.inj hf)
    exact hE 33 _ rfl dX7_leak_33
  · subst ex
    cases (Option.some.inj hf)
    exact hE
abbrev rX7_bare : Room := { frames := 4, cells := 0, slots := 0, locals := 94 }
theorem nX7_bare : zNoMH yX7_bare 0 := ⟨by decide +kernel, by decide +kernel, by decide +kernel⟩
theorem iX7_bare_X7 : ∀ w ∈ wsX70, w ∈ wsX7_bare := fun _ h => (List.mem_cons_of_mem _ (List.mem_append_right _ h))
def fX7_bare_L6 : Nat → MV → Int32 → zAI → zAI → Option ((Int32 × zAI × zAI) ⊕ (zAI × zAI))
  | 0, _, _, _, _ => none
  | n + 1, v, x1, m8, m12 => if 40 < x1 then (some (.inr (m8, m12))) else (if (zgt m8 3) = 0 then (some (.inl (x1, m8, m12))) else (((fX7_yearIn m12 m8) : Option (Int32 × zAI × zAI)).bind (fun u3 => fX7_bare_L6 n v (x1 + 1) u3.2.2 u3.2.1)))
set_option maxRecDepth 100000 in
set_option maxHeartbeats 4000000 in
theorem tX7_bare_l6 {X : zX} {l : Launch} {G : va_G} {ca : Nat → ClassId} {ad : Nat → Nat} (h : zOk X l G ca cX7_bare RX7 wsX7_bare 2 rX7_bare) : ∀ (n : Nat) (v : MV) (x1 : Int32) (m8 : zAI) (m12 : zAI) (out : ((Int32 × zAI × zAI) ⊕ (zAI × zAI))), fX7_bare_L6 n v x1 m8 m12 = some out → (∀ e, out = .inr e → V X G 2 0 0 (wM ca ad (v.1, v.2.1, v.2.2.1, v.2.2.2.1, v.2.2.2.2.1, v.2.2.2.2.2.1, v.2.2.2.2.2.2.1, v.2.2.2.2.2.2.2.1, e.1, v.2.2.2.2.2.2.2.2.2.1, v.2.2.2.2.2.2.2.2.2.2.1, v.2.2.2.2.2.2.2.2.2.2.2.1, e.2, v.2.2.2.2.2.2.2.2.2.2.2.2.2)) 38 [] []) → (∀ r, out = .inl r → zEi X G cX7_bare 2 .int r.1 (wM ca ad (v.1, v.2.1, v.2.2.1, v.2.2.2.1, v.2.2.2.2.1, v.2.2.2.2.2.1, v.2.2.2.2.2.2.1, v.2.2.2.2.2.2.2.1, r.2.1, v.2.2.2.2.2.2.2.2.2.1, v.2.2.2.2.2.2.2.2.2.2.1, v.2.2.2.2.2.2.2.2.2.2.2.1, r.2.2, v.2.2.2.2.2.2.2.2.2.2.2.2.2))) → V X G 2 0 0 (wM ca ad (v.1, v.2.1, v.2.2.1, v.2.2.2.1, v.2.2.2.2.1, v.2.2.2.2.2.1, v.2.2.2.2.2.2.1, v.2.2.2.2.2.2.2.1, m8, v.2.2.2.2.2.2.2.2.2.1, v.2.2.2.2.2.2.2.2.2.2.1, v.2.2.2.2.2.2.2.2.2.2.2.1, m12, v.2.2.2.2.2.2.2.2.2.2.2.2.2)) 6 [(0, .ref (ad 0)), (1, .int x1)] [] := by
  intro n
  induction n with
  | zero => intro v x1 m8 m12 out hf; rw [fX7_bare_L6] at hf; cases hf
  | succ n ih =>
    intro v x1 m8 m12 out hf kx kr
    rw [fX7_bare_L6] at hf
    refine v_iload_n h dX7_bare_6 1 rfl 7 rfl ?_
    refine v_bipush h dX7_bare_7 40 rfl 9 rfl ?_
    refine v_icmp_gt h dX7_bare_9 38 (by decide) 12 rfl (fun c1 => ?_) (fun c1 => ?_)
    · replace hf := zt c1 hf
      cases (Option.some.inj hf)
      exact v_sub [] rfl (kx _ rfl)
    · replace hf := zf c1 hf
      refine v_aload_n h dX7_bare_12 0 rfl 13 rfl ?_
      refine v_get h (v := .ref (ad 6)) dX7_bare_13 iX7_bare_X7 0 rfl rfl 8 (by decide) (zwi 1 rfl) rfl 16 rfl ?_
      refine v_iconst h dX7_bare_16 3 rfl 17 rfl ?_
      refine v_iald h (f := m8) dX7_bare_17 6 0 rfl rfl zi_3_407 18 rfl ?_
      refine v_if_ne h dX7_bare_18 23 (by decide) 21 rfl (fun c2 => ?_) (fun c2 => ?_)
      · replace hf := zf c2 hf
        refine v_aload_n h dX7_bare_23 0 rfl 24 rfl ?_
        refine v_aload_n h dX7_bare_24 0 rfl 25 rfl ?_
        refine v_get h (v := .ref (ad 6)) dX7_bare_25 iX7_bare_X7 0 rfl rfl 8 (by decide) (zwi 1 rfl) rfl 28 rfl ?_
        obtain ⟨u3, hu3, hf⟩ := zb hf
        refine v_callVi h (rest := []) dX7_bare_28 (tX7_yearIn l G ca ad (ad 6) (v.1, v.2.1, v.2.2.1, v.2.2.2.1, v.2.2.2.2.1, v.2.2.2.2.2.1, v.2.2.2.2.2.2.1, v.2.2.2.2.2.2.2.1, m8, v.2.2.2.2.2.2.2.2.2.1, v.2.2.2.2.2.2.2.2.2.2.1, v.2.2.2.2.2.2.2.2.2.2.2.1, m12, v.2.2.2.2.2.2.2.2.2.2.2.2.2) m12 m8  hu3) gX7_bare_X7_yearIn rfl rfl ⟨rfl, rfl⟩ nX7_yearIn ⟨Nat.le_of_ble_eq_true rfl, Nat.le_of_ble_eq_true rfl⟩ [0, 9, 6] rfl rfl 0 rfl rfl rfl rfl (Nat.le_of_ble_eq_true rfl) ⟨Nat.zero_le _, Nat.zero_le _⟩ rfl (wM ca ad (v.1, v.2.1, v.2.2.1, v.2.2.2.1, v.2.2.2.2.1, v.2.2.2.2.2.1, v.2.2.2.2.2.2.1, v.2.2.2.2.2.2.2.1, u3.2.2, v.2.2.2.2.2.2.2.2.2.1, v.2.2.2.2.2.2.2.2.2.2.1, v.2.2.2.2.2.2.2.2.2.2.2.1, u3.2.1, v.2.2.2.2.2.2.2.2.2.2.2.2.2)) rfl (wM_adr _ _ _ _) 31 rfl ?_
        refine v_pop h dX7_bare_31 rfl 32 rfl ?_
        refine v_iinc h dX7_bare_32 1 rfl (x1 + 1) rfl (Nat.le_of_ble_eq_true rfl) rfl rfl [(0, .ref (ad 0)), (1, .int (x1 + 1))] rfl 35 rfl ?_
        refine v_goto h dX7_bare_35 6 (by decide) ?_
        exact v_sub [0, 1] rfl (ih v (x1 + 1) u3.2.2 u3.2.1 _ hf kx kr)
      · replace hf := zt c2 hf
        refine v_iload_n h dX7_bare_21 1 rfl 22 rfl ?_
        cases (Option.some.inj hf)
        exact kr _ rfl 22 _ rfl dX7_bare_22
def fX7_bare (v : MV) : Option (Int32 × zAI × zAI) := ((fX7_begin v) : Option zAI).bind (fun u1 => ((fX7_bare_L6 zF (v.1, v.2.1, v.2.2.1, v.2.2.2.1, v.2.2.2.2.1, v.2.2.2.2.2.1, v.2.2.2.2.2.2.1, v.2.2.2.2.2.2.2.1, u1, v.2.2.2.2.2.2.2.2.2) 0 u1 v.2.2.2.2.2.2.2.2.2.2.2.2.1) : Option ((Int32 × zAI × zAI) ⊕ (zAI × zAI))).bind (fun u2 => zrt u2 (fun r => some r) (fun x3 => some ((-4), x3.1, x3.2))))
set_option maxRecDepth 100000 in
set_option maxHeartbeats 4000000 in
theorem tX7_bare (l : Launch) (G : va_G) (ca : Nat → ClassId) (ad : Nat → Nat) (v : MV)  {o : (Int32 × zAI × zAI)} (hf : fX7_bare v = some o) : zMi l yX7_bare wsX7_bare rX7_bare G ca [.ref (ad 0)] (wM ca ad v) o.1 (wM ca ad (v.1, v.2.1, v.2.2.1, v.2.2.2.1, v.2.2.2.2.1, v.2.2.2.2.2.1, v.2.2.2.2.2.2.1, v.2.2.2.2.2.2.2.1, o.2.1, v.2.2.2.2.2.2.2.2.2.1, v.2.2.2.2.2.2.2.2.2.2.1, v.2.2.2.2.2.2.2.2.2.2.2.1, o.2.2, v.2.2.2.2.2.2.2.2.2.2.2.2.2)) := by
  refine zMi.of (cc := cX7_bare) (nL := 2) (own := RX7) (ty := .int) (by decide) rfl rfl (Nat.le_of_ble_eq_true rfl) (fun X h hE => ?_)
  show V X G 2 0 0 (wM ca ad v) 0 [(0, .ref (ad 0))] []
  unfold fX7_bare at hf
  refine v_aload_n h dX7_bare_0 0 rfl 1 rfl ?_
  obtain ⟨u1, hu1, hf⟩ := zb hf
  refine v_wcallVv h (rest := []) dX7_bare_1 (tX7_begin l G ca ad v  hu1) gX7_bare_X7_begin rfl rfl ⟨rfl, rfl⟩ nX7_begin ⟨Nat.le_of_ble_eq_true rfl, Nat.le_of_ble_eq_true rfl⟩ 0 rfl rfl rfl rfl (Nat.le_of_ble_eq_true rfl) ⟨Nat.zero_le _, Nat.zero_le _⟩ (wM_adr _ _ _ _) 4 rfl ?_
  refine v_iconst h dX7_bare_4 0 rfl 5 rfl ?_
  refine v_istore_n h dX7_bare_5 (Nat.le_of_ble_eq_true rfl) rfl rfl [(0, .ref (ad 0)), (1, .int 0)] rfl 6 rfl ?_
  obtain ⟨u2, hu2, hf⟩ := zb hf
  refine v_sub [0, 1] rfl ?_
  refine tX7_bare_l6 h zF (v.1, v.2.1, v.2.2.1, v.2.2.2.1, v.2.2.2.2.1, v.2.2.2.2.2.1, v.2.2.2.2.2.2.1, v.2.2.2.2.2.2.2.1, u1, v.2.2.2.2.2.2.2.2.2) 0 u1 v.2.2.2.2.2.2.2.2.2.2.2.2.1 _ hu2 (fun x3 ex => ?_) (fun x3 ex => ?_)
  · subst ex
    replace hf := hf
    refine v_bipush h dX7_bare_38 (-4) rfl 40 rfl ?_
    cases (Option.some.inj hf)
    exact hE 40 _ rfl dX7_bare_40
  · subst ex
    cases (Option.some.inj hf)
    exact hE
abbrev rX7_reach : Room := { frames := 1, cells := 0, slots := 0, locals := 23 }
theorem nX7_reach : zNoMH yX7_reach 1 := ⟨by decide +kernel, by decide +kernel, by decide +kernel⟩
theorem iX7_reach_X7 : ∀ w ∈ wsX70, w ∈ wsX7_reach := fun _ h => (List.mem_cons_of_mem _ (List.mem_append_right _ h))
def fX7_reach_L47 : Nat → MV → Int32 → Int32 → Int32 → Option Int32
  | 0, _, _, _, _ => none
  | n + 1, v, x2, x3, x4 => if x4 < 0 then (some x3) else (if x2 ≤ 0 then (((fX7_capOf v.2.2.2.2.2.2.2.1 x4) : Option Int32).bind (fun u3 => fX7_reach_L47 n v (x2 - u3) (x3 + 0) (x4 + (-1)))) else (((fX7_capOf v.2.2.2.2.2.2.2.1 x4) : Option Int32).bind (fun u4 => fX7_reach_L47 n v (x2 - u4) (x3 + 1) (x4 + (-1)))))
set_option maxRecDepth 100000 in
set_option maxHeartbeats 4000000 in
theorem tX7_reach_l47 {X : zX} {l : Launch} {G : va_G} {ca : Nat → ClassId} {ad : Nat → Nat} (h : zOk X l G ca cX7_reach RX7 wsX7_reach 5 rX7_reach) : ∀ (n : Nat) (v : MV) (x2 : Int32) (x3 : Int32) (x4 : Int32) (out : Int32), fX7_reach_L47 n v x2 x3 x4 = some out → (V X G 5 0 0 (wM ca ad v) 82 [(3, .int out)] []) → V X G 5 0 0 (wM ca ad v) 47 [(0, .ref (ad 0)), (2, .int x2), (3, .int x3), (4, .int x4)] [] := by
  intro n
  induction n with
  | zero => intro v x2 x3 x4 out hf; rw [fX7_reach_L47] at hf; cases hf
  | succ n ih =>
    intro v x2 x3 x4 out hf kx
    rw [fX7_reach_L47] at hf
    refine v_iload h dX7_reach_47 3 rfl 49 rfl ?_
    refine v_if_lt h dX7_reach_49 82 (by decide) 52 rfl (fun c1 => ?_) (fun c1 => ?_)
    · replace hf := zt c1 hf
      cases (Option.some.inj hf)
      exact v_sub [2] rfl (kx)
    · replace hf := zf c1 hf
      refine v_iload_n h dX7_reach_52 2 rfl 53 rfl ?_
      refine v_iload_n h dX7_reach_53 1 rfl 54 rfl ?_
      refine v_if_le h dX7_reach_54 61 (by decide) 57 rfl (fun c2 => ?_) (fun c2 => ?_)
      · replace hf := zt c2 hf
        refine v_iconst h dX7_reach_61 0 rfl 62 rfl ?_
        refine v_iadd h dX7_reach_62 63 rfl ?_
        refine v_istore_n h dX7_reach_63 (Nat.le_of_ble_eq_true rfl) rfl rfl [(0, .ref (ad 0)), (2, .int x2), (3, .int (x3 + 0)), (4, .int x4)] rfl 64 rfl ?_
        refine v_iload_n h dX7_reach_64 1 rfl 65 rfl ?_
        refine v_aload_n h dX7_reach_65 0 rfl 66 rfl ?_
        refine v_get h (v := .ref (ad 5)) dX7_reach_66 iX7_reach_X7 0 rfl rfl 7 (by decide) (zwi 1 rfl) rfl 69 rfl ?_
        refine v_iload h dX7_reach_69 3 rfl 71 rfl ?_
        obtain ⟨u3, hu3, hf⟩ := zb hf
        refine v_callSi h (rest := [.int x2]) dX7_reach_71 (tX7_capOf l G ca (ad 5) v.2.2.2.2.2.2.2.1 x4 hu3) gX7_reach_X7_capOf rfl ⟨rfl, rfl⟩ nX7_capOf ⟨Nat.le_of_ble_eq_true rfl, Nat.le_of_ble_eq_true rfl⟩ [5] rfl rfl rfl rfl (Nat.le_of_ble_eq_true rfl) ⟨Nat.zero_le _, Nat.zero_le _⟩ rfl (wM ca ad v) rfl (wM_adr _ _ _ _) 74 rfl ?_
        refine v_isub h dX7_reach_74 75 rfl ?_
        refine v_istore_n h dX7_reach_75 (Nat.le_of_ble_eq_true rfl) rfl rfl [(0, .ref (ad 0)), (2, .int (x2 - u3)), (3, .int (x3 + 0)), (4, .int x4)] rfl 76 rfl ?_
        refine v_iinc h dX7_reach_76 3 rfl (x4 + (-1)) rfl (Nat.le_of_ble_eq_true rfl) rfl rfl [(0, .ref (ad 0)), (2, .int (x2 - u3)), (3, .int (x3 + 0)), (4, .int (x4 + (-1)))] rfl 79 rfl ?_
        refine v_goto h dX7_reach_79 47 (by decide) ?_
        exact v_sub [0, 1, 2, 3] rfl (ih v (x2 - u3) (x3 + 0) (x4 + (-1)) _ hf kx)
      · replace hf := zf c2 hf
        refine v_iconst h dX7_reach_57 1 rfl 58 rfl ?_
        refine v_goto h dX7_reach_58 62 (by decide) ?_
        refine v_iadd h dX7_reach_62 63 rfl ?_
        refine v_istore_n h dX7_reach_63 (Nat.le_of_ble_eq_true rfl) rfl rfl [(0, .ref (ad 0)), (2, .int x2), (3, .int (x3 + 1)), (4, .int x4)] rfl 64 rfl ?_
        refine v_iload_n h dX7_reach_64 1 rfl 65 rfl ?_
        refine v_aload_n h dX7_reach_65 0 rfl 66 rfl ?_
        refine v_get h (v := .ref (ad 5)) dX7_reach_66 iX7_reach_X7 0 rfl rfl 7 (by decide) (zwi 1 rfl) rfl 69 rfl ?_
        refine v_iload h dX7_reach_69 3 rfl 71 rfl ?_
        obtain ⟨u4, hu4, hf⟩ := zb hf
        refine v_callSi h (rest := [.int x2]) dX7_reach_71 (tX7_capOf l G ca (ad 5) v.2.2.2.2.2.2.2.1 x4 hu4) gX7_reach_X7_capOf rfl ⟨rfl, rfl⟩ nX7_capOf ⟨Nat.le_of_ble_eq_true rfl, Nat.le_of_ble_eq_true rfl⟩ [5] rfl rfl rfl rfl (Nat.le_of_ble_eq_true rfl) ⟨Nat.zero_le _, Nat.zero_le _⟩ rfl (wM ca ad v) rfl (wM_adr _ _ _ _) 74 rfl ?_
        refine v_isub h dX7_reach_74 75 rfl ?_
        refine v_istore_n h dX7_reach_75 (Nat.le_of_ble_eq_true rfl) rfl rfl [(0, .ref (ad 0)), (2, .int (x2 - u4)), (3, .int (x3 + 1)), (4, .int x4)] rfl 76 rfl ?_
        refine v_iinc h dX7_reach_76 3 rfl (x4 + (-1)) rfl (Nat.le_of_ble_eq_true rfl) rfl rfl [(0, .ref (ad 0)), (2, .int (x2 - u4)), (3, .int (x3 + 1)), (4, .int (x4 + (-1)))] rfl 79 rfl ?_
        refine v_goto h dX7_reach_79 47 (by decide) ?_
        exact v_sub [0, 1, 2, 3] rfl (ih v (x2 - u4) (x3 + 1) (x4 + (-1)) _ hf kx)
def fX7_reach (v : MV) (x1 : Int32) : Option Int32 := ((fX7_in x1 (-1) 99) : Option Int32).bind (fun u1 => if u1 = 0 then (some (-1)) else (if x1 = (-1) then (((fX7_rainIn v.2.2.2.2.2.2.2.1 (zgt v.2.2.2.2.2.2.2.1 0)) : Option Int32).bind (fun u5 => ((fX7_reach_L47 zF v u5 0 ((zgt v.2.2.2.2.2.2.2.1 3) - 1)) : Option Int32).bind (fun u6 => some u6))) else (((fX7_reach_L47 zF v x1 0 ((zgt v.2.2.2.2.2.2.2.1 3) - 1)) : Option Int32).bind (fun u4 => some u4))))
set_option maxRecDepth 100000 in
set_option maxHeartbeats 4000000 in
theorem tX7_reach (l : Launch) (G : va_G) (ca : Nat → ClassId) (ad : Nat → Nat) (v : MV) (x1 : Int32) {o : Int32} (hf : fX7_reach v x1 = some o) : zMi l yX7_reach wsX7_reach rX7_reach G ca [.ref (ad 0), .int x1] (wM ca ad v) o (wM ca ad v) := by
  refine zMi.of (cc := cX7_reach) (nL := 5) (own := RX7) (ty := .int) (by decide) rfl rfl (Nat.le_of_ble_eq_true rfl) (fun X h hE => ?_)
  show V X G 5 0 0 (wM ca ad v) 0 [(0, .ref (ad 0)), (1, .int x1)] []
  unfold fX7_reach at hf
  refine v_iload_n h dX7_reach_0 1 rfl 1 rfl ?_
  refine v_iconst h dX7_reach_1 (-1) rfl 2 rfl ?_
  refine v_bipush h dX7_reach_2 99 rfl 4 rfl ?_
  obtain ⟨u1, hu1, hf⟩ := zb hf
  refine v_callSi h (rest := []) dX7_reach_4 (tX7_in l G ca   x1 (-1) 99 hu1) gX7_reach_X7_in rfl ⟨rfl, rfl⟩ nX7_in ⟨Nat.le_of_ble_eq_true rfl, Nat.le_of_ble_eq_true rfl⟩ [] rfl rfl rfl rfl (Nat.le_of_ble_eq_true rfl) ⟨Nat.zero_le _, Nat.zero_le _⟩ rfl (wM ca ad v) rfl (wM_adr _ _ _ _) 7 rfl ?_
  refine v_if_ne h dX7_reach_7 12 (by decide) 10 rfl (fun c2 => ?_) (fun c2 => ?_)
  · replace hf := zf c2 hf
    refine v_iload_n h dX7_reach_12 1 rfl 13 rfl ?_
    refine v_iconst h dX7_reach_13 (-1) rfl 14 rfl ?_
    refine v_icmp_ne h dX7_reach_14 33 (by decide) 17 rfl (fun c3 => ?_) (fun c3 => ?_)
    · replace hf := zf c3 hf
      refine v_iload_n h dX7_reach_33 1 rfl 34 rfl ?_
      refine v_istore_n h dX7_reach_34 (Nat.le_of_ble_eq_true rfl) rfl rfl [(0, .ref (ad 0)), (1, .int x1), (2, .int x1)] rfl 35 rfl ?_
      refine v_iconst h dX7_reach_35 0 rfl 36 rfl ?_
      refine v_istore_n h dX7_reach_36 (Nat.le_of_ble_eq_true rfl) rfl rfl [(0, .ref (ad 0)), (1, .int x1), (2, .int x1), (3, .int 0)] rfl 37 rfl ?_
      refine v_aload_n h dX7_reach_37 0 rfl 38 rfl ?_
      refine v_get h (v := .ref (ad 5)) dX7_reach_38 iX7_reach_X7 0 rfl rfl 7 (by decide) (zwi 1 rfl) rfl 41 rfl ?_
      refine v_iconst h dX7_reach_41 3 rfl 42 rfl ?_
      refine v_iald h (f := v.2.2.2.2.2.2.2.1) dX7_reach_42 5 0 rfl rfl zi_3_407 43 rfl ?_
      refine v_iconst h dX7_reach_43 1 rfl 44 rfl ?_
      refine v_isub h dX7_reach_44 45 rfl ?_
      refine v_istore h dX7_reach_45 (Nat.le_of_ble_eq_true rfl) rfl rfl [(0, .ref (ad 0)), (1, .int x1), (2, .int x1), (3, .int 0), (4, .int ((zgt v.2.2.2.2.2.2.2.1 3) - 1))] rfl 47 rfl ?_
      obtain ⟨u4, hu4, hf⟩ := zb hf
      refine v_sub [0, 2, 3, 4] rfl ?_
      refine tX7_reach_l47 h zF v x1 0 ((zgt v.2.2.2.2.2.2.2.1 3) - 1) _ hu4 ?_
      refine v_iload_n h dX7_reach_82 0 rfl 83 rfl ?_
      cases (Option.some.inj hf)
      exact hE 83 _ rfl dX7_reach_83
    · replace hf := zt c3 hf
      refine v_aload_n h dX7_reach_17 0 rfl 18 rfl ?_
      refine v_get h (v := .ref (ad 5)) dX7_reach_18 iX7_reach_X7 0 rfl rfl 7 (by decide) (zwi 1 rfl) rfl 21 rfl ?_
      refine v_aload_n h dX7_reach_21 0 rfl 22 rfl ?_
      refine v_get h (v := .ref (ad 5)) dX7_reach_22 iX7_reach_X7 0 rfl rfl 7 (by decide) (zwi 1 rfl) rfl 25 rfl ?_
      refine v_iconst h dX7_reach_25 0 rfl 26 rfl ?_
      refine v_iald h (f := v.2.2.2.2.2.2.2.1) dX7_reach_26 5 0 rfl rfl zi_0_407 27 rfl ?_
      obtain ⟨u5, hu5, hf⟩ := zb hf
      refine v_callSi h (rest := []) dX7_reach_27 (tX7_rainIn l G ca (ad 5) v.2.2.2.2.2.2.2.1 (zgt v.2.2.2.2.2.2.2.1 0) hu5) gX7_reach_X7_rainIn rfl ⟨rfl, rfl⟩ nX7_rainIn ⟨Nat.le_of_ble_eq_true rfl, Nat.le_of_ble_eq_true rfl⟩ [5] rfl rfl rfl rfl (Nat.le_of_ble_eq_true rfl) ⟨Nat.zero_le _, Nat.zero_le _⟩ rfl (wM ca ad v) rfl (wM_adr _ _ _ _) 30 rfl ?_
      refine v_goto h dX7_reach_30 34 (by decide) ?_
      refine v_istore_n h dX7_reach_34 (Nat.le_of_ble_eq_true rfl) rfl rfl [(0, .ref (ad 0)), (1, .int x1), (2, .int u5)] rfl 35 rfl ?_
      refine v_iconst h dX7_reach_35 0 rfl 36 rfl ?_
      refine v_istore_n h dX7_reach_36 (Nat.le_of_ble_eq_true rfl) rfl rfl [(0, .ref (ad 0)), (1, .int x1), (2, .int u5), (3, .int 0)] rfl 37 rfl ?_
      refine v_aload_n h dX7_reach_37 0 rfl 38 rfl ?_
      refine v_get h (v := .ref (ad 5)) dX7_reach_38 iX7_reach_X7 0 rfl rfl 7 (by decide) (zwi 1 rfl) rfl 41 rfl ?_
      refine v_iconst h dX7_reach_41 3 rfl 42 rfl ?_
      refine v_iald h (f := v.2.2.2.2.2.2.2.1) dX7_reach_42 5 0 rfl rfl zi_3_407 43 rfl ?_
      refine v_iconst h dX7_reach_43 1 rfl 44 rfl ?_
      refine v_isub h dX7_reach_44 45 rfl ?_
      refine v_istore h dX7_reach_45 (Nat.le_of_ble_eq_true rfl) rfl rfl [(0, .ref (ad 0)), (1, .int x1), (2, .int u5), (3, .int 0), (4, .int ((zgt v.2.2.2.2.2.2.2.1 3) - 1))] rfl 47 rfl ?_
      obtain ⟨u6, hu6, hf⟩ := zb hf
      refine v_sub [0, 2, 3, 4] rfl ?_
      refine tX7_reach_l47 h zF v u5 0 ((zgt v.2.2.2.2.2.2.2.1 3) - 1) _ hu6 ?_
      refine v_iload_n h dX7_reach_82 0 rfl 83 rfl ?_
      cases (Option.some.inj hf)
      exact hE 83 _ rfl dX7_reach_83
  · replace hf := zt c2 hf
    refine v_iconst h dX7_reach_10 (-1) rfl 11 rfl ?_
    cases (Option.some.inj hf)
    exact hE 11 _ rfl dX7_reach_11
abbrev rX7_cover : Room := { frames := 5, cells := 0, slots := 0, locals := 117 }
theorem nX7_cover : zNoMH yX7_cover 2 := ⟨by decide +kernel, by decide +kernel, by decide +kernel⟩
theorem iX7_cover_X7 : ∀ w ∈ wsX70, w ∈ wsX7_cover := fun _ h => (List.mem_cons_of_mem _ (List.mem_append_right _ h))
def fX7_cover_L37 : Nat → MV → Int32 → Int32 → Int32 → zAI → zAI → Option ((Int32 × zAI × zAI) ⊕ (zAI × zAI))
  | 0, _, _, _, _, _, _ => none
  | n + 1, v, x1, x2, x3, m8, m12 => if 20 < x3 then (some (.inr (m8, m12))) else (((fX7_begin (v.1, v.2.1, v.2.2.1, v.2.2.2.1, v.2.2.2.2.1, v.2.2.2.2.2.1, v.2.2.2.2.2.2.1, v.2.2.2.2.2.2.2.1, m8, v.2.2.2.2.2.2.2.2.2.1, v.2.2.2.2.2.2.2.2.2.2.1, v.2.2.2.2.2.2.2.2.2.2.2.1, m12, v.2.2.2.2.2.2.2.2.2.2.2.2.2)) : Option zAI).bind (fun u2 => ((fX7_addCoat u2 x1 x3 0) : Option (Int32 × zAI)).bind (fun u3 => ((fX7_goOn (v.1, v.2.1, v.2.2.1, v.2.2.2.1, v.2.2.2.2.1, v.2.2.2.2.2.1, v.2.2.2.2.2.2.1, v.2.2.2.2.2.2.2.1, u3.2, v.2.2.2.2.2.2.2.2.2.1, v.2.2.2.2.2.2.2.2.2.2.1, v.2.2.2.2.2.2.2.2.2.2.2.1, m12, v.2.2.2.2.2.2.2.2.2.2.2.2.2) x2) : Option (Int32 × zAI × zAI)).bind (fun u4 => if u4.1 = 0 then (some (.inl (x3, u4.2.1, u4.2.2))) else (fX7_cover_L37 n v x1 x2 (x3 + 1) u4.2.1 u4.2.2)))))
set_option maxRecDepth 100000 in
set_option maxHeartbeats 4000000 in
theorem tX7_cover_l37 {X : zX} {l : Launch} {G : va_G} {ca : Nat → ClassId} {ad : Nat → Nat} (h : zOk X l G ca cX7_cover RX7 wsX7_cover 4 rX7_cover) : ∀ (n : Nat) (v : MV) (x1 : Int32) (x2 : Int32) (x3 : Int32) (m8 : zAI) (m12 : zAI) (out : ((Int32 × zAI × zAI) ⊕ (zAI × zAI))), fX7_cover_L37 n v x1 x2 x3 m8 m12 = some out → (∀ e, out = .inr e → V X G 4 0 0 (wM ca ad (v.1, v.2.1, v.2.2.1, v.2.2.2.1, v.2.2.2.2.1, v.2.2.2.2.2.1, v.2.2.2.2.2.2.1, v.2.2.2.2.2.2.2.1, e.1, v.2.2.2.2.2.2.2.2.2.1, v.2.2.2.2.2.2.2.2.2.2.1, v.2.2.2.2.2.2.2.2.2.2.2.1, e.2, v.2.2.2.2.2.2.2.2.2.2.2.2.2)) 74 [] []) → (∀ r, out = .inl r → zEi X G cX7_cover 4 .int r.1 (wM ca ad (v.1, v.2.1, v.2.2.1, v.2.2.2.1, v.2.2.2.2.1, v.2.2.2.2.2.1, v.2.2.2.2.2.2.1, v.2.2.2.2.2.2.2.1, r.2.1, v.2.2.2.2.2.2.2.2.2.1, v.2.2.2.2.2.2.2.2.2.2.1, v.2.2.2.2.2.2.2.2.2.2.2.1, r.2.2, v.2.2.2.2.2.2.2.2.2.2.2.2.2))) → V X G 4 0 0 (wM ca ad (v.1, v.2.1, v.2.2.1, v.2.2.2.1, v.2.2.2.2.1, v.2.2.2.2.2.1, v.2.2.2.2.2.2.1, v.2.2.2.2.2.2.2.1, m8, v.2.2.2.2.2.2.2.2.2.1, v.2.2.2.2.2.2.2.2.2.2.1, v.2.2.2.2.2.2.2.2.2.2.2.1, m12, v.2.2.2.2.2.2.2.2.2.2.2.2.2)) 37 [(0, .ref (ad 0)), (1, .int x1), (2, .int x2), (3, .int x3)] [] := by
  intro n
  induction n with
  | zero => intro v x1 x2 x3 m8 m12 out hf; rw [fX7_cover_L37] at hf; cases hf
  | succ n ih =>
    intro v x1 x2 x3 m8 m12 out hf kx kr
    rw [fX7_cover_L37] at hf
    refine v_iload_n h dX7_cover_37 3 rfl 38 rfl ?_
    refine v_bipush h dX7_cover_38 20 rfl 40 rfl ?_
    refine v_icmp_gt h dX7_cover_40 74 (by decide) 43 rfl (fun c1 => ?_) (fun c1 => ?_)
    · replace hf := zt c1 hf
      cases (Option.some.inj hf)
      exact v_sub [] rfl (kx _ rfl)
    · replace hf := zf c1 hf
      refine v_aload_n h dX7_cover_43 0 rfl 44 rfl ?_
      obtain ⟨u2, hu2, hf⟩ := zb hf
      refine v_wcallVv h (rest := []) dX7_cover_44 (tX7_begin l G ca ad (v.1, v.2.1, v.2.2.1, v.2.2.2.1, v.2.2.2.2.1, v.2.2.2.2.2.1, v.2.2.2.2.2.2.1, v.2.2.2.2.2.2.2.1, m8, v.2.2.2.2.2.2.2.2.2.1, v.2.2.2.2.2.2.2.2.2.2.1, v.2.2.2.2.2.2.2.2.2.2.2.1, m12, v.2.2.2.2.2.2.2.2.2.2.2.2.2)  hu2) gX7_cover_X7_begin rfl rfl ⟨rfl, rfl⟩ nX7_begin ⟨Nat.le_of_ble_eq_true rfl, Nat.le_of_ble_eq_true rfl⟩ 0 rfl rfl rfl rfl (Nat.le_of_ble_eq_true rfl) ⟨Nat.zero_le _, Nat.zero_le _⟩ (wM_adr _ _ _ _) 47 rfl ?_
      refine v_aload_n h dX7_cover_47 0 rfl 48 rfl ?_
      refine v_get h (v := .ref (ad 6)) dX7_cover_48 iX7_cover_X7 0 rfl rfl 8 (by decide) (zwi 2 rfl) rfl 51 rfl ?_
      refine v_iload_n h dX7_cover_51 1 rfl 52 rfl ?_
      refine v_iload_n h dX7_cover_52 3 rfl 53 rfl ?_
      refine v_iconst h dX7_cover_53 0 rfl 54 rfl ?_
      obtain ⟨u3, hu3, hf⟩ := zb hf
      refine v_callSi h (rest := []) dX7_cover_54 (tX7_addCoat l G ca (ad 6) u2 x1 x3 0 hu3) gX7_cover_X7_addCoat rfl ⟨rfl, rfl⟩ nX7_addCoat ⟨Nat.le_of_ble_eq_true rfl, Nat.le_of_ble_eq_true rfl⟩ [6] rfl rfl rfl rfl (Nat.le_of_ble_eq_true rfl) ⟨Nat.zero_le _, Nat.zero_le _⟩ rfl (wM ca ad (v.1, v.2.1, v.2.2.1, v.2.2.2.1, v.2.2.2.2.1, v.2.2.2.2.2.1, v.2.2.2.2.2.2.1, v.2.2.2.2.2.2.2.1, u3.2, v.2.2.2.2.2.2.2.2.2.1, v.2.2.2.2.2.2.2.2.2.2.1, v.2.2.2.2.2.2.2.2.2.2.2.1, m12, v.2.2.2.2.2.2.2.2.2.2.2.2.2)) rfl (wM_adr _ _ _ _) 57 rfl ?_
      refine v_pop h dX7_cover_57 rfl 58 rfl ?_
      refine v_aload_n h dX7_cover_58 0 rfl 59 rfl ?_
      refine v_iload_n h dX7_cover_59 2 rfl 60 rfl ?_
      obtain ⟨u4, hu4, hf⟩ := zb hf
      refine v_wcallVi h (rest := []) dX7_cover_60 (tX7_goOn l G ca ad (v.1, v.2.1, v.2.2.1, v.2.2.2.1, v.2.2.2.2.1, v.2.2.2.2.2.1, v.2.2.2.2.2.2.1, v.2.2.2.2.2.2.2.1, u3.2, v.2.2.2.2.2.2.2.2.2.1, v.2.2.2.2.2.2.2.2.2.2.1, v.2.2.2.2.2.2.2.2.2.2.2.1, m12, v.2.2.2.2.2.2.2.2.2.2.2.2.2) x2 hu4) gX7_cover_X7_goOn rfl rfl ⟨rfl, rfl⟩ nX7_goOn ⟨Nat.le_of_ble_eq_true rfl, Nat.le_of_ble_eq_true rfl⟩ 0 rfl rfl rfl rfl (Nat.le_of_ble_eq_true rfl) ⟨Nat.zero_le _, Nat.zero_le _⟩ (wM_adr _ _ _ _) 63 rfl ?_
      refine v_if_ne h dX7_cover_63 68 (by decide) 66 rfl (fun c5 => ?_) (fun c5 => ?_)
      · replace hf := zf c5 hf
        refine v_iinc h dX7_cover_68 3 rfl (x3 + 1) rfl (Nat.le_of_ble_eq_true rfl) rfl rfl [(0, .ref (ad 0)), (1, .int x1), (2, .int x2), (3, .int (x3 + 1))] rfl 71 rfl ?_
        refine v_goto h dX7_cover_71 37 (by decide) ?_
        exact v_sub [0, 1, 2, 3] rfl (ih v x1 x2 (x3 + 1) u4.2.1 u4.2.2 _ hf kx kr)
      · replace hf := zt c5 hf
        refine v_iload_n h dX7_cover_66 3 rfl 67 rfl ?_
        cases (Option.some.inj hf)
        exact kr _ rfl 67 _ rfl dX7_cover_67
def fX7_cover (v : MV) (x1 : Int32) (x2 : Int32) : Option (Int32 × zAI × zAI) := ((fX7_in x1 0 4) : Option Int32).bind (fun u1 => if u1 = 0 then (some ((-1), v.2.2.2.2.2.2.2.2.1, v.2.2.2.2.2.2.2.2.2.2.2.2.1)) else (((fX7_in x2 1 20) : Option Int32).bind (fun u3 => if u3 = 0 then (some ((-1), v.2.2.2.2.2.2.2.2.1, v.2.2.2.2.2.2.2.2.2.2.2.2.1)) else (if (zgt v.2.2.2.2.2.2.2.1 3) = 10 then (some ((-3), v.2.2.2.2.2.2.2.2.1, v.2.2.2.2.2.2.2.2.2.2.2.2.1)) else (((fX7_cover_L37 zF v x1 x2 1 v.2.2.2.2.2.2.2.2.1 v.2.2.2.2.2.2.2.2.2.2.2.2.1) : Option ((Int32 × zAI × zAI) ⊕ (zAI × zAI))).bind (fun u6 => zrt u6 (fun r => some r) (fun x7 => some ((-4), x7.1, x7.2))))))))
set_option maxRecDepth 100000 in
set_option maxHeartbeats 4000000 in
theorem tX7_cover (l : Launch) (G : va_G) (ca : Nat → ClassId) (ad : Nat → Nat) (v : MV) (x1 : Int32) (x2 : Int32) {o : (Int32 × zAI × zAI)} (hf : fX7_cover v x1 x2 = some o) : zMi l yX7_cover wsX7_cover rX7_cover G ca [.ref (ad 0), .int x1, .int x2] (wM ca ad v) o.1 (wM ca ad (v.1, v.2.1, v.2.2.1, v.2.2.2.1, v.2.2.2.2.1, v.2.2.2.2.2.1, v.2.2.2.2.2.2.1, v.2.2.2.2.2.2.2.1, o.2.1, v.2.2.2.2.2.2.2.2.2.1, v.2.2.2.2.2.2.2.2.2.2.1, v.2.2.2.2.2.2.2.2.2.2.2.1, o.2.2, v.2.2.2.2.2.2.2.2.2.2.2.2.2)) := by
  refine zMi.of (cc := cX7_cover) (nL := 4) (own := RX7) (ty := .int) (by decide) rfl rfl (Nat.le_of_ble_eq_true rfl) (fun X h hE => ?_)
  show V X G 4 0 0 (wM ca ad v) 0 [(0, .ref (ad 0)), (1, .int x1), (2, .int x2)] []
  unfold fX7_cover at hf
  refine v_iload_n h dX7_cover_0 1 rfl 1 rfl ?_
  refine v_iconst h dX7_cover_1 0 rfl 2 rfl ?_
  refine v_iconst h dX7_cover_2 4 rfl 3 rfl ?_
  obtain ⟨u1, hu1, hf⟩ := zb hf
  refine v_callSi h (rest := []) dX7_cover_3 (tX7_in l G ca   x1 0 4 hu1) gX7_cover_X7_in rfl ⟨rfl, rfl⟩ nX7_in ⟨Nat.le_of_ble_eq_true rfl, Nat.le_of_ble_eq_true rfl⟩ [] rfl rfl rfl rfl (Nat.le_of_ble_eq_true rfl) ⟨Nat.zero_le _, Nat.zero_le _⟩ rfl (wM ca ad v) rfl (wM_adr _ _ _ _) 6 rfl ?_
  refine v_if_eq h dX7_cover_6 19 (by decide) 9 rfl (fun c2 => ?_) (fun c2 => ?_)
  · replace hf := zt c2 hf
    refine v_iconst h dX7_cover_19 (-1) rfl 20 rfl ?_
    cases (Option.some.inj hf)
    exact hE 20 _ rfl dX7_cover_20
  · replace hf := zf c2 hf
    refine v_iload_n h dX7_cover_9 2 rfl 10 rfl ?_
    refine v_iconst h dX7_cover_10 1 rfl 11 rfl ?_
    refine v_bipush h dX7_cover_11 20 rfl 13 rfl ?_
    obtain ⟨u3, hu3, hf⟩ := zb hf
    refine v_callSi h (rest := []) dX7_cover_13 (tX7_in l G ca   x2 1 20 hu3) gX7_cover_X7_in rfl ⟨rfl, rfl⟩ nX7_in ⟨Nat.le_of_ble_eq_true rfl, Nat.le_of_ble_eq_true rfl⟩ [] rfl rfl rfl rfl (Nat.le_of_ble_eq_true rfl) ⟨Nat.zero_le _, Nat.zero_le _⟩ rfl (wM ca ad v) rfl (wM_adr _ _ _ _) 16 rfl ?_
    refine v_if_ne h dX7_cover_16 21 (by decide) 19 rfl (fun c4 => ?_) (fun c4 => ?_)
    · replace hf := zf c4 hf
      refine v_aload_n h dX7_cover_21 0 rfl 22 rfl ?_
      refine v_get h (v := .ref (ad 5)) dX7_cover_22 iX7_cover_X7 0 rfl rfl 7 (by decide) (zwi 1 rfl) rfl 25 rfl ?_
      refine v_iconst h dX7_cover_25 3 rfl 26 rfl ?_
      refine v_iald h (f := v.2.2.2.2.2.2.2.1) dX7_cover_26 5 0 rfl rfl zi_3_407 27 rfl ?_
      refine v_bipush h dX7_cover_27 10 rfl 29 rfl ?_
      refine v_icmp_ne h dX7_cover_29 35 (by decide) 32 rfl (fun c5 => ?_) (fun c5 => ?_)
      · replace hf := zf c5 hf
        refine v_iconst h dX7_cover_35 1 rfl 36 rfl ?_
        refine v_istore_n h dX7_cover_36 (Nat.le_of_ble_eq_true rfl) rfl rfl [(0, .ref (ad 0)), (1, .int x1), (2, .int x2), (3, .int 1)] rfl 37 rfl ?_
        obtain ⟨u6, hu6, hf⟩ := zb hf
        refine v_sub [0, 1, 2, 3] rfl ?_
        refine tX7_cover_l37 h zF v x1 x2 1 v.2.2.2.2.2.2.2.2.1 v.2.2.2.2.2.2.2.2.2.2.2.2.1 _ hu6 (fun x7 ex => ?_) (fun x7 ex => ?_)
        · subst ex
          replace hf := hf
          refine v_bipush h dX7_cover_74 (-4) rfl 76 rfl ?_
          cases (Option.some.inj hf)
          exact hE 76 _ rfl dX7_cover_76
        · subst ex
          cases (Option.some.inj hf)
          exact hE
      · replace hf := zt c5 hf
        refine v_bipush h dX7_cover_32 (-3) rfl 34 rfl ?_
        cases (Option.some.inj hf)
        exact hE 34 _ rfl dX7_cover_34
    · replace hf := zt c4 hf
      refine v_iconst h dX7_cover_19 (-1) rfl 20 rfl ?_
      cases (Option.some.inj hf)
      exact hE 20 _ rfl dX7_cover_20
abbrev rX7_takeOut : Room := { frames := 0, cells := 0, slots := 0, locals := 0 }
theorem nX7_takeOut : zNoMH yX7_takeOut 1 := ⟨by decide +kernel, by decide +kernel, by decide +kernel⟩
theorem iX7_takeOut_X7 : ∀ w ∈ wsX70, w ∈ wsX7_takeOut := fun _ h => (List.mem_cons_of_mem _ (List.mem_append_right _ h))
def fX7_takeOut_L4 : Nat → MV → Int32 → zAI → Option zAI
  | 0, _, _, _ => none
  | n + 1, v, x2, m8 => if (zgt m8 3) ≤ x2 then (some m8) else (zgrd (zix (4 + x2) 407) (zgrd (zix ((4 + x2) - 1) 407) (zgrd (zix (14 + x2) 407) (zgrd (zix ((14 + x2) - 1) 407) (zgrd (zix (24 + x2) 407) (zgrd (zix ((24 + x2) - 1) 407) (fX7_takeOut_L4 n v (x2 + 1) (zpt (zpt (zpt m8 ((4 + x2) - 1) (zgt m8 (4 + x2))) ((14 + x2) - 1) (zgt (zpt m8 ((4 + x2) - 1) (zgt m8 (4 + x2))) (14 + x2))) ((24 + x2) - 1) (zgt (zpt (zpt m8 ((4 + x2) - 1) (zgt m8 (4 + x2))) ((14 + x2) - 1) (zgt (zpt m8 ((4 + x2) - 1) (zgt m8 (4 + x2))) (14 + x2))) (24 + x2))))))))))
set_option maxRecDepth 100000 in
set_option maxHeartbeats 4000000 in
theorem tX7_takeOut_l4 {X : zX} {l : Launch} {G : va_G} {ca : Nat → ClassId} {ad : Nat → Nat} (h : zOk X l G ca cX7_takeOut RX7 wsX7_takeOut 3 rX7_takeOut) : ∀ (n : Nat) (v : MV) (x2 : Int32) (m8 : zAI) (out : zAI), fX7_takeOut_L4 n v x2 m8 = some out → (V X G 3 0 0 (wM ca ad (v.1, v.2.1, v.2.2.1, v.2.2.2.1, v.2.2.2.2.1, v.2.2.2.2.2.1, v.2.2.2.2.2.2.1, v.2.2.2.2.2.2.2.1, out, v.2.2.2.2.2.2.2.2.2)) 78 [(0, .ref (ad 0))] []) → V X G 3 0 0 (wM ca ad (v.1, v.2.1, v.2.2.1, v.2.2.2.1, v.2.2.2.2.1, v.2.2.2.2.2.1, v.2.2.2.2.2.2.1, v.2.2.2.2.2.2.2.1, m8, v.2.2.2.2.2.2.2.2.2)) 4 [(0, .ref (ad 0)), (2, .int x2)] [] := by
  intro n
  induction n with
  | zero => intro v x2 m8 out hf; rw [fX7_takeOut_L4] at hf; cases hf
  | succ n ih =>
    intro v x2 m8 out hf kx
    rw [fX7_takeOut_L4] at hf
    refine v_iload_n h dX7_takeOut_4 1 rfl 5 rfl ?_
    refine v_aload_n h dX7_takeOut_5 0 rfl 6 rfl ?_
    refine v_get h (v := .ref (ad 6)) dX7_takeOut_6 iX7_takeOut_X7 0 rfl rfl 8 (by decide) (zwi 1 rfl) rfl 9 rfl ?_
    refine v_iconst h dX7_takeOut_9 3 rfl 10 rfl ?_
    refine v_iald h (f := m8) dX7_takeOut_10 6 0 rfl rfl zi_3_407 11 rfl ?_
    refine v_icmp_ge h dX7_takeOut_11 78 (by decide) 14 rfl (fun c1 => ?_) (fun c1 => ?_)
    · replace hf := zt c1 hf
      cases (Option.some.inj hf)
      exact v_sub [0] rfl (kx)
    · replace hf := zf c1 hf
      refine v_aload_n h dX7_takeOut_14 0 rfl 15 rfl ?_
      refine v_get h (v := .ref (ad 6)) dX7_takeOut_15 iX7_takeOut_X7 0 rfl rfl 8 (by decide) (zwi 1 rfl) rfl 18 rfl ?_
      refine v_iconst h dX7_takeOut_18 4 rfl 19 rfl ?_
      refine v_iload_n h dX7_takeOut_19 1 rfl 20 rfl ?_
      refine v_iadd h dX7_takeOut_20 21 rfl ?_
      refine v_iconst h dX7_takeOut_21 1 rfl 22 rfl ?_
      refine v_isub h dX7_takeOut_22 23 rfl ?_
      refine v_aload_n h dX7_takeOut_23 0 rfl 24 rfl ?_
      refine v_get h (v := .ref (ad 6)) dX7_takeOut_24 iX7_takeOut_X7 0 rfl rfl 8 (by decide) (zwi 1 rfl) rfl 27 rfl ?_
      refine v_iconst h dX7_takeOut_27 4 rfl 28 rfl ?_
      refine v_iload_n h dX7_takeOut_28 1 rfl 29 rfl ?_
      refine v_iadd h dX7_takeOut_29 30 rfl ?_
      obtain ⟨g2, hf⟩ := zg hf
      refine v_iald h (f := m8) dX7_takeOut_30 6 0 rfl rfl (zix_in g2) 31 rfl ?_
      obtain ⟨g3, hf⟩ := zg hf
      refine v_iast h (f := m8) dX7_takeOut_31 6 0 rfl rfl (zix_in g3) (wM ca ad (v.1, v.2.1, v.2.2.1, v.2.2.2.1, v.2.2.2.2.1, v.2.2.2.2.2.1, v.2.2.2.2.2.2.1, v.2.2.2.2.2.2.2.1, (zpt m8 ((4 + x2) - 1) (zgt m8 (4 + x2))), v.2.2.2.2.2.2.2.2.2)) rfl 32 rfl ?_
      refine v_aload_n h dX7_takeOut_32 0 rfl 33 rfl ?_
      refine v_get h (v := .ref (ad 6)) dX7_takeOut_33 iX7_takeOut_X7 0 rfl rfl 8 (by decide) (zwi 1 rfl) rfl 36 rfl ?_
      refine v_bipush h dX7_takeOut_36 14 rfl 38 rfl ?_
      refine v_iload_n h dX7_takeOut_38 1 rfl 39 rfl ?_
      refine v_iadd h dX7_takeOut_39 40 rfl ?_
      refine v_iconst h dX7_takeOut_40 1 rfl 41 rfl ?_
      refine v_isub h dX7_takeOut_41 42 rfl ?_
      refine v_aload_n h dX7_takeOut_42 0 rfl 43 rfl ?_
      refine v_get h (v := .ref (ad 6)) dX7_takeOut_43 iX7_takeOut_X7 0 rfl rfl 8 (by decide) (zwi 1 rfl) rfl 46 rfl ?_
      refine v_bipush h dX7_takeOut_46 14 rfl 48 rfl ?_
      refine v_iload_n h dX7_takeOut_48 1 rfl 49 rfl ?_
      refine v_iadd h dX7_takeOut_49 50 rfl ?_
      obtain ⟨g4, hf⟩ := zg hf
      refine v_iald h (f := (zpt m8 ((4 + x2) - 1) (zgt m8 (4 + x2)))) dX7_takeOut_50 6 0 rfl rfl (zix_in g4) 51 rfl ?_
      obtain ⟨g5, hf⟩ := zg hf
      refine v_iast h (f := (zpt m8 ((4 + x2) - 1) (zgt m8 (4 + x2)))) dX7_takeOut_51 6 0 rfl rfl (zix_in g5) (wM ca ad (v.1, v.2.1, v.2.2.1, v.2.2.2.1, v.2.2.2.2.1, v.2.2.2.2.2.1, v.2.2.2.2.2.2.1, v.2.2.2.2.2.2.2.1, (zpt (zpt m8 ((4 + x2) - 1) (zgt m8 (4 + x2))) ((14 + x2) - 1) (zgt (zpt m8 ((4 + x2) - 1) (zgt m8 (4 + x2))) (14 + x2))), v.2.2.2.2.2.2.2.2.2)) rfl 52 rfl ?_
      refine v_aload_n h dX7_takeOut_52 0 rfl 53 rfl ?_
      refine v_get h (v := .ref (ad 6)) dX7_takeOut_53 iX7_takeOut_X7 0 rfl rfl 8 (by decide) (zwi 1 rfl) rfl 56 rfl ?_
      refine v_bipush h dX7_takeOut_56 24 rfl 58 rfl ?_
      refine v_iload_n h dX7_takeOut_58 1 rfl 59 rfl ?_
      refine v_iadd h dX7_takeOut_59 60 rfl ?_
      refine v_iconst h dX7_takeOut_60 1 rfl 61 rfl ?_
      refine v_isub h dX7_takeOut_61 62 rfl ?_
      refine v_aload_n h dX7_takeOut_62 0 rfl 63 rfl ?_
      refine v_get h (v := .ref (ad 6)) dX7_takeOut_63 iX7_takeOut_X7 0 rfl rfl 8 (by decide) (zwi 1 rfl) rfl 66 rfl ?_
      refine v_bipush h dX7_takeOut_66 24 rfl 68 rfl ?_
      refine v_iload_n h dX7_takeOut_68 1 rfl 69 rfl ?_
      refine v_iadd h dX7_takeOut_69 70 rfl ?_
      obtain ⟨g6, hf⟩ := zg hf
      refine v_iald h (f := (zpt (zpt m8 ((4 + x2) - 1) (zgt m8 (4 + x2))) ((14 + x2) - 1) (zgt (zpt m8 ((4 + x2) - 1) (zgt m8 (4 + x2))) (14 + x2)))) dX7_takeOut_70 6 0 rfl rfl (zix_in g6) 71 rfl ?_
      obtain ⟨g7, hf⟩ := zg hf
      refine v_iast h (f := (zpt (zpt m8 ((4 + x2) - 1) (zgt m8 (4 + x2))) ((14 + x2) - 1) (zgt (zpt m8 ((4 + x2) - 1) (zgt m8 (4 + x2))) (14 + x2)))) dX7_takeOut_71 6 0 rfl rfl (zix_in g7) (wM ca ad (v.1, v.2.1, v.2.2.1, v.2.2.2.1, v.2.2.2.2.1, v.2.2.2.2.2.1, v.2.2.2.2.2.2.1, v.2.2.2.2.2.2.2.1, (zpt (zpt (zpt m8 ((4 + x2) - 1) (zgt m8 (4 + x2))) ((14 + x2) - 1) (zgt (zpt m8 ((4 + x2) - 1) (zgt m8 (4 + x2))) (14 + x2))) ((24 + x2) - 1) (zgt (zpt (zpt m8 ((4 + x2) - 1) (zgt m8 (4 + x2))) ((14 + x2) - 1) (zgt (zpt m8 ((4 + x2) - 1) (zgt m8 (4 + x2))) (14 + x2))) (24 + x2))), v.2.2.2.2.2.2.2.2.2)) rfl 72 rfl ?_
      refine v_iinc h dX7_takeOut_72 1 rfl (x2 + 1) rfl (Nat.le_of_ble_eq_true rfl) rfl rfl [(0, .ref (ad 0)), (2, .int (x2 + 1))] rfl 75 rfl ?_
      refine v_goto h dX7_takeOut_75 4 (by decide) ?_
      exact v_sub [0, 1] rfl (ih v (x2 + 1) (zpt (zpt (zpt m8 ((4 + x2) - 1) (zgt m8 (4 + x2))) ((14 + x2) - 1) (zgt (zpt m8 ((4 + x2) - 1) (zgt m8 (4 + x2))) (14 + x2))) ((24 + x2) - 1) (zgt (zpt (zpt m8 ((4 + x2) - 1) (zgt m8 (4 + x2))) ((14 + x2) - 1) (zgt (zpt m8 ((4 + x2) - 1) (zgt m8 (4 + x2))) (14 + x2))) (24 + x2))) _ hf kx)
def fX7_takeOut (v : MV) (x1 : Int32) : Option zAI := ((fX7_takeOut_L4 zF v (x1 + 1) v.2.2.2.2.2.2.2.2.1) : Option zAI).bind (fun u1 => some (zpt u1 3 ((zgt u1 3) - 1)))
set_option maxRecDepth 100000 in
set_option maxHeartbeats 4000000 in
theorem tX7_takeOut (l : Launch) (G : va_G) (ca : Nat → ClassId) (ad : Nat → Nat) (v : MV) (x1 : Int32) {o : zAI} (hf : fX7_takeOut v x1 = some o) : zMv l yX7_takeOut wsX7_takeOut rX7_takeOut G ca [.ref (ad 0), .int x1] (wM ca ad v) (wM ca ad (v.1, v.2.1, v.2.2.1, v.2.2.2.1, v.2.2.2.2.1, v.2.2.2.2.2.1, v.2.2.2.2.2.2.1, v.2.2.2.2.2.2.2.1, o, v.2.2.2.2.2.2.2.2.2)) := by
  refine zMv.of (cc := cX7_takeOut) (nL := 3) (own := RX7) (by decide) rfl rfl (Nat.le_of_ble_eq_true rfl) (fun X h hE => ?_)
  show V X G 3 0 0 (wM ca ad v) 0 [(0, .ref (ad 0)), (1, .int x1)] []
  unfold fX7_takeOut at hf
  refine v_iload_n h dX7_takeOut_0 1 rfl 1 rfl ?_
  refine v_iconst h dX7_takeOut_1 1 rfl 2 rfl ?_
  refine v_iadd h dX7_takeOut_2 3 rfl ?_
  refine v_istore_n h dX7_takeOut_3 (Nat.le_of_ble_eq_true rfl) rfl rfl [(0, .ref (ad 0)), (1, .int x1), (2, .int (x1 + 1))] rfl 4 rfl ?_
  obtain ⟨u1, hu1, hf⟩ := zb hf
  refine v_sub [0, 2] rfl ?_
  refine tX7_takeOut_l4 h zF v (x1 + 1) v.2.2.2.2.2.2.2.2.1 _ hu1 ?_
  refine v_aload_n h dX7_takeOut_78 0 rfl 79 rfl ?_
  refine v_get h (v := .ref (ad 6)) dX7_takeOut_79 iX7_takeOut_X7 0 rfl rfl 8 (by decide) (zwi 1 rfl) rfl 82 rfl ?_
  refine v_iconst h dX7_takeOut_82 3 rfl 83 rfl ?_
  refine v_dup2 h dX7_takeOut_83 rfl rfl 84 rfl ?_
  refine v_iald h (f := u1) dX7_takeOut_84 6 0 rfl rfl zi_3_407 85 rfl ?_
  refine v_iconst h dX7_takeOut_85 1 rfl 86 rfl ?_
  refine v_isub h dX7_takeOut_86 87 rfl ?_
  refine v_iast h (f := u1) dX7_takeOut_87 6 0 rfl rfl zi_3_407 (wM ca ad (v.1, v.2.1, v.2.2.1, v.2.2.2.1, v.2.2.2.2.1, v.2.2.2.2.2.1, v.2.2.2.2.2.2.1, v.2.2.2.2.2.2.2.1, (zpt u1 3 ((zgt u1 3) - 1)), v.2.2.2.2.2.2.2.2.2)) rfl 88 rfl ?_
  cases (Option.some.inj hf)
  exact hE 88 _ dX7_takeOut_88
abbrev rX7_relief : Room := { frames := 5, cells := 0, slots := 0, locals := 117 }
theorem nX7_relief : zNoMH yX7_relief 2 := ⟨by decide +kernel, by decide +kernel, by decide +kernel⟩
theorem iX7_relief_X7 : ∀ w ∈ wsX70, w ∈ wsX7_relief := fun _ h => (List.mem_cons_of_mem _ (List.mem_append_right _ h))
def fX7_relief_L31 : Nat → MV → Int32 → Int32 → Int32 → Int32 → Int32 → zAI → zAI → Option (Int32 × Int32 × zAI × zAI)
  | 0, _, _, _, _, _, _, _, _ => none
  | n + 1, v, x1, x2, x3, x4, x5, m8, m12 => if (zgt v.2.2.2.2.2.2.2.1 3) ≤ x5 then (some (x3, x4, m8, m12)) else (((fX7_begin (v.1, v.2.1, v.2.2.1, v.2.2.2.1, v.2.2.2.2.1, v.2.2.2.2.2.1, v.2.2.2.2.2.2.1, v.2.2.2.2.2.2.2.1, m8, v.2.2.2.2.2.2.2.2.2.1, v.2.2.2.2.2.2.2.2.2.2.1, v.2.2.2.2.2.2.2.2.2.2.2.1, m12, v.2.2.2.2.2.2.2.2.2.2.2.2.2)) : Option zAI).bind (fun u2 => ((fX7_takeOut (v.1, v.2.1, v.2.2.1, v.2.2.2.1, v.2.2.2.2.1, v.2.2.2.2.2.1, v.2.2.2.2.2.2.1, v.2.2.2.2.2.2.2.1, u2, v.2.2.2.2.2.2.2.2.2.1, v.2.2.2.2.2.2.2.2.2.2.1, v.2.2.2.2.2.2.2.2.2.2.2.1, m12, v.2.2.2.2.2.2.2.2.2.2.2.2.2) x5) : Option zAI).bind (fun u3 => ((fX7_heavy u3) : Option Int32).bind (fun u4 => if (zgt u3 44) < u4 then (fX7_relief_L31 n v x1 x2 x3 x4 (x5 + 1) u3 m12) else (((fX7_goOn (v.1, v.2.1, v.2.2.1, v.2.2.2.1, v.2.2.2.2.1, v.2.2.2.2.2.1, v.2.2.2.2.2.2.1, v.2.2.2.2.2.2.2.1, u3, v.2.2.2.2.2.2.2.2.2.1, v.2.2.2.2.2.2.2.2.2.2.1, v.2.2.2.2.2.2.2.2.2.2.2.1, m12, v.2.2.2.2.2.2.2.2.2.2.2.2.2) x1) : Option (Int32 × zAI × zAI)).bind (fun u6 => if x3 = (-4) then (fX7_relief_L31 n v x1 x2 x5 u6.1 (x5 + 1) u6.2.1 u6.2.2) else (if x4 ≤ u6.1 then (fX7_relief_L31 n v x1 x2 x3 x4 (x5 + 1) u6.2.1 u6.2.2) else (fX7_relief_L31 n v x1 x2 x5 u6.1 (x5 + 1) u6.2.1 u6.2.2))))))))
set_option maxRecDepth 100000 in
set_option maxHeartbeats 4000000 in
theorem tX7_relief_l31 {X : zX} {l : Launch} {G : va_G} {ca : Nat → ClassId} {ad : Nat → Nat} (h : zOk X l G ca cX7_relief RX7 wsX7_relief 7 rX7_relief) : ∀ (n : Nat) (v : MV) (x1 : Int32) (x2 : Int32) (x3 : Int32) (x4 : Int32) (x5 : Int32) (m8 : zAI) (m12 : zAI) (out : (Int32 × Int32 × zAI × zAI)), fX7_relief_L31 n v x1 x2 x3 x4 x5 m8 m12 = some out → (V X G 7 0 0 (wM ca ad (v.1, v.2.1, v.2.2.1, v.2.2.2.1, v.2.2.2.2.1, v.2.2.2.2.2.1, v.2.2.2.2.2.2.1, v.2.2.2.2.2.2.2.1, out.2.2.1, v.2.2.2.2.2.2.2.2.2.1, v.2.2.2.2.2.2.2.2.2.2.1, v.2.2.2.2.2.2.2.2.2.2.2.1, out.2.2.2, v.2.2.2.2.2.2.2.2.2.2.2.2.2)) 102 [(2, .int x2), (3, .int out.1), (4, .int out.2.1)] []) → V X G 7 0 0 (wM ca ad (v.1, v.2.1, v.2.2.1, v.2.2.2.1, v.2.2.2.2.1, v.2.2.2.2.2.1, v.2.2.2.2.2.2.1, v.2.2.2.2.2.2.2.1, m8, v.2.2.2.2.2.2.2.2.2.1, v.2.2.2.2.2.2.2.2.2.2.1, v.2.2.2.2.2.2.2.2.2.2.2.1, m12, v.2.2.2.2.2.2.2.2.2.2.2.2.2)) 31 [(0, .ref (ad 0)), (1, .int x1), (2, .int x2), (3, .int x3), (4, .int x4), (5, .int x5)] [] := by
  intro n
  induction n with
  | zero => intro v x1 x2 x3 x4 x5 m8 m12 out hf; rw [fX7_relief_L31] at hf; cases hf
  | succ n ih =>
    intro v x1 x2 x3 x4 x5 m8 m12 out hf kx
    rw [fX7_relief_L31] at hf
    refine v_iload h dX7_relief_31 5 rfl 33 rfl ?_
    refine v_aload_n h dX7_relief_33 0 rfl 34 rfl ?_
    refine v_get h (v := .ref (ad 5)) dX7_relief_34 iX7_relief_X7 0 rfl rfl 7 (by decide) (zwi 1 rfl) rfl 37 rfl ?_
    refine v_iconst h dX7_relief_37 3 rfl 38 rfl ?_
    refine v_iald h (f := v.2.2.2.2.2.2.2.1) dX7_relief_38 5 0 rfl rfl zi_3_407 39 rfl ?_
    refine v_icmp_ge h dX7_relief_39 102 (by decide) 42 rfl (fun c1 => ?_) (fun c1 => ?_)
    · replace hf := zt c1 hf
      cases (Option.some.inj hf)
      exact v_sub [2, 3, 4] rfl (kx)
    · replace hf := zf c1 hf
      refine v_aload_n h dX7_relief_42 0 rfl 43 rfl ?_
      obtain ⟨u2, hu2, hf⟩ := zb hf
      refine v_wcallVv h (rest := []) dX7_relief_43 (tX7_begin l G ca ad (v.1, v.2.1, v.2.2.1, v.2.2.2.1, v.2.2.2.2.1, v.2.2.2.2.2.1, v.2.2.2.2.2.2.1, v.2.2.2.2.2.2.2.1, m8, v.2.2.2.2.2.2.2.2.2.1, v.2.2.2.2.2.2.2.2.2.2.1, v.2.2.2.2.2.2.2.2.2.2.2.1, m12, v.2.2.2.2.2.2.2.2.2.2.2.2.2)  hu2) gX7_relief_X7_begin rfl rfl ⟨rfl, rfl⟩ nX7_begin ⟨Nat.le_of_ble_eq_true rfl, Nat.le_of_ble_eq_true rfl⟩ 0 rfl rfl rfl rfl (Nat.le_of_ble_eq_true rfl) ⟨Nat.zero_le _, Nat.zero_le _⟩ (wM_adr _ _ _ _) 46 rfl ?_
      refine v_aload_n h dX7_relief_46 0 rfl 47 rfl ?_
      refine v_iload h dX7_relief_47 5 rfl 49 rfl ?_
      obtain ⟨u3, hu3, hf⟩ := zb hf
      refine v_wcallVv h (rest := []) dX7_relief_49 (tX7_takeOut l G ca ad (v.1, v.2.1, v.2.2.1, v.2.2.2.1, v.2.2.2.2.1, v.2.2.2.2.2.1, v.2.2.2.2.2.2.1, v.2.2.2.2.2.2.2.1, u2, v.2.2.2.2.2.2.2.2.2.1, v.2.2.2.2.2.2.2.2.2.2.1, v.2.2.2.2.2.2.2.2.2.2.2.1, m12, v.2.2.2.2.2.2.2.2.2.2.2.2.2) x5 hu3) gX7_relief_X7_takeOut rfl rfl ⟨rfl, rfl⟩ nX7_takeOut ⟨Nat.le_of_ble_eq_true rfl, Nat.le_of_ble_eq_true rfl⟩ 0 rfl rfl rfl rfl (Nat.le_of_ble_eq_true rfl) ⟨Nat.zero_le _, Nat.zero_le _⟩ (wM_adr _ _ _ _) 52 rfl ?_
      refine v_aload_n h dX7_relief_52 0 rfl 53 rfl ?_
      refine v_get h (v := .ref (ad 6)) dX7_relief_53 iX7_relief_X7 0 rfl rfl 8 (by decide) (zwi 2 rfl) rfl 56 rfl ?_
      obtain ⟨u4, hu4, hf⟩ := zb hf
      refine v_callSi h (rest := []) dX7_relief_56 (tX7_heavy l G ca (ad 6) u3  hu4) gX7_relief_X7_heavy rfl ⟨rfl, rfl⟩ nX7_heavy ⟨Nat.le_of_ble_eq_true rfl, Nat.le_of_ble_eq_true rfl⟩ [6] rfl rfl rfl rfl (Nat.le_of_ble_eq_true rfl) ⟨Nat.zero_le _, Nat.zero_le _⟩ rfl (wM ca ad (v.1, v.2.1, v.2.2.1, v.2.2.2.1, v.2.2.2.2.1, v.2.2.2.2.2.1, v.2.2.2.2.2.2.1, v.2.2.2.2.2.2.2.1, u3, v.2.2.2.2.2.2.2.2.2.1, v.2.2.2.2.2.2.2.2.2.2.1, v.2.2.2.2.2.2.2.2.2.2.2.1, m12, v.2.2.2.2.2.2.2.2.2.2.2.2.2)) rfl (wM_adr _ _ _ _) 59 rfl ?_
      refine v_aload_n h dX7_relief_59 0 rfl 60 rfl ?_
      refine v_get h (v := .ref (ad 6)) dX7_relief_60 iX7_relief_X7 0 rfl rfl 8 (by decide) (zwi 2 rfl) rfl 63 rfl ?_
      refine v_bipush h dX7_relief_63 44 rfl 65 rfl ?_
      refine v_iald h (f := u3) dX7_relief_65 6 0 rfl rfl zi_44_407 66 rfl ?_
      refine v_icmp_gt h dX7_relief_66 96 (by decide) 69 rfl (fun c5 => ?_) (fun c5 => ?_)
      · replace hf := zt c5 hf
        refine v_iinc h dX7_relief_96 5 rfl (x5 + 1) rfl (Nat.le_of_ble_eq_true rfl) rfl rfl [(0, .ref (ad 0)), (1, .int x1), (2, .int x2), (3, .int x3), (4, .int x4), (5, .int (x5 + 1))] rfl 99 rfl ?_
        refine v_goto h dX7_relief_99 31 (by decide) ?_
        exact v_sub [0, 1, 2, 3, 4, 5] rfl (ih v x1 x2 x3 x4 (x5 + 1) u3 m12 _ hf kx)
      · replace hf := zf c5 hf
        refine v_aload_n h dX7_relief_69 0 rfl 70 rfl ?_
        refine v_iload_n h dX7_relief_70 1 rfl 71 rfl ?_
        obtain ⟨u6, hu6, hf⟩ := zb hf
        refine v_wcallVi h (rest := []) dX7_relief_71 (tX7_goOn l G ca ad (v.1, v.2.1, v.2.2.1, v.2.2.2.1, v.2.2.2.2.1, v.2.2.2.2.2.1, v.2.2.2.2.2.2.1, v.2.2.2.2.2.2.2.1, u3, v.2.2.2.2.2.2.2.2.2.1, v.2.2.2.2.2.2.2.2.2.2.1, v.2.2.2.2.2.2.2.2.2.2.2.1, m12, v.2.2.2.2.2.2.2.2.2.2.2.2.2) x1 hu6) gX7_relief_X7_goOn rfl rfl ⟨rfl, rfl⟩ nX7_goOn ⟨Nat.le_of_ble_eq_true rfl, Nat.le_of_ble_eq_true rfl⟩ 0 rfl rfl rfl rfl (Nat.le_of_ble_eq_true rfl) ⟨Nat.zero_le _, Nat.zero_le _⟩ (wM_adr _ _ _ _) 74 rfl ?_
        refine v_istore h dX7_relief_74 (Nat.le_of_ble_eq_true rfl) rfl rfl [(0, .ref (ad 0)), (1, .int x1), (2, .int x2), (3, .int x3), (4, .int x4), (5, .int x5), (6, .int u6.1)] rfl 76 rfl ?_
        refine v_iload_n h dX7_relief_76 3 rfl 77 rfl ?_
        refine v_bipush h dX7_relief_77 (-4) rfl 79 rfl ?_
        refine v_icmp_eq h dX7_relief_79 89 (by decide) 82 rfl (fun c7 => ?_) (fun c7 => ?_)
        · replace hf := zt c7 hf
          refine v_iload h dX7_relief_89 5 rfl 91 rfl ?_
          refine v_istore_n h dX7_relief_91 (Nat.le_of_ble_eq_true rfl) rfl rfl [(0, .ref (ad 0)), (1, .int x1), (2, .int x2), (3, .int x5), (4, .int x4), (5, .int x5), (6, .int u6.1)] rfl 92 rfl ?_
          refine v_iload h dX7_relief_92 6 rfl 94 rfl ?_
          refine v_istore h dX7_relief_94 (Nat.le_of_ble_eq_true rfl) rfl rfl [(0, .ref (ad 0)), (1, .int x1), (2, .int x2), (3, .int x5), (4, .int u6.1), (5, .int x5), (6, .int u6.1)] rfl 96 rfl ?_
          refine v_iinc h dX7_relief_96 5 rfl (x5 + 1) rfl (Nat.le_of_ble_eq_true rfl) rfl rfl [(0, .ref (ad 0)), (1, .int x1), (2, .int x2), (3, .int x5), (4, .int u6.1), (5, .int (x5 + 1)), (6, .int u6.1)] rfl 99 rfl ?_
          refine v_goto h dX7_relief_99 31 (by decide) ?_
          exact v_sub [0, 1, 2, 3, 4, 5] rfl (ih v x1 x2 x5 u6.1 (x5 + 1) u6.2.1 u6.2.2 _ hf kx)
        · replace hf := zf c7 hf
          refine v_iload h dX7_relief_82 6 rfl 84 rfl ?_
          refine v_iload h dX7_relief_84 4 rfl 86 rfl ?_
          refine v_icmp_ge h dX7_relief_86 96 (by decide) 89 rfl (fun c8 => ?_) (fun c8 => ?_)
          · replace hf := zt c8 hf
            refine v_iinc h dX7_relief_96 5 rfl (x5 + 1) rfl (Nat.le_of_ble_eq_true rfl) rfl rfl [(0, .ref (ad 0)), (1, .int x1), (2, .int x2), (3, .int x3), (4, .int x4), (5, .int (x5 + 1)), (6, .int u6.1)] rfl 99 rfl ?_
            refine v_goto h dX7_relief_99 31 (by decide) ?_
            exact v_sub [0, 1, 2, 3, 4, 5] rfl (ih v x1 x2 x3 x4 (x5 + 1) u6.2.1 u6.2.2 _ hf kx)
          · replace hf := zf c8 hf
            refine v_iload h dX7_relief_89 5 rfl 91 rfl ?_
            refine v_istore_n h dX7_relief_91 (Nat.le_of_ble_eq_true rfl) rfl rfl [(0, .ref (ad 0)), (1, .int x1), (2, .int x2), (3, .int x5), (4, .int x4), (5, .int x5), (6, .int u6.1)] rfl 92 rfl ?_
            refine v_iload h dX7_relief_92 6 rfl 94 rfl ?_
            refine v_istore h dX7_relief_94 (Nat.le_of_ble_eq_true rfl) rfl rfl [(0, .ref (ad 0)), (1, .int x1), (2, .int x2), (3, .int x5), (4, .int u6.1), (5, .int x5), (6, .int u6.1)] rfl 96 rfl ?_
            refine v_iinc h dX7_relief_96 5 rfl (x5 + 1) rfl (Nat.le_of_ble_eq_true rfl) rfl rfl [(0, .ref (ad 0)), (1, .int x1), (2, .int x2), (3, .int x5), (4, .int u6.1), (5, .int (x5 + 1)), (6, .int u6.1)] rfl 99 rfl ?_
            refine v_goto h dX7_relief_99 31 (by decide) ?_
            exact v_sub [0, 1, 2, 3, 4, 5] rfl (ih v x1 x2 x5 u6.1 (x5 + 1) u6.2.1 u6.2.2 _ hf kx)
def fX7_relief (v : MV) (x1 : Int32) (x2 : Int32) : Option (Int32 × zAI × zAI) := ((fX7_in x1 1 20) : Option Int32).bind (fun u1 => if u1 = 0 then (some ((-1), v.2.2.2.2.2.2.2.2.1, v.2.2.2.2.2.2.2.2.2.2.2.2.1)) else (((fX7_in x2 0 1) : Option Int32).bind (fun u3 => if u3 = 0 then (some ((-1), v.2.2.2.2.2.2.2.2.1, v.2.2.2.2.2.2.2.2.2.2.2.2.1)) else (((fX7_relief_L31 zF v x1 x2 (-4) (-4) 0 v.2.2.2.2.2.2.2.2.1 v.2.2.2.2.2.2.2.2.2.2.2.2.1) : Option (Int32 × Int32 × zAI × zAI)).bind (fun u5 => if x2 = 0 then (some (u5.1, u5.2.2.1, u5.2.2.2)) else (some (u5.2.1, u5.2.2.1, u5.2.2.2)))))))
set_option maxRecDepth 100000 in
set_option maxHeartbeats 4000000 in
theorem tX7_relief (l : Launch) (G : va_G) (ca : Nat → ClassId) (ad : Nat → Nat) (v : MV) (x1 : Int32) (x2 : Int32) {o : (Int32 × zAI × zAI)} (hf : fX7_relief v x1 x2 = some o) : zMi l yX7_relief wsX7_relief rX7_relief G ca [.ref (ad 0), .int x1, .int x2] (wM ca ad v) o.1 (wM ca ad (v.1, v.2.1, v.2.2.1, v.2.2.2.1, v.2.2.2.2.1, v.2.2.2.2.2.1, v.2.2.2.2.2.2.1, v.2.2.2.2.2.2.2.1, o.2.1, v.2.2.2.2.2.2.2.2.2.1, v.2.2.2.2.2.2.2.2.2.2.1, v.2.2.2.2.2.2.2.2.2.2.2.1, o.2.2, v.2.2.2.2.2.2.2.2.2.2.2.2.2)) := by
  refine zMi.of (cc := cX7_relief) (nL := 7) (own := RX7) (ty := .int) (by decide) rfl rfl (Nat.le_of_ble_eq_true rfl) (fun X h hE => ?_)
  show V X G 7 0 0 (wM ca ad v) 0 [(0, .ref (ad 0)), (1, .int x1), (2, .int x2)] []
  unfold fX7_relief at hf
  refine v_iload_n h dX7_relief_0 1 rfl 1 rfl ?_
  refine v_iconst h dX7_relief_1 1 rfl 2 rfl ?_
  refine v_bipush h dX7_relief_2 20 rfl 4 rfl ?_
  obtain ⟨u1, hu1, hf⟩ := zb hf
  refine v_callSi h (rest := []) dX7_relief_4 (tX7_in l G ca   x1 1 20 hu1) gX7_relief_X7_in rfl ⟨rfl, rfl⟩ nX7_in ⟨Nat.le_of_ble_eq_true rfl, Nat.le_of_ble_eq_true rfl⟩ [] rfl rfl rfl rfl (Nat.le_of_ble_eq_true rfl) ⟨Nat.zero_le _, Nat.zero_le _⟩ rfl (wM ca ad v) rfl (wM_adr _ _ _ _) 7 rfl ?_
  refine v_if_eq h dX7_relief_7 19 (by decide) 10 rfl (fun c2 => ?_) (fun c2 => ?_)
  · replace hf := zt c2 hf
    refine v_iconst h dX7_relief_19 (-1) rfl 20 rfl ?_
    cases (Option.some.inj hf)
    exact hE 20 _ rfl dX7_relief_20
  · replace hf := zf c2 hf
    refine v_iload_n h dX7_relief_10 2 rfl 11 rfl ?_
    refine v_iconst h dX7_relief_11 0 rfl 12 rfl ?_
    refine v_iconst h dX7_relief_12 1 rfl 13 rfl ?_
    obtain ⟨u3, hu3, hf⟩ := zb hf
    refine v_callSi h (rest := []) dX7_relief_13 (tX7_in l G ca   x2 0 1 hu3) gX7_relief_X7_in rfl ⟨rfl, rfl⟩ nX7_in ⟨Nat.le_of_ble_eq_true rfl, Nat.le_of_ble_eq_true rfl⟩ [] rfl rfl rfl rfl (Nat.le_of_ble_eq_true rfl) ⟨Nat.zero_le _, Nat.zero_le _⟩ rfl (wM ca ad v) rfl (wM_adr _ _ _ _) 16 rfl ?_
    refine v_if_ne h dX7_relief_16 21 (by decide) 19 rfl (fun c4 => ?_) (fun c4 => ?_)
    · replace hf := zf c4 hf
      refine v_bipush h dX7_relief_21 (-4) rfl 23 rfl ?_
      refine v_istore_n h dX7_relief_23 (Nat.le_of_ble_eq_true rfl) rfl rfl [(0, .ref (ad 0)), (1, .int x1), (2, .int x2), (3, .int (-4))] rfl 24 rfl ?_
      refine v_bipush h dX7_relief_24 (-4) rfl 26 rfl ?_
      refine v_istore h dX7_relief_26 (Nat.le_of_ble_eq_true rfl) rfl rfl [(0, .ref (ad 0)), (1, .int x1), (2, .int x2), (3, .int (-4)), (4, .int (-4))] rfl 28 rfl ?_
      refine v_iconst h dX7_relief_28 0 rfl 29 rfl ?_
      refine v_istore h dX7_relief_29 (Nat.le_of_ble_eq_true rfl) rfl rfl [(0, .ref (ad 0)), (1, .int x1), (2, .int x2), (3, .int (-4)), (4, .int (-4)), (5, .int 0)] rfl 31 rfl ?_
      obtain ⟨u5, hu5, hf⟩ := zb hf
      refine v_sub [0, 1, 2, 3, 4, 5] rfl ?_
      refine tX7_relief_l31 h zF v x1 x2 (-4) (-4) 0 v.2.2.2.2.2.2.2.2.1 v.2.2.2.2.2.2.2.2.2.2.2.2.1 _ hu5 ?_
      refine v_iload_n h dX7_relief_102 0 rfl 103 rfl ?_
      refine v_if_ne h dX7_relief_103 110 (by decide) 106 rfl (fun c6 => ?_) (fun c6 => ?_)
      · replace hf := zf c6 hf
        refine v_iload h dX7_relief_110 2 rfl 112 rfl ?_
        cases (Option.some.inj hf)
        exact hE 112 _ rfl dX7_relief_112
      · replace hf := zt c6 hf
        refine v_iload_n h dX7_relief_106 1 rfl 107 rfl ?_
        refine v_goto h dX7_relief_107 112 (by decide) ?_
        cases (Option.some.inj hf)
        exact hE 112 _ rfl dX7_relief_112
    · replace hf := zt c4 hf
      refine v_iconst h dX7_relief_19 (-1) rfl 20 rfl ?_
      cases (Option.some.inj hf)
      exact hE 20 _ rfl dX7_relief_20
abbrev rX7_isNextParts : Room := { frames := 0, cells := 0, slots := 0, locals := 0 }
theorem nX7_isNextParts : zNoMH yX7_isNextParts 0 := ⟨by decide +kernel, by decide +kernel, by decide +kernel⟩
theorem iX7_isNextParts_X7 : ∀ w ∈ wsX70, w ∈ wsX7_isNextParts := fun _ h => (List.mem_cons_of_mem _ (List.mem_append_right _ h))
def fX7_isNextParts_L11 : Nat → MV → Int32 → Int32 → Option Int32
  | 0, _, _, _ => none
  | n + 1, v, x1, x2 => if x2 ≤ 0 then (some x2) else (zgrd (zix x2 10) (if (zgt v.2.2.2.2.2.2.2.2.2.2.2.2.2.1 x2) = 0 then (fX7_isNextParts_L11 n v x1 (x2 + (-1))) else (some x2)))
set_option maxRecDepth 100000 in
set_option maxHeartbeats 4000000 in
theorem tX7_isNextParts_l11 {X : zX} {l : Launch} {G : va_G} {ca : Nat → ClassId} {ad : Nat → Nat} (h : zOk X l G ca cX7_isNextParts RX7 wsX7_isNextParts 4 rX7_isNextParts) : ∀ (n : Nat) (v : MV) (x1 : Int32) (x2 : Int32) (out : Int32), fX7_isNextParts_L11 n v x1 x2 = some out → (V X G 4 0 0 (wM ca ad v) 30 [(0, .ref (ad 0)), (1, .int x1), (2, .int out)] []) → V X G 4 0 0 (wM ca ad v) 11 [(0, .ref (ad 0)), (1, .int x1), (2, .int x2)] [] := by
  intro n
  induction n with
  | zero => intro v x1 x2 out hf; rw [fX7_isNextParts_L11] at hf; cases hf
  | succ n ih =>
    intro v x1 x2 out hf kx
    rw [fX7_isNextParts_L11] at hf
    refine v_iload_n h dX7_isNextParts_11 2 rfl 12 rfl ?_
    refine v_if_le h dX7_isNextParts_12 30 (by decide) 15 rfl (fun c1 => ?_) (fun c1 => ?_)
    · replace hf := zt c1 hf
      cases (Option.some.inj hf)
      exact v_sub [0, 1, 2] rfl (kx)
    · replace hf := zf c1 hf
      refine v_aload_n h dX7_isNextParts_15 0 rfl 16 rfl ?_
      refine v_get h (v := .ref (ad 10)) dX7_isNextParts_16 iX7_isNextParts_X7 0 rfl rfl 13 (by decide) (zwi 2 rfl) rfl 19 rfl ?_
      refine v_iload_n h dX7_isNextParts_19 2 rfl 20 rfl ?_
      obtain ⟨g2, hf⟩ := zg hf
      refine v_iald h (f := v.2.2.2.2.2.2.2.2.2.2.2.2.2.1) dX7_isNextParts_20 10 0 rfl rfl (zix_in g2) 21 rfl ?_
      refine v_if_ne h dX7_isNextParts_21 30 (by decide) 24 rfl (fun c3 => ?_) (fun c3 => ?_)
      · replace hf := zf c3 hf
        cases (Option.some.inj hf)
        exact v_sub [0, 1, 2] rfl (kx)
      · replace hf := zt c3 hf
        refine v_iinc h dX7_isNextParts_24 2 rfl (x2 + (-1)) rfl (Nat.le_of_ble_eq_true rfl) rfl rfl [(0, .ref (ad 0)), (1, .int x1), (2, .int (x2 + (-1)))] rfl 27 rfl ?_
        refine v_goto h dX7_isNextParts_27 11 (by decide) ?_
        exact v_sub [0, 1, 2] rfl (ih v x1 (x2 + (-1)) _ hf kx)
def fX7_isNextParts (v : MV) : Option (Int32 × zAI) := ((fX7_isNextParts_L11 zF v ((zgt v.2.2.2.2.2.2.2.1 3) - 1) ((zgt v.2.2.2.2.2.2.2.1 3) - 1)) : Option Int32).bind (fun u1 => if 0 < u1 then (zgrd (zix u1 10) (zgrd (zix (u1 - 1) 10) (zgrd (zix ((zgt v.2.2.2.2.2.2.2.1 3) - 1) 10) (some (1, (zpt (zpt (zpt v.2.2.2.2.2.2.2.2.2.2.2.2.2.1 u1 0) (u1 - 1) ((zgt (zpt v.2.2.2.2.2.2.2.2.2.2.2.2.2.1 u1 0) (u1 - 1)) + 1)) ((zgt v.2.2.2.2.2.2.2.1 3) - 1) ((zgt v.2.2.2.2.2.2.2.2.2.2.2.2.2.1 u1) - 1))))))) else (some (0, v.2.2.2.2.2.2.2.2.2.2.2.2.2.1)))
set_option maxRecDepth 100000 in
set_option maxHeartbeats 4000000 in
theorem tX7_isNextParts (l : Launch) (G : va_G) (ca : Nat → ClassId) (ad : Nat → Nat) (v : MV)  {o : (Int32 × zAI)} (hf : fX7_isNextParts v = some o) : zMi l yX7_isNextParts wsX7_isNextParts rX7_isNextParts G ca [.ref (ad 0)] (wM ca ad v) o.1 (wM ca ad (v.1, v.2.1, v.2.2.1, v.2.2.2.1, v.2.2.2.2.1, v.2.2.2.2.2.1, v.2.2.2.2.2.2.1, v.2.2.2.2.2.2.2.1, v.2.2.2.2.2.2.2.2.1, v.2.2.2.2.2.2.2.2.2.1, v.2.2.2.2.2.2.2.2.2.2.1, v.2.2.2.2.2.2.2.2.2.2.2.1, v.2.2.2.2.2.2.2.2.2.2.2.2.1, o.2, v.2.2.2.2.2.2.2.2.2.2.2.2.2.2)) := by
  refine zMi.of (cc := cX7_isNextParts) (nL := 4) (own := RX7) (ty := .boolean) (by decide) rfl rfl (Nat.le_of_ble_eq_true rfl) (fun X h hE => ?_)
  show V X G 4 0 0 (wM ca ad v) 0 [(0, .ref (ad 0))] []
  unfold fX7_isNextParts at hf
  refine v_aload_n h dX7_isNextParts_0 0 rfl 1 rfl ?_
  refine v_get h (v := .ref (ad 5)) dX7_isNextParts_1 iX7_isNextParts_X7 0 rfl rfl 7 (by decide) (zwi 1 rfl) rfl 4 rfl ?_
  refine v_iconst h dX7_isNextParts_4 3 rfl 5 rfl ?_
  refine v_iald h (f := v.2.2.2.2.2.2.2.1) dX7_isNextParts_5 5 0 rfl rfl zi_3_407 6 rfl ?_
  refine v_iconst h dX7_isNextParts_6 1 rfl 7 rfl ?_
  refine v_isub h dX7_isNextParts_7 8 rfl ?_
  refine v_istore_n h dX7_isNextParts_8 (Nat.le_of_ble_eq_true rfl) rfl rfl [(0, .ref (ad 0)), (1, .int ((zgt v.2.2.2.2.2.2.2.1 3) - 1))] rfl 9 rfl ?_
  refine v_iload_n h dX7_isNextParts_9 1 rfl 10 rfl ?_
  refine v_istore_n h dX7_isNextParts_10 (Nat.le_of_ble_eq_true rfl) rfl rfl [(0, .ref (ad 0)), (1, .int ((zgt v.2.2.2.2.2.2.2.1 3) - 1)), (2, .int ((zgt v.2.2.2.2.2.2.2.1 3) - 1))] rfl 11 rfl ?_
  obtain ⟨u1, hu1, hf⟩ := zb hf
  refine v_sub [0, 1, 2] rfl ?_
  refine tX7_isNextParts_l11 h zF v ((zgt v.2.2.2.2.2.2.2.1 3) - 1) ((zgt v.2.2.2.2.2.2.2.1 3) - 1) _ hu1 ?_
  refine v_iload_n h dX7_isNextParts_30 2 rfl 31 rfl ?_
  refine v_if_gt h dX7_isNextParts_31 36 (by decide) 34 rfl (fun c2 => ?_) (fun c2 => ?_)
  · replace hf := zt c2 hf
    refine v_aload_n h dX7_isNextParts_36 0 rfl 37 rfl ?_
    refine v_get h (v := .ref (ad 10)) dX7_isNextParts_37 iX7_isNextParts_X7 0 rfl rfl 13 (by decide) (zwi 2 rfl) rfl 40 rfl ?_
    refine v_iload_n h dX7_isNextParts_40 2 rfl 41 rfl ?_
    obtain ⟨g3, hf⟩ := zg hf
    refine v_iald h (f := v.2.2.2.2.2.2.2.2.2.2.2.2.2.1) dX7_isNextParts_41 10 0 rfl rfl (zix_in g3) 42 rfl ?_
    refine v_istore_n h dX7_isNextParts_42 (Nat.le_of_ble_eq_true rfl) rfl rfl [(0, .ref (ad 0)), (1, .int ((zgt v.2.2.2.2.2.2.2.1 3) - 1)), (2, .int u1), (3, .int (zgt v.2.2.2.2.2.2.2.2.2.2.2.2.2.1 u1))] rfl 43 rfl ?_
    refine v_aload_n h dX7_isNextParts_43 0 rfl 44 rfl ?_
    refine v_get h (v := .ref (ad 10)) dX7_isNextParts_44 iX7_isNextParts_X7 0 rfl rfl 13 (by decide) (zwi 2 rfl) rfl 47 rfl ?_
    refine v_iload_n h dX7_isNextParts_47 2 rfl 48 rfl ?_
    refine v_iconst h dX7_isNextParts_48 0 rfl 49 rfl ?_
    refine v_iast h (f := v.2.2.2.2.2.2.2.2.2.2.2.2.2.1) dX7_isNextParts_49 10 0 rfl rfl (zix_in g3) (wM ca ad (v.1, v.2.1, v.2.2.1, v.2.2.2.1, v.2.2.2.2.1, v.2.2.2.2.2.1, v.2.2.2.2.2.2.1, v.2.2.2.2.2.2.2.1, v.2.2.2.2.2.2.2.2.1, v.2.2.2.2.2.2.2.2.2.1, v.2.2.2.2.2.2.2.2.2.2.1, v.2.2.2.2.2.2.2.2.2.2.2.1, v.2.2.2.2.2.2.2.2.2.2.2.2.1, (zpt v.2.2.2.2.2.2.2.2.2.2.2.2.2.1 u1 0), v.2.2.2.2.2.2.2.2.2.2.2.2.2.2)) rfl 50 rfl ?_
    refine v_aload_n h dX7_isNextParts_50 0 rfl 51 rfl ?_
    refine v_get h (v := .ref (ad 10)) dX7_isNextParts_51 iX7_isNextParts_X7 0 rfl rfl 13 (by decide) (zwi 2 rfl) rfl 54 rfl ?_
    refine v_iload_n h dX7_isNextParts_54 2 rfl 55 rfl ?_
    refine v_iconst h dX7_isNextParts_55 1 rfl 56 rfl ?_
    refine v_isub h dX7_isNextParts_56 57 rfl ?_
    refine v_dup2 h dX7_isNextParts_57 rfl rfl 58 rfl ?_
    obtain ⟨g4, hf⟩ := zg hf
    refine v_iald h (f := (zpt v.2.2.2.2.2.2.2.2.2.2.2.2.2.1 u1 0)) dX7_isNextParts_58 10 0 rfl rfl (zix_in g4) 59 rfl ?_
    refine v_iconst h dX7_isNextParts_59 1 rfl 60 rfl ?_
    refine v_iadd h dX7_isNextParts_60 61 rfl ?_
    refine v_iast h (f := (zpt v.2.2.2.2.2.2.2.2.2.2.2.2.2.1 u1 0)) dX7_isNextParts_61 10 0 rfl rfl (zix_in g4) (wM ca ad (v.1, v.2.1, v.2.2.1, v.2.2.2.1, v.2.2.2.2.1, v.2.2.2.2.2.1, v.2.2.2.2.2.2.1, v.2.2.2.2.2.2.2.1, v.2.2.2.2.2.2.2.2.1, v.2.2.2.2.2.2.2.2.2.1, v.2.2.2.2.2.2.2.2.2.2.1, v.2.2.2.2.2.2.2.2.2.2.2.1, v.2.2.2.2.2.2.2.2.2.2.2.2.1, (zpt (zpt v.2.2.2.2.2.2.2.2.2.2.2.2.2.1 u1 0) (u1 - 1) ((zgt (zpt v.2.2.2.2.2.2.2.2.2.2.2.2.2.1 u1 0) (u1 - 1)) + 1)), v.2.2.2.2.2.2.2.2.2.2.2.2.2.2)) rfl 62 rfl ?_
    refine v_aload_n h dX7_isNextParts_62 0 rfl 63 rfl ?_
    refine v_get h (v := .ref (ad 10)) dX7_isNextParts_63 iX7_isNextParts_X7 0 rfl rfl 13 (by decide) (zwi 2 rfl) rfl 66 rfl ?_
    refine v_iload_n h dX7_isNextParts_66 1 rfl 67 rfl ?_
    refine v_iload_n h dX7_isNextParts_67 3 rfl 68 rfl ?_
    refine v_iconst h dX7_isNextParts_68 1 rfl 69 rfl ?_
    refine v_isub h dX7_isNextParts_69 70 rfl ?_
    obtain ⟨g5, hf⟩ := zg hf
    refine v_iast h (f := (zpt (zpt v.2.2.2.2.2.2.2.2.2.2.2.2.2.1 u1 0) (u1 - 1) ((zgt (zpt v.2.2.2.2.2.2.2.2.2.2.2.2.2.1 u1 0) (u1 - 1)) + 1))) dX7_isNextParts_70 10 0 rfl rfl (zix_in g5) (wM ca ad (v.1, v.2.1, v.2.2.1, v.2.2.2.1, v.2.2.2.2.1, v.2.2.2.2.2.1, v.2.2.2.2.2.2.1, v.2.2.2.2.2.2.2.1, v.2.2.2.2.2.2.2.2.1, v.2.2.2.2.2.2.2.2.2.1, v.2.2.2.2.2.2.2.2.2.2.1, v.2.2.2.2.2.2.2.2.2.2.2.1, v.2.2.2.2.2.2.2.2.2.2.2.2.1, (zpt (zpt (zpt v.2.2.2.2.2.2.2.2.2.2.2.2.2.1 u1 0) (u1 - 1) ((zgt (zpt v.2.2.2.2.2.2.2.2.2.2.2.2.2.1 u1 0) (u1 - 1)) + 1)) ((zgt v.2.2.2.2.2.2.2.1 3) - 1) ((zgt v.2.2.2.2.2.2.2.2.2.2.2.2.2.1 u1) - 1)), v.2.2.2.2.2.2.2.2.2.2.2.2.2.2)) rfl 71 rfl ?_
    refine v_iconst h dX7_isNextParts_71 1 rfl 72 rfl ?_
    cases (Option.some.inj hf)
    exact hE 72 _ znar1 dX7_isNextParts_72
  · replace hf := zf c2 hf
    refine v_iconst h dX7_isNextParts_34 0 rfl 35 rfl ?_
    cases (Option.some.inj hf)
    exact hE 35 _ znar0 dX7_isNextParts_35
abbrev rX7_share : Room := { frames := 5, cells := 0, slots := 0, locals := 117 }
theorem nX7_share : zNoMH yX7_share 3 := ⟨by decide +kernel, by decide +kernel, by decide +kernel⟩
theorem iX7_share_X7 : ∀ w ∈ wsX70, w ∈ wsX7_share := fun _ h => (List.mem_cons_of_mem _ (List.mem_append_right _ h))
def fX7_share_L43 : Nat → MV → Int32 → Int32 → Int32 → Int32 → zAI → Option zAI
  | 0, _, _, _, _, _, _ => none
  | n + 1, v, x1, x2, x3, x4, m13 => if 10 ≤ x4 then (some m13) else (zgrd (zix x4 10) (fX7_share_L43 n v x1 x2 x3 (x4 + 1) (zpt m13 x4 0)))
set_option maxRecDepth 100000 in
set_option maxHeartbeats 4000000 in
theorem tX7_share_l43 {X : zX} {l : Launch} {G : va_G} {ca : Nat → ClassId} {ad : Nat → Nat} (h : zOk X l G ca cX7_share RX7 wsX7_share 9 rX7_share) : ∀ (n : Nat) (v : MV) (x1 : Int32) (x2 : Int32) (x3 : Int32) (x4 : Int32) (m13 : zAI) (out : zAI), fX7_share_L43 n v x1 x2 x3 x4 m13 = some out → (V X G 9 0 0 (wM ca ad (v.1, v.2.1, v.2.2.1, v.2.2.2.1, v.2.2.2.2.1, v.2.2.2.2.2.1, v.2.2.2.2.2.2.1, v.2.2.2.2.2.2.2.1, v.2.2.2.2.2.2.2.2.1, v.2.2.2.2.2.2.2.2.2.1, v.2.2.2.2.2.2.2.2.2.2.1, v.2.2.2.2.2.2.2.2.2.2.2.1, v.2.2.2.2.2.2.2.2.2.2.2.2.1, out, v.2.2.2.2.2.2.2.2.2.2.2.2.2.2)) 64 [(0, .ref (ad 0)), (1, .int x1), (2, .int x2), (3, .int x3)] []) → V X G 9 0 0 (wM ca ad (v.1, v.2.1, v.2.2.1, v.2.2.2.1, v.2.2.2.2.1, v.2.2.2.2.2.1, v.2.2.2.2.2.2.1, v.2.2.2.2.2.2.2.1, v.2.2.2.2.2.2.2.2.1, v.2.2.2.2.2.2.2.2.2.1, v.2.2.2.2.2.2.2.2.2.2.1, v.2.2.2.2.2.2.2.2.2.2.2.1, v.2.2.2.2.2.2.2.2.2.2.2.2.1, m13, v.2.2.2.2.2.2.2.2.2.2.2.2.2.2)) 43 [(0, .ref (ad 0)), (1, .int x1), (2, .int x2), (3, .int x3), (4, .int x4)] [] := by
  intro n
  induction n with
  | zero => intro v x1 x2 x3 x4 m13 out hf; rw [fX7_share_L43] at hf; cases hf
  | succ n ih =>
    intro v x1 x2 x3 x4 m13 out hf kx
    rw [fX7_share_L43] at hf
    refine v_iload h dX7_share_43 4 rfl 45 rfl ?_
    refine v_bipush h dX7_share_45 10 rfl 47 rfl ?_
    refine v_icmp_ge h dX7_share_47 64 (by decide) 50 rfl (fun c1 => ?_) (fun c1 => ?_)
    · replace hf := zt c1 hf
      cases (Option.some.inj hf)
      exact v_sub [0, 1, 2, 3] rfl (kx)
    · replace hf := zf c1 hf
      refine v_aload_n h dX7_share_50 0 rfl 51 rfl ?_
      refine v_get h (v := .ref (ad 10)) dX7_share_51 iX7_share_X7 0 rfl rfl 13 (by decide) (zwi 2 rfl) rfl 54 rfl ?_
      refine v_iload h dX7_share_54 4 rfl 56 rfl ?_
      refine v_iconst h dX7_share_56 0 rfl 57 rfl ?_
      obtain ⟨g2, hf⟩ := zg hf
      refine v_iast h (f := m13) dX7_share_57 10 0 rfl rfl (zix_in g2) (wM ca ad (v.1, v.2.1, v.2.2.1, v.2.2.2.1, v.2.2.2.2.1, v.2.2.2.2.2.1, v.2.2.2.2.2.2.1, v.2.2.2.2.2.2.2.1, v.2.2.2.2.2.2.2.2.1, v.2.2.2.2.2.2.2.2.2.1, v.2.2.2.2.2.2.2.2.2.2.1, v.2.2.2.2.2.2.2.2.2.2.2.1, v.2.2.2.2.2.2.2.2.2.2.2.2.1, (zpt m13 x4 0), v.2.2.2.2.2.2.2.2.2.2.2.2.2.2)) rfl 58 rfl ?_
      refine v_iinc h dX7_share_58 4 rfl (x4 + 1) rfl (Nat.le_of_ble_eq_true rfl) rfl rfl [(0, .ref (ad 0)), (1, .int x1), (2, .int x2), (3, .int x3), (4, .int (x4 + 1))] rfl 61 rfl ?_
      refine v_goto h dX7_share_61 43 (by decide) ?_
      exact v_sub [0, 1, 2, 3, 4] rfl (ih v x1 x2 x3 (x4 + 1) (zpt m13 x4 0) _ hf kx)
def fX7_share_L101 : Nat → MV → Int32 → Int32 → Int32 → Int32 → Int32 → zAI → Option zAI
  | 0, _, _, _, _, _, _, _ => none
  | n + 1, v, x2, x3, x4, x5, x7, m8 => if (zgt v.2.2.2.2.2.2.2.1 3) ≤ x7 then (some m8) else (zgrd (zix (14 + x7) 407) (zgrd (zix x7 10) (if ((zgt m8 (14 + x7)) + (zgt v.2.2.2.2.2.2.2.2.2.2.2.2.2.1 x7)) ≤ 20 then (fX7_share_L101 n v x2 x3 x4 x5 (x7 + 1) (zpt m8 (14 + x7) ((zgt m8 (14 + x7)) + (zgt v.2.2.2.2.2.2.2.2.2.2.2.2.2.1 x7)))) else (fX7_share_L101 n v x2 x3 x4 x5 (x7 + 1) (zpt m8 (14 + x7) 20)))))
set_option maxRecDepth 100000 in
set_option maxHeartbeats 4000000 in
theorem tX7_share_l101 {X : zX} {l : Launch} {G : va_G} {ca : Nat → ClassId} {ad : Nat → Nat} (h : zOk X l G ca cX7_share RX7 wsX7_share 9 rX7_share) : ∀ (n : Nat) (v : MV) (x2 : Int32) (x3 : Int32) (x4 : Int32) (x5 : Int32) (x7 : Int32) (m8 : zAI) (out : zAI), fX7_share_L101 n v x2 x3 x4 x5 x7 m8 = some out → (V X G 9 0 0 (wM ca ad (v.1, v.2.1, v.2.2.1, v.2.2.2.1, v.2.2.2.2.1, v.2.2.2.2.2.1, v.2.2.2.2.2.2.1, v.2.2.2.2.2.2.2.1, out, v.2.2.2.2.2.2.2.2.2)) 162 [(0, .ref (ad 0)), (2, .int x2), (3, .int x3), (4, .int x4), (5, .int x5)] []) → V X G 9 0 0 (wM ca ad (v.1, v.2.1, v.2.2.1, v.2.2.2.1, v.2.2.2.2.1, v.2.2.2.2.2.1, v.2.2.2.2.2.2.1, v.2.2.2.2.2.2.2.1, m8, v.2.2.2.2.2.2.2.2.2)) 101 [(0, .ref (ad 0)), (2, .int x2), (3, .int x3), (4, .int x4), (5, .int x5), (7, .int x7)] [] := by
  intro n
  induction n with
  | zero => intro v x2 x3 x4 x5 x7 m8 out hf; rw [fX7_share_L101] at hf; cases hf
  | succ n ih =>
    intro v x2 x3 x4 x5 x7 m8 out hf kx
    rw [fX7_share_L101] at hf
    refine v_iload h dX7_share_101 5 rfl 103 rfl ?_
    refine v_aload_n h dX7_share_103 0 rfl 104 rfl ?_
    refine v_get h (v := .ref (ad 5)) dX7_share_104 iX7_share_X7 0 rfl rfl 7 (by decide) (zwi 1 rfl) rfl 107 rfl ?_
    refine v_iconst h dX7_share_107 3 rfl 108 rfl ?_
    refine v_iald h (f := v.2.2.2.2.2.2.2.1) dX7_share_108 5 0 rfl rfl zi_3_407 109 rfl ?_
    refine v_icmp_ge h dX7_share_109 162 (by decide) 112 rfl (fun c1 => ?_) (fun c1 => ?_)
    · replace hf := zt c1 hf
      cases (Option.some.inj hf)
      exact v_sub [0, 1, 2, 3, 4] rfl (kx)
    · replace hf := zf c1 hf
      refine v_aload_n h dX7_share_112 0 rfl 113 rfl ?_
      refine v_get h (v := .ref (ad 6)) dX7_share_113 iX7_share_X7 0 rfl rfl 8 (by decide) (zwi 3 rfl) rfl 116 rfl ?_
      refine v_bipush h dX7_share_116 14 rfl 118 rfl ?_
      refine v_iload h dX7_share_118 5 rfl 120 rfl ?_
      refine v_iadd h dX7_share_120 121 rfl ?_
      obtain ⟨g2, hf⟩ := zg hf
      refine v_iald h (f := m8) dX7_share_121 6 0 rfl rfl (zix_in g2) 122 rfl ?_
      refine v_aload_n h dX7_share_122 0 rfl 123 rfl ?_
      refine v_get h (v := .ref (ad 10)) dX7_share_123 iX7_share_X7 0 rfl rfl 13 (by decide) (zwi 2 rfl) rfl 126 rfl ?_
      refine v_iload h dX7_share_126 5 rfl 128 rfl ?_
      obtain ⟨g3, hf⟩ := zg hf
      refine v_iald h (f := v.2.2.2.2.2.2.2.2.2.2.2.2.2.1) dX7_share_128 10 0 rfl rfl (zix_in g3) 129 rfl ?_
      refine v_iadd h dX7_share_129 130 rfl ?_
      refine v_istore h dX7_share_130 (Nat.le_of_ble_eq_true rfl) rfl rfl [(0, .ref (ad 0)), (2, .int x2), (3, .int x3), (4, .int x4), (5, .int x5), (7, .int x7), (8, .int ((zgt m8 (14 + x7)) + (zgt v.2.2.2.2.2.2.2.2.2.2.2.2.2.1 x7)))] rfl 132 rfl ?_
      refine v_aload_n h dX7_share_132 0 rfl 133 rfl ?_
      refine v_get h (v := .ref (ad 6)) dX7_share_133 iX7_share_X7 0 rfl rfl 8 (by decide) (zwi 3 rfl) rfl 136 rfl ?_
      refine v_bipush h dX7_share_136 14 rfl 138 rfl ?_
      refine v_iload h dX7_share_138 5 rfl 140 rfl ?_
      refine v_iadd h dX7_share_140 141 rfl ?_
      refine v_iload h dX7_share_141 6 rfl 143 rfl ?_
      refine v_bipush h dX7_share_143 20 rfl 145 rfl ?_
      refine v_icmp_le h dX7_share_145 153 (by decide) 148 rfl (fun c4 => ?_) (fun c4 => ?_)
      · replace hf := zt c4 hf
        refine v_iload h dX7_share_153 6 rfl 155 rfl ?_
        refine v_iast h (f := m8) dX7_share_155 6 0 rfl rfl (zix_in g2) (wM ca ad (v.1, v.2.1, v.2.2.1, v.2.2.2.1, v.2.2.2.2.1, v.2.2.2.2.2.1, v.2.2.2.2.2.2.1, v.2.2.2.2.2.2.2.1, (zpt m8 (14 + x7) ((zgt m8 (14 + x7)) + (zgt v.2.2.2.2.2.2.2.2.2.2.2.2.2.1 x7))), v.2.2.2.2.2.2.2.2.2)) rfl 156 rfl ?_
        refine v_iinc h dX7_share_156 5 rfl (x7 + 1) rfl (Nat.le_of_ble_eq_true rfl) rfl rfl [(0, .ref (ad 0)), (2, .int x2), (3, .int x3), (4, .int x4), (5, .int x5), (7, .int (x7 + 1)), (8, .int ((zgt m8 (14 + x7)) + (zgt v.2.2.2.2.2.2.2.2.2.2.2.2.2.1 x7)))] rfl 159 rfl ?_
        refine v_goto h dX7_share_159 101 (by decide) ?_
        exact v_sub [0, 1, 2, 3, 4, 5] rfl (ih v x2 x3 x4 x5 (x7 + 1) (zpt m8 (14 + x7) ((zgt m8 (14 + x7)) + (zgt v.2.2.2.2.2.2.2.2.2.2.2.2.2.1 x7))) _ hf kx)
      · replace hf := zf c4 hf
        refine v_bipush h dX7_share_148 20 rfl 150 rfl ?_
        refine v_goto h dX7_share_150 155 (by decide) ?_
        refine v_iast h (f := m8) dX7_share_155 6 0 rfl rfl (zix_in g2) (wM ca ad (v.1, v.2.1, v.2.2.1, v.2.2.2.1, v.2.2.2.2.1, v.2.2.2.2.2.1, v.2.2.2.2.2.2.1, v.2.2.2.2.2.2.2.1, (zpt m8 (14 + x7) 20), v.2.2.2.2.2.2.2.2.2)) rfl 156 rfl ?_
        refine v_iinc h dX7_share_156 5 rfl (x7 + 1) rfl (Nat.le_of_ble_eq_true rfl) rfl rfl [(0, .ref (ad 0)), (2, .int x2), (3, .int x3), (4, .int x4), (5, .int x5), (7, .int (x7 + 1)), (8, .int ((zgt m8 (14 + x7)) + (zgt v.2.2.2.2.2.2.2.2.2.2.2.2.2.1 x7)))] rfl 159 rfl ?_
        refine v_goto h dX7_share_159 101 (by decide) ?_
        exact v_sub [0, 1, 2, 3, 4, 5] rfl (ih v x2 x3 x4 x5 (x7 + 1) (zpt m8 (14 + x7) 20) _ hf kx)
def fX7_share_L89 : Nat → MV → Int32 → Int32 → Int32 → Int32 → Int32 → zAI → zAI → zAI → zAI → Option (Int32 × Int32 × zAI × zAI × zAI × zAI)
  | 0, _, _, _, _, _, _, _, _, _, _ => none
  | n + 1, v, x2, x3, x4, x5, x6, m8, m12, m13, m14 => if x6 = 0 then (some (x4, x5, m8, m12, m13, m14)) else (((fX7_begin (v.1, v.2.1, v.2.2.1, v.2.2.2.1, v.2.2.2.2.1, v.2.2.2.2.2.1, v.2.2.2.2.2.2.1, v.2.2.2.2.2.2.2.1, m8, v.2.2.2.2.2.2.2.2.2.1, v.2.2.2.2.2.2.2.2.2.2.1, v.2.2.2.2.2.2.2.2.2.2.2.1, m12, m13, m14)) : Option zAI).bind (fun u2 => ((fX7_share_L101 zF (v.1, v.2.1, v.2.2.1, v.2.2.2.1, v.2.2.2.2.1, v.2.2.2.2.2.1, v.2.2.2.2.2.2.1, v.2.2.2.2.2.2.2.1, u2, v.2.2.2.2.2.2.2.2.2.1, v.2.2.2.2.2.2.2.2.2.2.1, v.2.2.2.2.2.2.2.2.2.2.2.1, m12, m13, m14) x2 x3 x4 x5 0 u2) : Option zAI).bind (fun u3 => ((fX7_goOn (v.1, v.2.1, v.2.2.1, v.2.2.2.1, v.2.2.2.2.1, v.2.2.2.2.2.1, v.2.2.2.2.2.2.1, v.2.2.2.2.2.2.2.1, u3, v.2.2.2.2.2.2.2.2.2.1, v.2.2.2.2.2.2.2.2.2.2.1, v.2.2.2.2.2.2.2.2.2.2.2.1, m12, m13, m14) x2) : Option (Int32 × zAI × zAI)).bind (fun u4 => ((fX7_heavy u4.2.1) : Option Int32).bind (fun u5 => if x4 = (-4) then (((fX7_bring10 m13 m14 0 0 10) : Option zAI).bind (fun u7 => ((fX7_isNextParts (v.1, v.2.1, v.2.2.1, v.2.2.2.1, v.2.2.2.2.1, v.2.2.2.2.2.1, v.2.2.2.2.2.2.1, v.2.2.2.2.2.2.2.1, u4.2.1, v.2.2.2.2.2.2.2.2.2.1, v.2.2.2.2.2.2.2.2.2.2.1, v.2.2.2.2.2.2.2.2.2.2.2.1, u4.2.2, m13, u7)) : Option (Int32 × zAI)).bind (fun u8 => fX7_share_L89 n v x2 x3 u4.1 u5 u8.1 u4.2.1 u4.2.2 u8.2 u7))) else (if u4.1 < x4 then (((fX7_bring10 m13 m14 0 0 10) : Option zAI).bind (fun u10 => ((fX7_isNextParts (v.1, v.2.1, v.2.2.1, v.2.2.2.1, v.2.2.2.2.1, v.2.2.2.2.2.1, v.2.2.2.2.2.2.1, v.2.2.2.2.2.2.2.1, u4.2.1, v.2.2.2.2.2.2.2.2.2.1, v.2.2.2.2.2.2.2.2.2.2.1, v.2.2.2.2.2.2.2.2.2.2.2.1, u4.2.2, m13, u10)) : Option (Int32 × zAI)).bind (fun u11 => fX7_share_L89 n v x2 x3 u4.1 u5 u11.1 u4.2.1 u4.2.2 u11.2 u10))) else (if u4.1 = x4 then (if x5 ≤ u5 then (((fX7_isNextParts (v.1, v.2.1, v.2.2.1, v.2.2.2.1, v.2.2.2.2.1, v.2.2.2.2.2.1, v.2.2.2.2.2.2.1, v.2.2.2.2.2.2.2.1, u4.2.1, v.2.2.2.2.2.2.2.2.2.1, v.2.2.2.2.2.2.2.2.2.2.1, v.2.2.2.2.2.2.2.2.2.2.2.1, u4.2.2, m13, m14)) : Option (Int32 × zAI)).bind (fun u15 => fX7_share_L89 n v x2 x3 x4 x5 u15.1 u4.2.1 u4.2.2 u15.2 m14)) else (((fX7_bring10 m13 m14 0 0 10) : Option zAI).bind (fun u16 => ((fX7_isNextParts (v.1, v.2.1, v.2.2.1, v.2.2.2.1, v.2.2.2.2.1, v.2.2.2.2.2.1, v.2.2.2.2.2.2.1, v.2.2.2.2.2.2.2.1, u4.2.1, v.2.2.2.2.2.2.2.2.2.1, v.2.2.2.2.2.2.2.2.2.2.1, v.2.2.2.2.2.2.2.2.2.2.2.1, u4.2.2, m13, u16)) : Option (Int32 × zAI)).bind (fun u17 => fX7_share_L89 n v x2 x3 u4.1 u5 u17.1 u4.2.1 u4.2.2 u17.2 u16)))) else (((fX7_isNextParts (v.1, v.2.1, v.2.2.1, v.2.2.2.1, v.2.2.2.2.1, v.2.2.2.2.2.1, v.2.2.2.2.2.2.1, v.2.2.2.2.2.2.2.1, u4.2.1, v.2.2.2.2.2.2.2.2.2.1, v.2.2.2.2.2.2.2.2.2.2.1, v.2.2.2.2.2.2.2.2.2.2.2.1, u4.2.2, m13, m14)) : Option (Int32 × zAI)).bind (fun u13 => fX7_share_L89 n v x2 x3 x4 x5 u13.1 u4.2.1 u4.2.2 u13.2 m14)))))))))
set_option maxRecDepth 100000 in
set_option maxHeartbeats 4000000 in
theorem tX7_share_l89 {X : zX} {l : Launch} {G : va_G} {ca : Nat → ClassId} {ad : Nat → Nat} (h : zOk X l G ca cX7_share RX7 wsX7_share 9 rX7_share) : ∀ (n : Nat) (v : MV) (x2 : Int32) (x3 : Int32) (x4 : Int32) (x5 : Int32) (x6 : Int32) (m8 : zAI) (m12 : zAI) (m13 : zAI) (m14 : zAI) (out : (Int32 × Int32 × zAI × zAI × zAI × zAI)), fX7_share_L89 n v x2 x3 x4 x5 x6 m8 m12 m13 m14 = some out → (V X G 9 0 0 (wM ca ad (v.1, v.2.1, v.2.2.1, v.2.2.2.1, v.2.2.2.2.1, v.2.2.2.2.2.1, v.2.2.2.2.2.2.1, v.2.2.2.2.2.2.2.1, out.2.2.1, v.2.2.2.2.2.2.2.2.2.1, v.2.2.2.2.2.2.2.2.2.2.1, v.2.2.2.2.2.2.2.2.2.2.2.1, out.2.2.2.1, out.2.2.2.2.1, out.2.2.2.2.2)) 238 [(0, .ref (ad 0)), (3, .int x3), (4, .int out.1), (5, .int out.2.1)] []) → V X G 9 0 0 (wM ca ad (v.1, v.2.1, v.2.2.1, v.2.2.2.1, v.2.2.2.2.1, v.2.2.2.2.2.1, v.2.2.2.2.2.2.1, v.2.2.2.2.2.2.2.1, m8, v.2.2.2.2.2.2.2.2.2.1, v.2.2.2.2.2.2.2.2.2.2.1, v.2.2.2.2.2.2.2.2.2.2.2.1, m12, m13, m14)) 89 [(0, .ref (ad 0)), (2, .int x2), (3, .int x3), (4, .int x4), (5, .int x5), (6, .int x6)] [] := by
  intro n
  induction n with
  | zero => intro v x2 x3 x4 x5 x6 m8 m12 m13 m14 out hf; rw [fX7_share_L89] at hf; cases hf
  | succ n ih =>
    intro v x2 x3 x4 x5 x6 m8 m12 m13 m14 out hf kx
    rw [fX7_share_L89] at hf
    refine v_iload h dX7_share_89 5 rfl 91 rfl ?_
    refine v_if_eq h dX7_share_91 238 (by decide) 94 rfl (fun c1 => ?_) (fun c1 => ?_)
    · replace hf := zt c1 hf
      cases (Option.some.inj hf)
      exact v_sub [0, 2, 3, 4] rfl (kx)
    · replace hf := zf c1 hf
      refine v_aload_n h dX7_share_94 0 rfl 95 rfl ?_
      obtain ⟨u2, hu2, hf⟩ := zb hf
      refine v_wcallVv h (rest := []) dX7_share_95 (tX7_begin l G ca ad (v.1, v.2.1, v.2.2.1, v.2.2.2.1, v.2.2.2.2.1, v.2.2.2.2.2.1, v.2.2.2.2.2.2.1, v.2.2.2.2.2.2.2.1, m8, v.2.2.2.2.2.2.2.2.2.1, v.2.2.2.2.2.2.2.2.2.2.1, v.2.2.2.2.2.2.2.2.2.2.2.1, m12, m13, m14)  hu2) gX7_share_X7_begin rfl rfl ⟨rfl, rfl⟩ nX7_begin ⟨Nat.le_of_ble_eq_true rfl, Nat.le_of_ble_eq_true rfl⟩ 0 rfl rfl rfl rfl (Nat.le_of_ble_eq_true rfl) ⟨Nat.zero_le _, Nat.zero_le _⟩ (wM_adr _ _ _ _) 98 rfl ?_
      refine v_iconst h dX7_share_98 0 rfl 99 rfl ?_
      refine v_istore h dX7_share_99 (Nat.le_of_ble_eq_true rfl) rfl rfl [(0, .ref (ad 0)), (2, .int x2), (3, .int x3), (4, .int x4), (5, .int x5), (6, .int x6), (7, .int 0)] rfl 101 rfl ?_
      obtain ⟨u3, hu3, hf⟩ := zb hf
      refine v_sub [0, 1, 2, 3, 4, 6] rfl ?_
      refine tX7_share_l101 h zF (v.1, v.2.1, v.2.2.1, v.2.2.2.1, v.2.2.2.2.1, v.2.2.2.2.2.1, v.2.2.2.2.2.2.1, v.2.2.2.2.2.2.2.1, u2, v.2.2.2.2.2.2.2.2.2.1, v.2.2.2.2.2.2.2.2.2.2.1, v.2.2.2.2.2.2.2.2.2.2.2.1, m12, m13, m14) x2 x3 x4 x5 0 u2 _ hu3 ?_
      refine v_aload_n h dX7_share_162 0 rfl 163 rfl ?_
      refine v_iload_n h dX7_share_163 1 rfl 164 rfl ?_
      obtain ⟨u4, hu4, hf⟩ := zb hf
      refine v_wcallVi h (rest := []) dX7_share_164 (tX7_goOn l G ca ad (v.1, v.2.1, v.2.2.1, v.2.2.2.1, v.2.2.2.2.1, v.2.2.2.2.2.1, v.2.2.2.2.2.2.1, v.2.2.2.2.2.2.2.1, u3, v.2.2.2.2.2.2.2.2.2.1, v.2.2.2.2.2.2.2.2.2.2.1, v.2.2.2.2.2.2.2.2.2.2.2.1, m12, m13, m14) x2 hu4) gX7_share_X7_goOn rfl rfl ⟨rfl, rfl⟩ nX7_goOn ⟨Nat.le_of_ble_eq_true rfl, Nat.le_of_ble_eq_true rfl⟩ 0 rfl rfl rfl rfl (Nat.le_of_ble_eq_true rfl) ⟨Nat.zero_le _, Nat.zero_le _⟩ (wM_adr _ _ _ _) 167 rfl ?_
      refine v_istore h dX7_share_167 (Nat.le_of_ble_eq_true rfl) rfl rfl [(0, .ref (ad 0)), (2, .int x2), (3, .int x3), (4, .int x4), (5, .int x5), (7, .int u4.1)] rfl 169 rfl ?_
      refine v_aload_n h dX7_share_169 0 rfl 170 rfl ?_
      refine v_get h (v := .ref (ad 6)) dX7_share_170 iX7_share_X7 0 rfl rfl 8 (by decide) (zwi 3 rfl) rfl 173 rfl ?_
      obtain ⟨u5, hu5, hf⟩ := zb hf
      refine v_callSi h (rest := []) dX7_share_173 (tX7_heavy l G ca (ad 6) u4.2.1  hu5) gX7_share_X7_heavy rfl ⟨rfl, rfl⟩ nX7_heavy ⟨Nat.le_of_ble_eq_true rfl, Nat.le_of_ble_eq_true rfl⟩ [6] rfl rfl rfl rfl (Nat.le_of_ble_eq_true rfl) ⟨Nat.zero_le _, Nat.zero_le _⟩ rfl (wM ca ad (v.1, v.2.1, v.2.2.1, v.2.2.2.1, v.2.2.2.2.1, v.2.2.2.2.2.1, v.2.2.2.2.2.2.1, v.2.2.2.2.2.2.2.1, u4.2.1, v.2.2.2.2.2.2.2.2.2.1, v.2.2.2.2.2.2.2.2.2.2.1, v.2.2.2.2.2.2.2.2.2.2.2.1, u4.2.2, m13, m14)) rfl (wM_adr _ _ _ _) 176 rfl ?_
      refine v_istore h dX7_share_176 (Nat.le_of_ble_eq_true rfl) rfl rfl [(0, .ref (ad 0)), (2, .int x2), (3, .int x3), (4, .int x4), (5, .int x5), (7, .int u4.1), (8, .int u5)] rfl 178 rfl ?_
      refine v_iload h dX7_share_178 3 rfl 180 rfl ?_
      refine v_bipush h dX7_share_180 (-4) rfl 182 rfl ?_
      refine v_icmp_eq h dX7_share_182 206 (by decide) 185 rfl (fun c6 => ?_) (fun c6 => ?_)
      · replace hf := zt c6 hf
        refine v_iload h dX7_share_206 5 rfl 208 rfl ?_
        refine v_istore h dX7_share_208 (Nat.le_of_ble_eq_true rfl) rfl rfl [(0, .ref (ad 0)), (2, .int x2), (3, .int x3), (4, .int u4.1), (5, .int x5), (7, .int u4.1), (8, .int u5)] rfl 210 rfl ?_
        refine v_iload h dX7_share_210 6 rfl 212 rfl ?_
        refine v_istore h dX7_share_212 (Nat.le_of_ble_eq_true rfl) rfl rfl [(0, .ref (ad 0)), (2, .int x2), (3, .int x3), (4, .int u4.1), (5, .int u5), (7, .int u4.1), (8, .int u5)] rfl 214 rfl ?_
        refine v_aload_n h dX7_share_214 0 rfl 215 rfl ?_
        refine v_get h (v := .ref (ad 10)) dX7_share_215 iX7_share_X7 0 rfl rfl 13 (by decide) (zwi 2 rfl) rfl 218 rfl ?_
        refine v_iconst h dX7_share_218 0 rfl 219 rfl ?_
        refine v_aload_n h dX7_share_219 0 rfl 220 rfl ?_
        refine v_get h (v := .ref (ad 11)) dX7_share_220 iX7_share_X7 0 rfl rfl 14 (by decide) (zwi 4 rfl) rfl 223 rfl ?_
        refine v_iconst h dX7_share_223 0 rfl 224 rfl ?_
        refine v_bipush h dX7_share_224 10 rfl 226 rfl ?_
        obtain ⟨u7, hu7, hf⟩ := zb hf
        refine v_callSv h (rest := []) dX7_share_226 (tX7_bring10 l G ca (ad 10) (ad 11) m13 m14 0 0 10 hu7) gX7_share_X7_bring rfl ⟨rfl, rfl⟩ nX7_bring ⟨Nat.le_of_ble_eq_true rfl, Nat.le_of_ble_eq_true rfl⟩ [10, 11] rfl rfl rfl rfl (Nat.le_of_ble_eq_true rfl) ⟨Nat.zero_le _, Nat.zero_le _⟩ rfl (wM ca ad (v.1, v.2.1, v.2.2.1, v.2.2.2.1, v.2.2.2.2.1, v.2.2.2.2.2.1, v.2.2.2.2.2.2.1, v.2.2.2.2.2.2.2.1, u4.2.1, v.2.2.2.2.2.2.2.2.2.1, v.2.2.2.2.2.2.2.2.2.2.1, v.2.2.2.2.2.2.2.2.2.2.2.1, u4.2.2, m13, u7)) rfl (wM_adr _ _ _ _) 229 rfl ?_
        refine v_aload_n h dX7_share_229 0 rfl 230 rfl ?_
        obtain ⟨u8, hu8, hf⟩ := zb hf
        refine v_wcallVi h (rest := []) dX7_share_230 (tX7_isNextParts l G ca ad (v.1, v.2.1, v.2.2.1, v.2.2.2.1, v.2.2.2.2.1, v.2.2.2.2.2.1, v.2.2.2.2.2.2.1, v.2.2.2.2.2.2.2.1, u4.2.1, v.2.2.2.2.2.2.2.2.2.1, v.2.2.2.2.2.2.2.2.2.2.1, v.2.2.2.2.2.2.2.2.2.2.2.1, u4.2.2, m13, u7)  hu8) gX7_share_X7_isNextParts rfl rfl ⟨rfl, rfl⟩ nX7_isNextParts ⟨Nat.le_of_ble_eq_true rfl, Nat.le_of_ble_eq_true rfl⟩ 0 rfl rfl rfl rfl (Nat.le_of_ble_eq_true rfl) ⟨Nat.zero_le _, Nat.zero_le _⟩ (wM_adr _ _ _ _) 233 rfl ?_
        refine v_istore h dX7_share_233 (Nat.le_of_ble_eq_true rfl) rfl rfl [(0, .ref (ad 0)), (2, .int x2), (3, .int x3), (4, .int u4.1), (5, .int u5), (7, .int u4.1), (8, .int u5), (6, .int u8.1)] rfl 235 rfl ?_
        refine v_goto h dX7_share_235 89 (by decide) ?_
        exact v_sub [0, 1, 2, 3, 4, 7] rfl (ih v x2 x3 u4.1 u5 u8.1 u4.2.1 u4.2.2 u8.2 u7 _ hf kx)
      · replace hf := zf c6 hf
        refine v_iload h dX7_share_185 5 rfl 187 rfl ?_
        refine v_iload h dX7_share_187 3 rfl 189 rfl ?_
        refine v_icmp_lt h dX7_share_189 206 (by decide) 192 rfl (fun c9 => ?_) (fun c9 => ?_)
        · replace hf := zt c9 hf
          refine v_iload h dX7_share_206 5 rfl 208 rfl ?_
          refine v_istore h dX7_share_208 (Nat.le_of_ble_eq_true rfl) rfl rfl [(0, .ref (ad 0)), (2, .int x2), (3, .int x3), (4, .int u4.1), (5, .int x5), (7, .int u4.1), (8, .int u5)] rfl 210 rfl ?_
          refine v_iload h dX7_share_210 6 rfl 212 rfl ?_
          refine v_istore h dX7_share_212 (Nat.le_of_ble_eq_true rfl) rfl rfl [(0, .ref (ad 0)), (2, .int x2), (3, .int x3), (4, .int u4.1), (5, .int u5), (7, .int u4.1), (8, .int u5)] rfl 214 rfl ?_
          refine v_aload_n h dX7_share_214 0 rfl 215 rfl ?_
          refine v_get h (v := .ref (ad 10)) dX7_share_215 iX7_share_X7 0 rfl rfl 13 (by decide) (zwi 2 rfl) rfl 218 rfl ?_
          refine v_iconst h dX7_share_218 0 rfl 219 rfl ?_
          refine v_aload_n h dX7_share_219 0 rfl 220 rfl ?_
          refine v_get h (v := .ref (ad 11)) dX7_share_220 iX7_share_X7 0 rfl rfl 14 (by decide) (zwi 4 rfl) rfl 223 rfl ?_
          refine v_iconst h dX7_share_223 0 rfl 224 rfl ?_
          refine v_bipush h dX7_share_224 10 rfl 226 rfl ?_
          obtain ⟨u10, hu10, hf⟩ := zb hf
          refine v_callSv h (rest := []) dX7_share_226 (tX7_bring10 l G ca (ad 10) (ad 11) m13 m14 0 0 10 hu10) gX7_share_X7_bring rfl ⟨rfl, rfl⟩ nX7_bring ⟨Nat.le_of_ble_eq_true rfl, Nat.le_of_ble_eq_true rfl⟩ [10, 11] rfl rfl rfl rfl (Nat.le_of_ble_eq_true rfl) ⟨Nat.zero_le _, Nat.zero_le _⟩ rfl (wM ca ad (v.1, v.2.1, v.2.2.1, v.2.2.2.1, v.2.2.2.2.1, v.2.2.2.2.2.1, v.2.2.2.2.2.2.1, v.2.2.2.2.2.2.2.1, u4.2.1, v.2.2.2.2.2.2.2.2.2.1, v.2.2.2.2.2.2.2.2.2.2.1, v.2.2.2.2.2.2.2.2.2.2.2.1, u4.2.2, m13, u10)) rfl (wM_adr _ _ _ _) 229 rfl ?_
          refine v_aload_n h dX7_share_229 0 rfl 230 rfl ?_
          obtain ⟨u11, hu11, hf⟩ := zb hf
          refine v_wcallVi h (rest := []) dX7_share_230 (tX7_isNextParts l G ca ad (v.1, v.2.1, v.2.2.1, v.2.2.2.1, v.2.2.2.2.1, v.2.2.2.2.2.1, v.2.2.2.2.2.2.1, v.2.2.2.2.2.2.2.1, u4.2.1, v.2.2.2.2.2.2.2.2.2.1, v.2.2.2.2.2.2.2.2.2.2.1, v.2.2.2.2.2.2.2.2.2.2.2.1, u4.2.2, m13, u10)  hu11) gX7_share_X7_isNextParts rfl rfl ⟨rfl, rfl⟩ nX7_isNextParts ⟨Nat.le_of_ble_eq_true rfl, Nat.le_of_ble_eq_true rfl⟩ 0 rfl rfl rfl rfl (Nat.le_of_ble_eq_true rfl) ⟨Nat.zero_le _, Nat.zero_le _⟩ (wM_adr _ _ _ _) 233 rfl ?_
          refine v_istore h dX7_share_233 (Nat.le_of_ble_eq_true rfl) rfl rfl [(0, .ref (ad 0)), (2, .int x2), (3, .int x3), (4, .int u4.1), (5, .int u5), (7, .int u4.1), (8, .int u5), (6, .int u11.1)] rfl 235 rfl ?_
          refine v_goto h dX7_share_235 89 (by decide) ?_
          exact v_sub [0, 1, 2, 3, 4, 7] rfl (ih v x2 x3 u4.1 u5 u11.1 u4.2.1 u4.2.2 u11.2 u10 _ hf kx)
        · replace hf := zf c9 hf
          refine v_iload h dX7_share_192 5 rfl 194 rfl ?_
          refine v_iload h dX7_share_194 3 rfl 196 rfl ?_
          refine v_icmp_ne h dX7_share_196 229 (by decide) 199 rfl (fun c12 => ?_) (fun c12 => ?_)
          · replace hf := zf c12 hf
            refine v_aload_n h dX7_share_229 0 rfl 230 rfl ?_
            obtain ⟨u13, hu13, hf⟩ := zb hf
            refine v_wcallVi h (rest := []) dX7_share_230 (tX7_isNextParts l G ca ad (v.1, v.2.1, v.2.2.1, v.2.2.2.1, v.2.2.2.2.1, v.2.2.2.2.2.1, v.2.2.2.2.2.2.1, v.2.2.2.2.2.2.2.1, u4.2.1, v.2.2.2.2.2.2.2.2.2.1, v.2.2.2.2.2.2.2.2.2.2.1, v.2.2.2.2.2.2.2.2.2.2.2.1, u4.2.2, m13, m14)  hu13) gX7_share_X7_isNextParts rfl rfl ⟨rfl, rfl⟩ nX7_isNextParts ⟨Nat.le_of_ble_eq_true rfl, Nat.le_of_ble_eq_true rfl⟩ 0 rfl rfl rfl rfl (Nat.le_of_ble_eq_true rfl) ⟨Nat.zero_le _, Nat.zero_le _⟩ (wM_adr _ _ _ _) 233 rfl ?_
            refine v_istore h dX7_share_233 (Nat.le_of_ble_eq_true rfl) rfl rfl [(0, .ref (ad 0)), (2, .int x2), (3, .int x3), (4, .int x4), (5, .int x5), (7, .int u4.1), (8, .int u5), (6, .int u13.1)] rfl 235 rfl ?_
            refine v_goto h dX7_share_235 89 (by decide) ?_
            exact v_sub [0, 1, 2, 3, 4, 7] rfl (ih v x2 x3 x4 x5 u13.1 u4.2.1 u4.2.2 u13.2 m14 _ hf kx)
          · replace hf := zt c12 hf
            refine v_iload h dX7_share_199 6 rfl 201 rfl ?_
            refine v_iload h dX7_share_201 4 rfl 203 rfl ?_
            refine v_icmp_ge h dX7_share_203 229 (by decide) 206 rfl (fun c14 => ?_) (fun c14 => ?_)
            · replace hf := zt c14 hf
              refine v_aload_n h dX7_share_229 0 rfl 230 rfl ?_
              obtain ⟨u15, hu15, hf⟩ := zb hf
              refine v_wcallVi h (rest := []) dX7_share_230 (tX7_isNextParts l G ca ad (v.1, v.2.1, v.2.2.1, v.2.2.2.1, v.2.2.2.2.1, v.2.2.2.2.2.1, v.2.2.2.2.2.2.1, v.2.2.2.2.2.2.2.1, u4.2.1, v.2.2.2.2.2.2.2.2.2.1, v.2.2.2.2.2.2.2.2.2.2.1, v.2.2.2.2.2.2.2.2.2.2.2.1, u4.2.2, m13, m14)  hu15) gX7_share_X7_isNextParts rfl rfl ⟨rfl, rfl⟩ nX7_isNextParts ⟨Nat.le_of_ble_eq_true rfl, Nat.le_of_ble_eq_true rfl⟩ 0 rfl rfl rfl rfl (Nat.le_of_ble_eq_true rfl) ⟨Nat.zero_le _, Nat.zero_le _⟩ (wM_adr _ _ _ _) 233 rfl ?_
              refine v_istore h dX7_share_233 (Nat.le_of_ble_eq_true rfl) rfl rfl [(0, .ref (ad 0)), (2, .int x2), (3, .int x3), (4, .int x4), (5, .int x5), (7, .int u4.1), (8, .int u5), (6, .int u15.1)] rfl 235 rfl ?_
              refine v_goto h dX7_share_235 89 (by decide) ?_
              exact v_sub [0, 1, 2, 3, 4, 7] rfl (ih v x2 x3 x4 x5 u15.1 u4.2.1 u4.2.2 u15.2 m14 _ hf kx)
            · replace hf := zf c14 hf
              refine v_iload h dX7_share_206 5 rfl 208 rfl ?_
              refine v_istore h dX7_share_208 (Nat.le_of_ble_eq_true rfl) rfl rfl [(0, .ref (ad 0)), (2, .int x2), (3, .int x3), (4, .int u4.1), (5, .int x5), (7, .int u4.1), (8, .int u5)] rfl 210 rfl ?_
              refine v_iload h dX7_share_210 6 rfl 212 rfl ?_
              refine v_istore h dX7_share_212 (Nat.le_of_ble_eq_true rfl) rfl rfl [(0, .ref (ad 0)), (2, .int x2), (3, .int x3), (4, .int u4.1), (5, .int u5), (7, .int u4.1), (8, .int u5)] rfl 214 rfl ?_
              refine v_aload_n h dX7_share_214 0 rfl 215 rfl ?_
              refine v_get h (v := .ref (ad 10)) dX7_share_215 iX7_share_X7 0 rfl rfl 13 (by decide) (zwi 2 rfl) rfl 218 rfl ?_
              refine v_iconst h dX7_share_218 0 rfl 219 rfl ?_
              refine v_aload_n h dX7_share_219 0 rfl 220 rfl ?_
              refine v_get h (v := .ref (ad 11)) dX7_share_220 iX7_share_X7 0 rfl rfl 14 (by decide) (zwi 4 rfl) rfl 223 rfl ?_
              refine v_iconst h dX7_share_223 0 rfl 224 rfl ?_
              refine v_bipush h dX7_share_224 10 rfl 226 rfl ?_
              obtain ⟨u16, hu16, hf⟩ := zb hf
              refine v_callSv h (rest := []) dX7_share_226 (tX7_bring10 l G ca (ad 10) (ad 11) m13 m14 0 0 10 hu16) gX7_share_X7_bring rfl ⟨rfl, rfl⟩ nX7_bring ⟨Nat.le_of_ble_eq_true rfl, Nat.le_of_ble_eq_true rfl⟩ [10, 11] rfl rfl rfl rfl (Nat.le_of_ble_eq_true rfl) ⟨Nat.zero_le _, Nat.zero_le _⟩ rfl (wM ca ad (v.1, v.2.1, v.2.2.1, v.2.2.2.1, v.2.2.2.2.1, v.2.2.2.2.2.1, v.2.2.2.2.2.2.1, v.2.2.2.2.2.2.2.1, u4.2.1, v.2.2.2.2.2.2.2.2.2.1, v.2.2.2.2.2.2.2.2.2.2.1, v.2.2.2.2.2.2.2.2.2.2.2.1, u4.2.2, m13, u16)) rfl (wM_adr _ _ _ _) 229 rfl ?_
              refine v_aload_n h dX7_share_229 0 rfl 230 rfl ?_
              obtain ⟨u17, hu17, hf⟩ := zb hf
              refine v_wcallVi h (rest := []) dX7_share_230 (tX7_isNextParts l G ca ad (v.1, v.2.1, v.2.2.1, v.2.2.2.1, v.2.2.2.2.1, v.2.2.2.2.2.1, v.2.2.2.2.2.2.1, v.2.2.2.2.2.2.2.1, u4.2.1, v.2.2.2.2.2.2.2.2.2.1, v.2.2.2.2.2.2.2.2.2.2.1, v.2.2.2.2.2.2.2.2.2.2.2.1, u4.2.2, m13, u16)  hu17) gX7_share_X7_isNextParts rfl rfl ⟨rfl, rfl⟩ nX7_isNextParts ⟨Nat.le_of_ble_eq_true rfl, Nat.le_of_ble_eq_true rfl⟩ 0 rfl rfl rfl rfl (Nat.le_of_ble_eq_true rfl) ⟨Nat.zero_le _, Nat.zero_le _⟩ (wM_adr _ _ _ _) 233 rfl ?_
              refine v_istore h dX7_share_233 (Nat.le_of_ble_eq_true rfl) rfl rfl [(0, .ref (ad 0)), (2, .int x2), (3, .int x3), (4, .int u4.1), (5, .int u5), (7, .int u4.1), (8, .int u5), (6, .int u17.1)] rfl 235 rfl ?_
              refine v_goto h dX7_share_235 89 (by decide) ?_
              exact v_sub [0, 1, 2, 3, 4, 7] rfl (ih v x2 x3 u4.1 u5 u17.1 u4.2.1 u4.2.2 u17.2 u16 _ hf kx)
def fX7_share (v : MV) (x1 : Int32) (x2 : Int32) (x3 : Int32) : Option (Int32 × zAI × zAI × zAI × zAI) := ((fX7_in x1 0 6) : Option Int32).bind (fun u1 => if u1 = 0 then (some ((-1), v.2.2.2.2.2.2.2.2.1, v.2.2.2.2.2.2.2.2.2.2.2.2.1, v.2.2.2.2.2.2.2.2.2.2.2.2.2.1, v.2.2.2.2.2.2.2.2.2.2.2.2.2.2)) else (((fX7_in x2 1 20) : Option Int32).bind (fun u3 => if u3 = 0 then (some ((-1), v.2.2.2.2.2.2.2.2.1, v.2.2.2.2.2.2.2.2.2.2.2.2.1, v.2.2.2.2.2.2.2.2.2.2.2.2.2.1, v.2.2.2.2.2.2.2.2.2.2.2.2.2.2)) else (if (-2) ≤ x3 then (if (zgt v.2.2.2.2.2.2.2.1 3) = 0 then (some ((-4), v.2.2.2.2.2.2.2.2.1, v.2.2.2.2.2.2.2.2.2.2.2.2.1, v.2.2.2.2.2.2.2.2.2.2.2.2.2.1, v.2.2.2.2.2.2.2.2.2.2.2.2.2.2)) else (((fX7_share_L43 zF v x1 x2 x3 0 v.2.2.2.2.2.2.2.2.2.2.2.2.2.1) : Option zAI).bind (fun u7 => zgrd (zix ((zgt v.2.2.2.2.2.2.2.1 3) - 1) 10) (((fX7_share_L89 zF (v.1, v.2.1, v.2.2.1, v.2.2.2.1, v.2.2.2.2.1, v.2.2.2.2.2.1, v.2.2.2.2.2.2.1, v.2.2.2.2.2.2.2.1, v.2.2.2.2.2.2.2.2.1, v.2.2.2.2.2.2.2.2.2.1, v.2.2.2.2.2.2.2.2.2.2.1, v.2.2.2.2.2.2.2.2.2.2.2.1, v.2.2.2.2.2.2.2.2.2.2.2.2.1, (zpt u7 ((zgt v.2.2.2.2.2.2.2.1 3) - 1) x1), v.2.2.2.2.2.2.2.2.2.2.2.2.2.2) x2 x3 (-4) (-4) 1 v.2.2.2.2.2.2.2.2.1 v.2.2.2.2.2.2.2.2.2.2.2.2.1 (zpt u7 ((zgt v.2.2.2.2.2.2.2.1 3) - 1) x1) v.2.2.2.2.2.2.2.2.2.2.2.2.2.2) : Option (Int32 × Int32 × zAI × zAI × zAI × zAI)).bind (fun u9 => if x3 = (-1) then (some (u9.1, u9.2.2.1, u9.2.2.2.1, u9.2.2.2.2.1, u9.2.2.2.2.2)) else (if x3 = (-2) then (some (u9.2.1, u9.2.2.1, u9.2.2.2.1, u9.2.2.2.2.1, u9.2.2.2.2.2)) else (((fX7_isCoat (v.1, v.2.1, v.2.2.1, v.2.2.2.1, v.2.2.2.2.1, v.2.2.2.2.2.1, v.2.2.2.2.2.2.1, v.2.2.2.2.2.2.2.1, u9.2.2.1, v.2.2.2.2.2.2.2.2.2.1, v.2.2.2.2.2.2.2.2.2.2.1, v.2.2.2.2.2.2.2.2.2.2.2.1, u9.2.2.2.1, u9.2.2.2.2.1, u9.2.2.2.2.2) x3) : Option Int32).bind (fun u12 => if u12 = 0 then (some ((-4), u9.2.2.1, u9.2.2.2.1, u9.2.2.2.2.1, u9.2.2.2.2.2)) else (zgrd (zix x3 10) (some ((zgt u9.2.2.2.2.2 x3), u9.2.2.1, u9.2.2.2.1, u9.2.2.2.2.1, u9.2.2.2.2.2))))))))))) else (some ((-1), v.2.2.2.2.2.2.2.2.1, v.2.2.2.2.2.2.2.2.2.2.2.2.1, v.2.2.2.2.2.2.2.2.2.2.2.2.2.1, v.2.2.2.2.2.2.2.2.2.2.2.2.2.2))))))
set_option maxRecDepth 100000 in
set_option maxHeartbeats 4000000 in
theorem tX7_share (l : Launch) (G : va_G) (ca : Nat → ClassId) (ad : Nat → Nat) (v : MV) (x1 : Int32) (x2 : Int32) (x3 : Int32) {o : (Int32 × zAI × zAI × zAI × zAI)} (hf : fX7_share v x1 x2 x3 = some o) : zMi l yX7_share wsX7_share rX7_share G ca [.ref (ad 0), .int x1, .int x2, .int x3] (wM ca ad v) o.1 (wM ca ad (v.1, v.2.1, v.2.2.1, v.2.2.2.1, v.2.2.2.2.1, v.2.2.2.2.2.1, v.2.2.2.2.2.2.1, v.2.2.2.2.2.2.2.1, o.2.1, v.2.2.2.2.2.2.2.2.2.1, v.2.2.2.2.2.2.2.2.2.2.1, v.2.2.2.2.2.2.2.2.2.2.2.1, o.2.2.1, o.2.2.2.1, o.2.2.2.2)) := by
  refine zMi.of (cc := cX7_share) (nL := 9) (own := RX7) (ty := .int) (by decide) rfl rfl (Nat.le_of_ble_eq_true rfl) (fun X h hE => ?_)
  show V X G 9 0 0 (wM ca ad v) 0 [(0, .ref (ad 0)), (1, .int x1), (2, .int x2), (3, .int x3)] []
  unfold fX7_share at hf
  refine v_iload_n h dX7_share_0 1 rfl 1 rfl ?_
  refine v_iconst h dX7_share_1 0 rfl 2 rfl ?_
  refine v_bipush h dX7_share_2 6 rfl 4 rfl ?_
  obtain ⟨u1, hu1, hf⟩ := zb hf
  refine v_callSi h (rest := []) dX7_share_4 (tX7_in l G ca   x1 0 6 hu1) gX7_share_X7_in rfl ⟨rfl, rfl⟩ nX7_in ⟨Nat.le_of_ble_eq_true rfl, Nat.le_of_ble_eq_true rfl⟩ [] rfl rfl rfl rfl (Nat.le_of_ble_eq_true rfl) ⟨Nat.zero_le _, Nat.zero_le _⟩ rfl (wM ca ad v) rfl (wM_adr _ _ _ _) 7 rfl ?_
  refine v_if_eq h dX7_share_7 26 (by decide) 10 rfl (fun c2 => ?_) (fun c2 => ?_)
  · replace hf := zt c2 hf
    refine v_iconst h dX7_share_26 (-1) rfl 27 rfl ?_
    cases (Option.some.inj hf)
    exact hE 27 _ rfl dX7_share_27
  · replace hf := zf c2 hf
    refine v_iload_n h dX7_share_10 2 rfl 11 rfl ?_
    refine v_iconst h dX7_share_11 1 rfl 12 rfl ?_
    refine v_bipush h dX7_share_12 20 rfl 14 rfl ?_
    obtain ⟨u3, hu3, hf⟩ := zb hf
    refine v_callSi h (rest := []) dX7_share_14 (tX7_in l G ca   x2 1 20 hu3) gX7_share_X7_in rfl ⟨rfl, rfl⟩ nX7_in ⟨Nat.le_of_ble_eq_true rfl, Nat.le_of_ble_eq_true rfl⟩ [] rfl rfl rfl rfl (Nat.le_of_ble_eq_true rfl) ⟨Nat.zero_le _, Nat.zero_le _⟩ rfl (wM ca ad v) rfl (wM_adr _ _ _ _) 17 rfl ?_
    refine v_if_eq h dX7_share_17 26 (by decide) 20 rfl (fun c4 => ?_) (fun c4 => ?_)
    · replace hf := zt c4 hf
      refine v_iconst h dX7_share_26 (-1) rfl 27 rfl ?_
      cases (Option.some.inj hf)
      exact hE 27 _ rfl dX7_share_27
    · replace hf := zf c4 hf
      refine v_iload_n h dX7_share_20 3 rfl 21 rfl ?_
      refine v_bipush h dX7_share_21 (-2) rfl 23 rfl ?_
      refine v_icmp_ge h dX7_share_23 28 (by decide) 26 rfl (fun c5 => ?_) (fun c5 => ?_)
      · replace hf := zt c5 hf
        refine v_aload_n h dX7_share_28 0 rfl 29 rfl ?_
        refine v_get h (v := .ref (ad 5)) dX7_share_29 iX7_share_X7 0 rfl rfl 7 (by decide) (zwi 1 rfl) rfl 32 rfl ?_
        refine v_iconst h dX7_share_32 3 rfl 33 rfl ?_
        refine v_iald h (f := v.2.2.2.2.2.2.2.1) dX7_share_33 5 0 rfl rfl zi_3_407 34 rfl ?_
        refine v_if_ne h dX7_share_34 40 (by decide) 37 rfl (fun c6 => ?_) (fun c6 => ?_)
        · replace hf := zf c6 hf
          refine v_iconst h dX7_share_40 0 rfl 41 rfl ?_
          refine v_istore h dX7_share_41 (Nat.le_of_ble_eq_true rfl) rfl rfl [(0, .ref (ad 0)), (1, .int x1), (2, .int x2), (3, .int x3), (4, .int 0)] rfl 43 rfl ?_
          obtain ⟨u7, hu7, hf⟩ := zb hf
          refine v_sub [0, 1, 2, 3, 4] rfl ?_
          refine tX7_share_l43 h zF v x1 x2 x3 0 v.2.2.2.2.2.2.2.2.2.2.2.2.2.1 _ hu7 ?_
          refine v_aload_n h dX7_share_64 0 rfl 65 rfl ?_
          refine v_get h (v := .ref (ad 10)) dX7_share_65 iX7_share_X7 0 rfl rfl 13 (by decide) (zwi 2 rfl) rfl 68 rfl ?_
          refine v_aload_n h dX7_share_68 0 rfl 69 rfl ?_
          refine v_get h (v := .ref (ad 5)) dX7_share_69 iX7_share_X7 0 rfl rfl 7 (by decide) (zwi 1 rfl) rfl 72 rfl ?_
          refine v_iconst h dX7_share_72 3 rfl 73 rfl ?_
          refine v_iald h (f := v.2.2.2.2.2.2.2.1) dX7_share_73 5 0 rfl rfl zi_3_407 74 rfl ?_
          refine v_iconst h dX7_share_74 1 rfl 75 rfl ?_
          refine v_isub h dX7_share_75 76 rfl ?_
          refine v_iload_n h dX7_share_76 1 rfl 77 rfl ?_
          obtain ⟨g8, hf⟩ := zg hf
          refine v_iast h (f := u7) dX7_share_77 10 0 rfl rfl (zix_in g8) (wM ca ad (v.1, v.2.1, v.2.2.1, v.2.2.2.1, v.2.2.2.2.1, v.2.2.2.2.2.1, v.2.2.2.2.2.2.1, v.2.2.2.2.2.2.2.1, v.2.2.2.2.2.2.2.2.1, v.2.2.2.2.2.2.2.2.2.1, v.2.2.2.2.2.2.2.2.2.2.1, v.2.2.2.2.2.2.2.2.2.2.2.1, v.2.2.2.2.2.2.2.2.2.2.2.2.1, (zpt u7 ((zgt v.2.2.2.2.2.2.2.1 3) - 1) x1), v.2.2.2.2.2.2.2.2.2.2.2.2.2.2)) rfl 78 rfl ?_
          refine v_bipush h dX7_share_78 (-4) rfl 80 rfl ?_
          refine v_istore h dX7_share_80 (Nat.le_of_ble_eq_true rfl) rfl rfl [(0, .ref (ad 0)), (1, .int x1), (2, .int x2), (3, .int x3), (4, .int (-4))] rfl 82 rfl ?_
          refine v_bipush h dX7_share_82 (-4) rfl 84 rfl ?_
          refine v_istore h dX7_share_84 (Nat.le_of_ble_eq_true rfl) rfl rfl [(0, .ref (ad 0)), (1, .int x1), (2, .int x2), (3, .int x3), (4, .int (-4)), (5, .int (-4))] rfl 86 rfl ?_
          refine v_iconst h dX7_share_86 1 rfl 87 rfl ?_
          refine v_istore h dX7_share_87 (Nat.le_of_ble_eq_true rfl) rfl rfl [(0, .ref (ad 0)), (1, .int x1), (2, .int x2), (3, .int x3), (4, .int (-4)), (5, .int (-4)), (6, .int 1)] rfl 89 rfl ?_
          obtain ⟨u9, hu9, hf⟩ := zb hf
          refine v_sub [0, 2, 3, 4, 5, 6] rfl ?_
          refine tX7_share_l89 h zF (v.1, v.2.1, v.2.2.1, v.2.2.2.1, v.2.2.2.2.1, v.2.2.2.2.2.1, v.2.2.2.2.2.2.1, v.2.2.2.2.2.2.2.1, v.2.2.2.2.2.2.2.2.1, v.2.2.2.2.2.2.2.2.2.1, v.2.2.2.2.2.2.2.2.2.2.1, v.2.2.2.2.2.2.2.2.2.2.2.1, v.2.2.2.2.2.2.2.2.2.2.2.2.1, (zpt u7 ((zgt v.2.2.2.2.2.2.2.1 3) - 1) x1), v.2.2.2.2.2.2.2.2.2.2.2.2.2.2) x2 x3 (-4) (-4) 1 v.2.2.2.2.2.2.2.2.1 v.2.2.2.2.2.2.2.2.2.2.2.2.1 (zpt u7 ((zgt v.2.2.2.2.2.2.2.1 3) - 1) x1) v.2.2.2.2.2.2.2.2.2.2.2.2.2.2 _ hu9 ?_
          refine v_iload_n h dX7_share_238 1 rfl 239 rfl ?_
          refine v_iconst h dX7_share_239 (-1) rfl 240 rfl ?_
          refine v_icmp_ne h dX7_share_240 248 (by decide) 243 rfl (fun c10 => ?_) (fun c10 => ?_)
          · replace hf := zf c10 hf
            refine v_iload_n h dX7_share_248 1 rfl 249 rfl ?_
            refine v_bipush h dX7_share_249 (-2) rfl 251 rfl ?_
            refine v_icmp_ne h dX7_share_251 259 (by decide) 254 rfl (fun c11 => ?_) (fun c11 => ?_)
            · replace hf := zf c11 hf
              refine v_aload_n h dX7_share_259 0 rfl 260 rfl ?_
              refine v_iload_n h dX7_share_260 1 rfl 261 rfl ?_
              obtain ⟨u12, hu12, hf⟩ := zb hf
              refine v_wcallVi h (rest := []) dX7_share_261 (tX7_isCoat l G ca ad (v.1, v.2.1, v.2.2.1, v.2.2.2.1, v.2.2.2.2.1, v.2.2.2.2.2.1, v.2.2.2.2.2.2.1, v.2.2.2.2.2.2.2.1, u9.2.2.1, v.2.2.2.2.2.2.2.2.2.1, v.2.2.2.2.2.2.2.2.2.2.1, v.2.2.2.2.2.2.2.2.2.2.2.1, u9.2.2.2.1, u9.2.2.2.2.1, u9.2.2.2.2.2) x3 hu12) gX7_share_X7_isCoat rfl rfl ⟨rfl, rfl⟩ nX7_isCoat ⟨Nat.le_of_ble_eq_true rfl, Nat.le_of_ble_eq_true rfl⟩ 0 rfl rfl rfl rfl (Nat.le_of_ble_eq_true rfl) ⟨Nat.zero_le _, Nat.zero_le _⟩ (wM_adr _ _ _ _) 264 rfl ?_
              refine v_if_eq h dX7_share_264 276 (by decide) 267 rfl (fun c13 => ?_) (fun c13 => ?_)
              · replace hf := zt c13 hf
                refine v_bipush h dX7_share_276 (-4) rfl 278 rfl ?_
                cases (Option.some.inj hf)
                exact hE 278 _ rfl dX7_share_278
              · replace hf := zf c13 hf
                refine v_aload_n h dX7_share_267 0 rfl 268 rfl ?_
                refine v_get h (v := .ref (ad 11)) dX7_share_268 iX7_share_X7 0 rfl rfl 14 (by decide) (zwi 4 rfl) rfl 271 rfl ?_
                refine v_iload_n h dX7_share_271 1 rfl 272 rfl ?_
                obtain ⟨g14, hf⟩ := zg hf
                refine v_iald h (f := u9.2.2.2.2.2) dX7_share_272 11 0 rfl rfl (zix_in g14) 273 rfl ?_
                refine v_goto h dX7_share_273 278 (by decide) ?_
                cases (Option.some.inj hf)
                exact hE 278 _ rfl dX7_share_278
            · replace hf := zt c11 hf
              refine v_iload h dX7_share_254 3 rfl 256 rfl ?_
              refine v_goto h dX7_share_256 278 (by decide) ?_
              cases (Option.some.inj hf)
              exact hE 278 _ rfl dX7_share_278
          · replace hf := zt c10 hf
            refine v_iload h dX7_share_243 2 rfl 245 rfl ?_
            refine v_goto h dX7_share_245 278 (by decide) ?_
            cases (Option.some.inj hf)
            exact hE 278 _ rfl dX7_share_278
        · replace hf := zt c6 hf
          refine v_bipush h dX7_share_37 (-4) rfl 39 rfl ?_
          cases (Option.some.inj hf)
          exact hE 39 _ rfl dX7_share_39
      · replace hf := zf c5 hf
        refine v_iconst h dX7_share_26 (-1) rfl 27 rfl ?_
        cases (Option.some.inj hf)
        exact hE 27 _ rfl dX7_share_27
abbrev rX7_worst : Room := { frames := 4, cells := 0, slots := 0, locals := 94 }
theorem nX7_worst : zNoMH yX7_worst 1 := ⟨by decide +kernel, by decide +kernel, by decide +kernel⟩
theorem iX7_worst_X7 : ∀ w ∈ wsX70, w ∈ wsX7_worst := fun _ h => (List.mem_cons_of_mem _ (List.mem_append_right _ h))
def fX7_worst_L23 : Nat → MV → Int32 → Int32 → Int32 → Int32 → zAI → zAI → Option (Int32 × Int32 × zAI × zAI)
  | 0, _, _, _, _, _, _, _ => none
  | n + 1, v, x1, x2, x3, x4, m8, m12 => if 40 ≤ x4 then (some (x2, x3, m8, m12)) else (((fX7_yearIn m12 m8) : Option (Int32 × zAI × zAI)).bind (fun u2 => if u2.1 ≤ x3 then (if u2.1 ≤ x3 then (fX7_worst_L23 n v x1 x2 x3 (x4 + 1) u2.2.2 u2.2.1) else (fX7_worst_L23 n v x1 x2 u2.1 (x4 + 1) u2.2.2 u2.2.1)) else (if u2.1 ≤ x3 then (fX7_worst_L23 n v x1 x4 x3 (x4 + 1) u2.2.2 u2.2.1) else (fX7_worst_L23 n v x1 x4 u2.1 (x4 + 1) u2.2.2 u2.2.1))))
set_option maxRecDepth 100000 in
set_option maxHeartbeats 4000000 in
theorem tX7_worst_l23 {X : zX} {l : Launch} {G : va_G} {ca : Nat → ClassId} {ad : Nat → Nat} (h : zOk X l G ca cX7_worst RX7 wsX7_worst 6 rX7_worst) : ∀ (n : Nat) (v : MV) (x1 : Int32) (x2 : Int32) (x3 : Int32) (x4 : Int32) (m8 : zAI) (m12 : zAI) (out : (Int32 × Int32 × zAI × zAI)), fX7_worst_L23 n v x1 x2 x3 x4 m8 m12 = some out → (V X G 6 0 0 (wM ca ad (v.1, v.2.1, v.2.2.1, v.2.2.2.1, v.2.2.2.2.1, v.2.2.2.2.2.1, v.2.2.2.2.2.2.1, v.2.2.2.2.2.2.2.1, out.2.2.1, v.2.2.2.2.2.2.2.2.2.1, v.2.2.2.2.2.2.2.2.2.2.1, v.2.2.2.2.2.2.2.2.2.2.2.1, out.2.2.2, v.2.2.2.2.2.2.2.2.2.2.2.2.2)) 72 [(1, .int x1), (2, .int out.1), (3, .int out.2.1)] []) → V X G 6 0 0 (wM ca ad (v.1, v.2.1, v.2.2.1, v.2.2.2.1, v.2.2.2.2.1, v.2.2.2.2.2.1, v.2.2.2.2.2.2.1, v.2.2.2.2.2.2.2.1, m8, v.2.2.2.2.2.2.2.2.2.1, v.2.2.2.2.2.2.2.2.2.2.1, v.2.2.2.2.2.2.2.2.2.2.2.1, m12, v.2.2.2.2.2.2.2.2.2.2.2.2.2)) 23 [(0, .ref (ad 0)), (1, .int x1), (2, .int x2), (3, .int x3), (4, .int x4)] [] := by
  intro n
  induction n with
  | zero => intro v x1 x2 x3 x4 m8 m12 out hf; rw [fX7_worst_L23] at hf; cases hf
  | succ n ih =>
    intro v x1 x2 x3 x4 m8 m12 out hf kx
    rw [fX7_worst_L23] at hf
    refine v_iload h dX7_worst_23 4 rfl 25 rfl ?_
    refine v_bipush h dX7_worst_25 40 rfl 27 rfl ?_
    refine v_icmp_ge h dX7_worst_27 72 (by decide) 30 rfl (fun c1 => ?_) (fun c1 => ?_)
    · replace hf := zt c1 hf
      cases (Option.some.inj hf)
      exact v_sub [1, 2, 3] rfl (kx)
    · replace hf := zf c1 hf
      refine v_aload_n h dX7_worst_30 0 rfl 31 rfl ?_
      refine v_aload_n h dX7_worst_31 0 rfl 32 rfl ?_
      refine v_get h (v := .ref (ad 6)) dX7_worst_32 iX7_worst_X7 0 rfl rfl 8 (by decide) (zwi 1 rfl) rfl 35 rfl ?_
      obtain ⟨u2, hu2, hf⟩ := zb hf
      refine v_callVi h (rest := []) dX7_worst_35 (tX7_yearIn l G ca ad (ad 6) (v.1, v.2.1, v.2.2.1, v.2.2.2.1, v.2.2.2.2.1, v.2.2.2.2.2.1, v.2.2.2.2.2.2.1, v.2.2.2.2.2.2.2.1, m8, v.2.2.2.2.2.2.2.2.2.1, v.2.2.2.2.2.2.2.2.2.2.1, v.2.2.2.2.2.2.2.2.2.2.2.1, m12, v.2.2.2.2.2.2.2.2.2.2.2.2.2) m12 m8  hu2) gX7_worst_X7_yearIn rfl rfl ⟨rfl, rfl⟩ nX7_yearIn ⟨Nat.le_of_ble_eq_true rfl, Nat.le_of_ble_eq_true rfl⟩ [0, 9, 6] rfl rfl 0 rfl rfl rfl rfl (Nat.le_of_ble_eq_true rfl) ⟨Nat.zero_le _, Nat.zero_le _⟩ rfl (wM ca ad (v.1, v.2.1, v.2.2.1, v.2.2.2.1, v.2.2.2.2.1, v.2.2.2.2.2.1, v.2.2.2.2.2.2.1, v.2.2.2.2.2.2.2.1, u2.2.2, v.2.2.2.2.2.2.2.2.2.1, v.2.2.2.2.2.2.2.2.2.2.1, v.2.2.2.2.2.2.2.2.2.2.2.1, u2.2.1, v.2.2.2.2.2.2.2.2.2.2.2.2.2)) rfl (wM_adr _ _ _ _) 38 rfl ?_
      refine v_istore h dX7_worst_38 (Nat.le_of_ble_eq_true rfl) rfl rfl [(0, .ref (ad 0)), (1, .int x1), (2, .int x2), (3, .int x3), (4, .int x4), (5, .int u2.1)] rfl 40 rfl ?_
      refine v_iload h dX7_worst_40 5 rfl 42 rfl ?_
      refine v_iload_n h dX7_worst_42 3 rfl 43 rfl ?_
      refine v_icmp_le h dX7_worst_43 51 (by decide) 46 rfl (fun c3 => ?_) (fun c3 => ?_)
      · replace hf := zt c3 hf
        refine v_iload_n h dX7_worst_51 2 rfl 52 rfl ?_
        refine v_istore_n h dX7_worst_52 (Nat.le_of_ble_eq_true rfl) rfl rfl [(0, .ref (ad 0)), (1, .int x1), (2, .int x2), (3, .int x3), (4, .int x4), (5, .int u2.1)] rfl 53 rfl ?_
        refine v_iload h dX7_worst_53 5 rfl 55 rfl ?_
        refine v_iload_n h dX7_worst_55 3 rfl 56 rfl ?_
        refine v_icmp_le h dX7_worst_56 64 (by decide) 59 rfl (fun c4 => ?_) (fun c4 => ?_)
        · replace hf := zt c4 hf
          refine v_iload_n h dX7_worst_64 3 rfl 65 rfl ?_
          refine v_istore_n h dX7_worst_65 (Nat.le_of_ble_eq_true rfl) rfl rfl [(0, .ref (ad 0)), (1, .int x1), (2, .int x2), (3, .int x3), (4, .int x4), (5, .int u2.1)] rfl 66 rfl ?_
          refine v_iinc h dX7_worst_66 4 rfl (x4 + 1) rfl (Nat.le_of_ble_eq_true rfl) rfl rfl [(0, .ref (ad 0)), (1, .int x1), (2, .int x2), (3, .int x3), (4, .int (x4 + 1)), (5, .int u2.1)] rfl 69 rfl ?_
          refine v_goto h dX7_worst_69 23 (by decide) ?_
          exact v_sub [0, 1, 2, 3, 4] rfl (ih v x1 x2 x3 (x4 + 1) u2.2.2 u2.2.1 _ hf kx)
        · replace hf := zf c4 hf
          refine v_iload h dX7_worst_59 5 rfl 61 rfl ?_
          refine v_goto h dX7_worst_61 65 (by decide) ?_
          refine v_istore_n h dX7_worst_65 (Nat.le_of_ble_eq_true rfl) rfl rfl [(0, .ref (ad 0)), (1, .int x1), (2, .int x2), (3, .int u2.1), (4, .int x4), (5, .int u2.1)] rfl 66 rfl ?_
          refine v_iinc h dX7_worst_66 4 rfl (x4 + 1) rfl (Nat.le_of_ble_eq_true rfl) rfl rfl [(0, .ref (ad 0)), (1, .int x1), (2, .int x2), (3, .int u2.1), (4, .int (x4 + 1)), (5, .int u2.1)] rfl 69 rfl ?_
          refine v_goto h dX7_worst_69 23 (by decide) ?_
          exact v_sub [0, 1, 2, 3, 4] rfl (ih v x1 x2 u2.1 (x4 + 1) u2.2.2 u2.2.1 _ hf kx)
      · replace hf := zf c3 hf
        refine v_iload h dX7_worst_46 4 rfl 48 rfl ?_
        refine v_goto h dX7_worst_48 52 (by decide) ?_
        refine v_istore_n h dX7_worst_52 (Nat.le_of_ble_eq_true rfl) rfl rfl [(0, .ref (ad 0)), (1, .int x1), (2, .int x4), (3, .int x3), (4, .int x4), (5, .int u2.1)] rfl 53 rfl ?_
        refine v_iload h dX7_worst_53 5 rfl 55 rfl ?_
        refine v_iload_n h dX7_worst_55 3 rfl 56 rfl ?_
        refine v_icmp_le h dX7_worst_56 64 (by decide) 59 rfl (fun c5 => ?_) (fun c5 => ?_)
        · replace hf := zt c5 hf
          refine v_iload_n h dX7_worst_64 3 rfl 65 rfl ?_
          refine v_istore_n h dX7_worst_65 (Nat.le_of_ble_eq_true rfl) rfl rfl [(0, .ref (ad 0)), (1, .int x1), (2, .int x4), (3, .int x3), (4, .int x4), (5, .int u2.1)] rfl 66 rfl ?_
          refine v_iinc h dX7_worst_66 4 rfl (x4 + 1) rfl (Nat.le_of_ble_eq_true rfl) rfl rfl [(0, .ref (ad 0)), (1, .int x1), (2, .int x4), (3, .int x3), (4, .int (x4 + 1)), (5, .int u2.1)] rfl 69 rfl ?_
          refine v_goto h dX7_worst_69 23 (by decide) ?_
          exact v_sub [0, 1, 2, 3, 4] rfl (ih v x1 x4 x3 (x4 + 1) u2.2.2 u2.2.1 _ hf kx)
        · replace hf := zf c5 hf
          refine v_iload h dX7_worst_59 5 rfl 61 rfl ?_
          refine v_goto h dX7_worst_61 65 (by decide) ?_
          refine v_istore_n h dX7_worst_65 (Nat.le_of_ble_eq_true rfl) rfl rfl [(0, .ref (ad 0)), (1, .int x1), (2, .int x4), (3, .int u2.1), (4, .int x4), (5, .int u2.1)] rfl 66 rfl ?_
          refine v_iinc h dX7_worst_66 4 rfl (x4 + 1) rfl (Nat.le_of_ble_eq_true rfl) rfl rfl [(0, .ref (ad 0)), (1, .int x1), (2, .int x4), (3, .int u2.1), (4, .int (x4 + 1)), (5, .int u2.1)] rfl 69 rfl ?_
          refine v_goto h dX7_worst_69 23 (by decide) ?_
          exact v_sub [0, 1, 2, 3, 4] rfl (ih v x1 x4 u2.1 (x4 + 1) u2.2.2 u2.2.1 _ hf kx)
def fX7_worst (v : MV) (x1 : Int32) : Option (Int32 × zAI × zAI) := ((fX7_in x1 0 1) : Option Int32).bind (fun u1 => if u1 = 0 then (some ((-1), v.2.2.2.2.2.2.2.2.1, v.2.2.2.2.2.2.2.2.2.2.2.2.1)) else (((fX7_begin v) : Option zAI).bind (fun u3 => ((fX7_worst_L23 zF (v.1, v.2.1, v.2.2.1, v.2.2.2.1, v.2.2.2.2.1, v.2.2.2.2.2.1, v.2.2.2.2.2.2.1, v.2.2.2.2.2.2.2.1, u3, v.2.2.2.2.2.2.2.2.2) x1 (-4) 0 0 u3 v.2.2.2.2.2.2.2.2.2.2.2.2.1) : Option (Int32 × Int32 × zAI × zAI)).bind (fun u4 => if u4.1 = (-4) then (some (u4.1, u4.2.2.1, u4.2.2.2)) else (if x1 = 0 then (some (u4.1, u4.2.2.1, u4.2.2.2)) else (some (u4.2.1, u4.2.2.1, u4.2.2.2)))))))
set_option maxRecDepth 100000 in
set_option maxHeartbeats 4000000 in
theorem tX7_worst (l : Launch) (G : va_G) (ca : Nat → ClassId) (ad : Nat → Nat) (v : MV) (x1 : Int32) {o : (Int32 × zAI × zAI)} (hf : fX7_worst v x1 = some o) : zMi l yX7_worst wsX7_worst rX7_worst G ca [.ref (ad 0), .int x1] (wM ca ad v) o.1 (wM ca ad (v.1, v.2.1, v.2.2.1, v.2.2.2.1, v.2.2.2.2.1, v.2.2.2.2.2.1, v.2.2.2.2.2.2.1, v.2.2.2.2.2.2.2.1, o.2.1, v.2.2.2.2.2.2.2.2.2.1, v.2.2.2.2.2.2.2.2.2.2.1, v.2.2.2.2.2.2.2.2.2.2.2.1, o.2.2, v.2.2.2.2.2.2.2.2.2.2.2.2.2)) := by
  refine zMi.of (cc := cX7_worst) (nL := 6) (own := RX7) (ty := .int) (by decide) rfl rfl (Nat.le_of_ble_eq_true rfl) (fun X h hE => ?_)
  show V X G 6 0 0 (wM ca ad v) 0 [(0, .ref (ad 0)), (1, .int x1)] []
  unfold fX7_worst at hf
  refine v_iload_n h dX7_worst_0 1 rfl 1 rfl ?_
  refine v_iconst h dX7_worst_1 0 rfl 2 rfl ?_
  refine v_iconst h dX7_worst_2 1 rfl 3 rfl ?_
  obtain ⟨u1, hu1, hf⟩ := zb hf
  refine v_callSi h (rest := []) dX7_worst_3 (tX7_in l G ca   x1 0 1 hu1) gX7_worst_X7_in rfl ⟨rfl, rfl⟩ nX7_in ⟨Nat.le_of_ble_eq_true rfl, Nat.le_of_ble_eq_true rfl⟩ [] rfl rfl rfl rfl (Nat.le_of_ble_eq_true rfl) ⟨Nat.zero_le _, Nat.zero_le _⟩ rfl (wM ca ad v) rfl (wM_adr _ _ _ _) 6 rfl ?_
  refine v_if_ne h dX7_worst_6 11 (by decide) 9 rfl (fun c2 => ?_) (fun c2 => ?_)
  · replace hf := zf c2 hf
    refine v_aload_n h dX7_worst_11 0 rfl 12 rfl ?_
    obtain ⟨u3, hu3, hf⟩ := zb hf
    refine v_wcallVv h (rest := []) dX7_worst_12 (tX7_begin l G ca ad v  hu3) gX7_worst_X7_begin rfl rfl ⟨rfl, rfl⟩ nX7_begin ⟨Nat.le_of_ble_eq_true rfl, Nat.le_of_ble_eq_true rfl⟩ 0 rfl rfl rfl rfl (Nat.le_of_ble_eq_true rfl) ⟨Nat.zero_le _, Nat.zero_le _⟩ (wM_adr _ _ _ _) 15 rfl ?_
    refine v_bipush h dX7_worst_15 (-4) rfl 17 rfl ?_
    refine v_istore_n h dX7_worst_17 (Nat.le_of_ble_eq_true rfl) rfl rfl [(0, .ref (ad 0)), (1, .int x1), (2, .int (-4))] rfl 18 rfl ?_
    refine v_iconst h dX7_worst_18 0 rfl 19 rfl ?_
    refine v_istore_n h dX7_worst_19 (Nat.le_of_ble_eq_true rfl) rfl rfl [(0, .ref (ad 0)), (1, .int x1), (2, .int (-4)), (3, .int 0)] rfl 20 rfl ?_
    refine v_iconst h dX7_worst_20 0 rfl 21 rfl ?_
    refine v_istore h dX7_worst_21 (Nat.le_of_ble_eq_true rfl) rfl rfl [(0, .ref (ad 0)), (1, .int x1), (2, .int (-4)), (3, .int 0), (4, .int 0)] rfl 23 rfl ?_
    obtain ⟨u4, hu4, hf⟩ := zb hf
    refine v_sub [0, 1, 2, 3, 4] rfl ?_
    refine tX7_worst_l23 h zF (v.1, v.2.1, v.2.2.1, v.2.2.2.1, v.2.2.2.2.1, v.2.2.2.2.2.1, v.2.2.2.2.2.2.1, v.2.2.2.2.2.2.2.1, u3, v.2.2.2.2.2.2.2.2.2) x1 (-4) 0 0 u3 v.2.2.2.2.2.2.2.2.2.2.2.2.1 _ hu4 ?_
    refine v_iload_n h dX7_worst_72 1 rfl 73 rfl ?_
    refine v_bipush h dX7_worst_73 (-4) rfl 75 rfl ?_
    refine v_icmp_eq h dX7_worst_75 82 (by decide) 78 rfl (fun c5 => ?_) (fun c5 => ?_)
    · replace hf := zt c5 hf
      refine v_iload_n h dX7_worst_82 1 rfl 83 rfl ?_
      refine v_goto h dX7_worst_83 87 (by decide) ?_
      cases (Option.some.inj hf)
      exact hE 87 _ rfl dX7_worst_87
    · replace hf := zf c5 hf
      refine v_iload_n h dX7_worst_78 0 rfl 79 rfl ?_
      refine v_if_ne h dX7_worst_79 86 (by decide) 82 rfl (fun c6 => ?_) (fun c6 => ?_)
      · replace hf := zf c6 hf
        refine v_iload_n h dX7_worst_86 2 rfl 87 rfl ?_
        cases (Option.some.inj hf)
        exact hE 87 _ rfl dX7_worst_87
      · replace hf := zt c6 hf
        refine v_iload_n h dX7_worst_82 1 rfl 83 rfl ?_
        refine v_goto h dX7_worst_83 87 (by decide) ?_
        cases (Option.some.inj hf)
        exact hE 87 _ rfl dX7_worst_87
  · replace hf := zt c2 hf
    refine v_iconst h dX7_worst_9 (-1) rfl 10 rfl ?_
    cases (Option.some.inj hf)
    exact hE 10 _ rfl dX7_worst_10
abbrev rX7_hot : Room := { frames := 1, cells := 0, slots := 0, locals := 22 }
theorem nX7_hot : zNoMH yX7_hot 1 := ⟨by decide +kernel, by decide +kernel, by decide +kernel⟩
theorem iX7_hot_X7 : ∀ w ∈ wsX70, w ∈ wsX7_hot := fun _ h => (List.mem_cons_of_mem _ (List.mem_append_right _ h))
def fX7_hot_L30 : Nat → MV → Int32 → Int32 → Int32 → Int32 → Option (Int32 × Int32)
  | 0, _, _, _, _, _ => none
  | n + 1, v, x1, x2, x3, x4 => if x4 < ((zgt v.2.2.2.2.2.2.2.1 3) - x1) then (some (x2, x3)) else (zgrd (zix (14 + x4) 407) (zgrd (zix (24 + x4) 407) (if x3 = 0 then (fX7_hot_L30 n v x1 (x2 + ((zgt v.2.2.2.2.2.2.2.1 (14 + x4)) + (zgt v.2.2.2.2.2.2.2.1 (24 + x4)))) 0 (x4 + (-1))) else (if 7 ≤ (zgt v.2.2.2.2.2.2.2.1 (24 + x4)) then (fX7_hot_L30 n v x1 (x2 + ((zgt v.2.2.2.2.2.2.2.1 (14 + x4)) + (zgt v.2.2.2.2.2.2.2.1 (24 + x4)))) 0 (x4 + (-1))) else (fX7_hot_L30 n v x1 (x2 + ((zgt v.2.2.2.2.2.2.2.1 (14 + x4)) + (zgt v.2.2.2.2.2.2.2.1 (24 + x4)))) 1 (x4 + (-1)))))))
set_option maxRecDepth 100000 in
set_option maxHeartbeats 4000000 in
theorem tX7_hot_l30 {X : zX} {l : Launch} {G : va_G} {ca : Nat → ClassId} {ad : Nat → Nat} (h : zOk X l G ca cX7_hot RX7 wsX7_hot 5 rX7_hot) : ∀ (n : Nat) (v : MV) (x1 : Int32) (x2 : Int32) (x3 : Int32) (x4 : Int32) (out : (Int32 × Int32)), fX7_hot_L30 n v x1 x2 x3 x4 = some out → (V X G 5 0 0 (wM ca ad v) 98 [(2, .int out.1), (3, .int out.2)] []) → V X G 5 0 0 (wM ca ad v) 30 [(0, .ref (ad 0)), (1, .int x1), (2, .int x2), (3, .int x3), (4, .int x4)] [] := by
  intro n
  induction n with
  | zero => intro v x1 x2 x3 x4 out hf; rw [fX7_hot_L30] at hf; cases hf
  | succ n ih =>
    intro v x1 x2 x3 x4 out hf kx
    rw [fX7_hot_L30] at hf
    refine v_iload h dX7_hot_30 4 rfl 32 rfl ?_
    refine v_aload_n h dX7_hot_32 0 rfl 33 rfl ?_
    refine v_get h (v := .ref (ad 5)) dX7_hot_33 iX7_hot_X7 0 rfl rfl 7 (by decide) (zwi 1 rfl) rfl 36 rfl ?_
    refine v_iconst h dX7_hot_36 3 rfl 37 rfl ?_
    refine v_iald h (f := v.2.2.2.2.2.2.2.1) dX7_hot_37 5 0 rfl rfl zi_3_407 38 rfl ?_
    refine v_iload_n h dX7_hot_38 1 rfl 39 rfl ?_
    refine v_isub h dX7_hot_39 40 rfl ?_
    refine v_icmp_lt h dX7_hot_40 98 (by decide) 43 rfl (fun c1 => ?_) (fun c1 => ?_)
    · replace hf := zt c1 hf
      cases (Option.some.inj hf)
      exact v_sub [2, 3] rfl (kx)
    · replace hf := zf c1 hf
      refine v_iload_n h dX7_hot_43 2 rfl 44 rfl ?_
      refine v_aload_n h dX7_hot_44 0 rfl 45 rfl ?_
      refine v_get h (v := .ref (ad 5)) dX7_hot_45 iX7_hot_X7 0 rfl rfl 7 (by decide) (zwi 1 rfl) rfl 48 rfl ?_
      refine v_bipush h dX7_hot_48 14 rfl 50 rfl ?_
      refine v_iload h dX7_hot_50 4 rfl 52 rfl ?_
      refine v_iadd h dX7_hot_52 53 rfl ?_
      obtain ⟨g2, hf⟩ := zg hf
      refine v_iald h (f := v.2.2.2.2.2.2.2.1) dX7_hot_53 5 0 rfl rfl (zix_in g2) 54 rfl ?_
      refine v_aload_n h dX7_hot_54 0 rfl 55 rfl ?_
      refine v_get h (v := .ref (ad 5)) dX7_hot_55 iX7_hot_X7 0 rfl rfl 7 (by decide) (zwi 1 rfl) rfl 58 rfl ?_
      refine v_bipush h dX7_hot_58 24 rfl 60 rfl ?_
      refine v_iload h dX7_hot_60 4 rfl 62 rfl ?_
      refine v_iadd h dX7_hot_62 63 rfl ?_
      obtain ⟨g3, hf⟩ := zg hf
      refine v_iald h (f := v.2.2.2.2.2.2.2.1) dX7_hot_63 5 0 rfl rfl (zix_in g3) 64 rfl ?_
      refine v_iadd h dX7_hot_64 65 rfl ?_
      refine v_iadd h dX7_hot_65 66 rfl ?_
      refine v_istore_n h dX7_hot_66 (Nat.le_of_ble_eq_true rfl) rfl rfl [(0, .ref (ad 0)), (1, .int x1), (2, .int (x2 + ((zgt v.2.2.2.2.2.2.2.1 (14 + x4)) + (zgt v.2.2.2.2.2.2.2.1 (24 + x4))))), (3, .int x3), (4, .int x4)] rfl 67 rfl ?_
      refine v_iload_n h dX7_hot_67 3 rfl 68 rfl ?_
      refine v_if_eq h dX7_hot_68 90 (by decide) 71 rfl (fun c4 => ?_) (fun c4 => ?_)
      · replace hf := zt c4 hf
        refine v_iconst h dX7_hot_90 0 rfl 91 rfl ?_
        refine v_istore_n h dX7_hot_91 (Nat.le_of_ble_eq_true rfl) rfl rfl [(0, .ref (ad 0)), (1, .int x1), (2, .int (x2 + ((zgt v.2.2.2.2.2.2.2.1 (14 + x4)) + (zgt v.2.2.2.2.2.2.2.1 (24 + x4))))), (3, .int 0), (4, .int x4)] rfl 92 rfl ?_
        refine v_iinc h dX7_hot_92 4 rfl (x4 + (-1)) rfl (Nat.le_of_ble_eq_true rfl) rfl rfl [(0, .ref (ad 0)), (1, .int x1), (2, .int (x2 + ((zgt v.2.2.2.2.2.2.2.1 (14 + x4)) + (zgt v.2.2.2.2.2.2.2.1 (24 + x4))))), (3, .int 0), (4, .int (x4 + (-1)))] rfl 95 rfl ?_
        refine v_goto h dX7_hot_95 30 (by decide) ?_
        exact v_sub [0, 1, 2, 3, 4] rfl (ih v x1 (x2 + ((zgt v.2.2.2.2.2.2.2.1 (14 + x4)) + (zgt v.2.2.2.2.2.2.2.1 (24 + x4)))) 0 (x4 + (-1)) _ hf kx)
      · replace hf := zf c4 hf
        refine v_aload_n h dX7_hot_71 0 rfl 72 rfl ?_
        refine v_get h (v := .ref (ad 5)) dX7_hot_72 iX7_hot_X7 0 rfl rfl 7 (by decide) (zwi 1 rfl) rfl 75 rfl ?_
        refine v_bipush h dX7_hot_75 24 rfl 77 rfl ?_
        refine v_iload h dX7_hot_77 4 rfl 79 rfl ?_
        refine v_iadd h dX7_hot_79 80 rfl ?_
        refine v_iald h (f := v.2.2.2.2.2.2.2.1) dX7_hot_80 5 0 rfl rfl (zix_in g3) 81 rfl ?_
        refine v_bipush h dX7_hot_81 7 rfl 83 rfl ?_
        refine v_icmp_ge h dX7_hot_83 90 (by decide) 86 rfl (fun c5 => ?_) (fun c5 => ?_)
        · replace hf := zt c5 hf
          refine v_iconst h dX7_hot_90 0 rfl 91 rfl ?_
          refine v_istore_n h dX7_hot_91 (Nat.le_of_ble_eq_true rfl) rfl rfl [(0, .ref (ad 0)), (1, .int x1), (2, .int (x2 + ((zgt v.2.2.2.2.2.2.2.1 (14 + x4)) + (zgt v.2.2.2.2.2.2.2.1 (24 + x4))))), (3, .int 0), (4, .int x4)] rfl 92 rfl ?_
          refine v_iinc h dX7_hot_92 4 rfl (x4 + (-1)) rfl (Nat.le_of_ble_eq_true rfl) rfl rfl [(0, .ref (ad 0)), (1, .int x1), (2, .int (x2 + ((zgt v.2.2.2.2.2.2.2.1 (14 + x4)) + (zgt v.2.2.2.2.2.2.2.1 (24 + x4))))), (3, .int 0), (4, .int (x4 + (-1)))] rfl 95 rfl ?_
          refine v_goto h dX7_hot_95 30 (by decide) ?_
          exact v_sub [0, 1, 2, 3, 4] rfl (ih v x1 (x2 + ((zgt v.2.2.2.2.2.2.2.1 (14 + x4)) + (zgt v.2.2.2.2.2.2.2.1 (24 + x4)))) 0 (x4 + (-1)) _ hf kx)
        · replace hf := zf c5 hf
          refine v_iconst h dX7_hot_86 1 rfl 87 rfl ?_
          refine v_goto h dX7_hot_87 91 (by decide) ?_
          refine v_istore_n h dX7_hot_91 (Nat.le_of_ble_eq_true rfl) rfl rfl [(0, .ref (ad 0)), (1, .int x1), (2, .int (x2 + ((zgt v.2.2.2.2.2.2.2.1 (14 + x4)) + (zgt v.2.2.2.2.2.2.2.1 (24 + x4))))), (3, .int 1), (4, .int x4)] rfl 92 rfl ?_
          refine v_iinc h dX7_hot_92 4 rfl (x4 + (-1)) rfl (Nat.le_of_ble_eq_true rfl) rfl rfl [(0, .ref (ad 0)), (1, .int x1), (2, .int (x2 + ((zgt v.2.2.2.2.2.2.2.1 (14 + x4)) + (zgt v.2.2.2.2.2.2.2.1 (24 + x4))))), (3, .int 1), (4, .int (x4 + (-1)))] rfl 95 rfl ?_
          refine v_goto h dX7_hot_95 30 (by decide) ?_
          exact v_sub [0, 1, 2, 3, 4] rfl (ih v x1 (x2 + ((zgt v.2.2.2.2.2.2.2.1 (14 + x4)) + (zgt v.2.2.2.2.2.2.2.1 (24 + x4)))) 1 (x4 + (-1)) _ hf kx)
def fX7_hot (v : MV) (x1 : Int32) : Option Int32 := ((fX7_in x1 1 (zgt v.2.2.2.2.2.2.2.1 3)) : Option Int32).bind (fun u1 => if u1 = 0 then (some (-1)) else (((fX7_hot_L30 zF v x1 0 1 ((zgt v.2.2.2.2.2.2.2.1 3) - 1)) : Option (Int32 × Int32)).bind (fun u3 => if u3.2 = 0 then (some (-4)) else (if 999 < u3.1 then (some (-4)) else (some u3.1)))))
set_option maxRecDepth 100000 in
set_option maxHeartbeats 4000000 in
theorem tX7_hot (l : Launch) (G : va_G) (ca : Nat → ClassId) (ad : Nat → Nat) (v : MV) (x1 : Int32) {o : Int32} (hf : fX7_hot v x1 = some o) : zMi l yX7_hot wsX7_hot rX7_hot G ca [.ref (ad 0), .int x1] (wM ca ad v) o (wM ca ad v) := by
  refine zMi.of (cc := cX7_hot) (nL := 5) (own := RX7) (ty := .int) (by decide) rfl rfl (Nat.le_of_ble_eq_true rfl) (fun X h hE => ?_)
  show V X G 5 0 0 (wM ca ad v) 0 [(0, .ref (ad 0)), (1, .int x1)] []
  unfold fX7_hot at hf
  refine v_iload_n h dX7_hot_0 1 rfl 1 rfl ?_
  refine v_iconst h dX7_hot_1 1 rfl 2 rfl ?_
  refine v_aload_n h dX7_hot_2 0 rfl 3 rfl ?_
  refine v_get h (v := .ref (ad 5)) dX7_hot_3 iX7_hot_X7 0 rfl rfl 7 (by decide) (zwi 1 rfl) rfl 6 rfl ?_
  refine v_iconst h dX7_hot_6 3 rfl 7 rfl ?_
  refine v_iald h (f := v.2.2.2.2.2.2.2.1) dX7_hot_7 5 0 rfl rfl zi_3_407 8 rfl ?_
  obtain ⟨u1, hu1, hf⟩ := zb hf
  refine v_callSi h (rest := []) dX7_hot_8 (tX7_in l G ca   x1 1 (zgt v.2.2.2.2.2.2.2.1 3) hu1) gX7_hot_X7_in rfl ⟨rfl, rfl⟩ nX7_in ⟨Nat.le_of_ble_eq_true rfl, Nat.le_of_ble_eq_true rfl⟩ [] rfl rfl rfl rfl (Nat.le_of_ble_eq_true rfl) ⟨Nat.zero_le _, Nat.zero_le _⟩ rfl (wM ca ad v) rfl (wM_adr _ _ _ _) 11 rfl ?_
  refine v_if_ne h dX7_hot_11 16 (by decide) 14 rfl (fun c2 => ?_) (fun c2 => ?_)
  · replace hf := zf c2 hf
    refine v_iconst h dX7_hot_16 0 rfl 17 rfl ?_
    refine v_istore_n h dX7_hot_17 (Nat.le_of_ble_eq_true rfl) rfl rfl [(0, .ref (ad 0)), (1, .int x1), (2, .int 0)] rfl 18 rfl ?_
    refine v_iconst h dX7_hot_18 1 rfl 19 rfl ?_
    refine v_istore_n h dX7_hot_19 (Nat.le_of_ble_eq_true rfl) rfl rfl [(0, .ref (ad 0)), (1, .int x1), (2, .int 0), (3, .int 1)] rfl 20 rfl ?_
    refine v_aload_n h dX7_hot_20 0 rfl 21 rfl ?_
    refine v_get h (v := .ref (ad 5)) dX7_hot_21 iX7_hot_X7 0 rfl rfl 7 (by decide) (zwi 1 rfl) rfl 24 rfl ?_
    refine v_iconst h dX7_hot_24 3 rfl 25 rfl ?_
    refine v_iald h (f := v.2.2.2.2.2.2.2.1) dX7_hot_25 5 0 rfl rfl zi_3_407 26 rfl ?_
    refine v_iconst h dX7_hot_26 1 rfl 27 rfl ?_
    refine v_isub h dX7_hot_27 28 rfl ?_
    refine v_istore h dX7_hot_28 (Nat.le_of_ble_eq_true rfl) rfl rfl [(0, .ref (ad 0)), (1, .int x1), (2, .int 0), (3, .int 1), (4, .int ((zgt v.2.2.2.2.2.2.2.1 3) - 1))] rfl 30 rfl ?_
    obtain ⟨u3, hu3, hf⟩ := zb hf
    refine v_sub [0, 1, 2, 3, 4] rfl ?_
    refine tX7_hot_l30 h zF v x1 0 1 ((zgt v.2.2.2.2.2.2.2.1 3) - 1) _ hu3 ?_
    refine v_iload_n h dX7_hot_98 1 rfl 99 rfl ?_
    refine v_if_eq h dX7_hot_99 113 (by decide) 102 rfl (fun c4 => ?_) (fun c4 => ?_)
    · replace hf := zt c4 hf
      refine v_bipush h dX7_hot_113 (-4) rfl 115 rfl ?_
      cases (Option.some.inj hf)
      exact hE 115 _ rfl dX7_hot_115
    · replace hf := zf c4 hf
      refine v_iload_n h dX7_hot_102 0 rfl 103 rfl ?_
      refine v_sipush h dX7_hot_103 999 rfl 106 rfl ?_
      refine v_icmp_gt h dX7_hot_106 113 (by decide) 109 rfl (fun c5 => ?_) (fun c5 => ?_)
      · replace hf := zt c5 hf
        refine v_bipush h dX7_hot_113 (-4) rfl 115 rfl ?_
        cases (Option.some.inj hf)
        exact hE 115 _ rfl dX7_hot_115
      · replace hf := zf c5 hf
        refine v_iload_n h dX7_hot_109 0 rfl 110 rfl ?_
        refine v_goto h dX7_hot_110 115 (by decide) ?_
        cases (Option.some.inj hf)
        exact hE 115 _ rfl dX7_hot_115
  · replace hf := zt c2 hf
    refine v_iconst h dX7_hot_14 (-1) rfl 15 rfl ?_
    cases (Option.some.inj hf)
    exact hE 15 _ rfl dX7_hot_15
abbrev rX7_bursts : Room := { frames := 3, cells := 0, slots := 0, locals := 73 }
theorem nX7_bursts : zNoMH yX7_bursts 3 := ⟨by decide +kernel, by decide +kernel, by decide +kernel⟩
theorem iX7_bursts_X7 : ∀ w ∈ wsX70, w ∈ wsX7_bursts := fun _ h => (List.mem_cons_of_mem _ (List.mem_append_right _ h))
def fX7_bursts_L40 : Nat → MV → Int32 → Int32 → Int32 → Int32 → Int32 → Int32 → Option Int32
  | 0, _, _, _, _, _, _, _ => none
  | n + 1, v, x1, x2, x3, x4, x5, x6 => if x1 ≤ x6 then (some x5) else (fX7_bursts_L40 n v x1 x2 x3 x4 (x5 * 10) (x6 + 1))
set_option maxRecDepth 100000 in
set_option maxHeartbeats 4000000 in
theorem tX7_bursts_l40 {X : zX} {l : Launch} {G : va_G} {ca : Nat → ClassId} {ad : Nat → Nat} (h : zOk X l G ca cX7_bursts RX7 wsX7_bursts 11 rX7_bursts) : ∀ (n : Nat) (v : MV) (x1 : Int32) (x2 : Int32) (x3 : Int32) (x4 : Int32) (x5 : Int32) (x6 : Int32) (out : Int32), fX7_bursts_L40 n v x1 x2 x3 x4 x5 x6 = some out → (V X G 11 0 0 (wM ca ad v) 59 [(0, .ref (ad 0)), (1, .int x1), (2, .int x2), (3, .int x3), (4, .int x4), (5, .int out)] []) → V X G 11 0 0 (wM ca ad v) 40 [(0, .ref (ad 0)), (1, .int x1), (2, .int x2), (3, .int x3), (4, .int x4), (5, .int x5), (6, .int x6)] [] := by
  intro n
  induction n with
  | zero => intro v x1 x2 x3 x4 x5 x6 out hf; rw [fX7_bursts_L40] at hf; cases hf
  | succ n ih =>
    intro v x1 x2 x3 x4 x5 x6 out hf kx
    rw [fX7_bursts_L40] at hf
    refine v_iload h dX7_bursts_40 6 rfl 42 rfl ?_
    refine v_iload_n h dX7_bursts_42 1 rfl 43 rfl ?_
    refine v_icmp_ge h dX7_bursts_43 59 (by decide) 46 rfl (fun c1 => ?_) (fun c1 => ?_)
    · replace hf := zt c1 hf
      cases (Option.some.inj hf)
      exact v_sub [0, 1, 2, 3, 4, 5] rfl (kx)
    · replace hf := zf c1 hf
      refine v_iload h dX7_bursts_46 5 rfl 48 rfl ?_
      refine v_bipush h dX7_bursts_48 10 rfl 50 rfl ?_
      refine v_imul h dX7_bursts_50 51 rfl ?_
      refine v_istore h dX7_bursts_51 (Nat.le_of_ble_eq_true rfl) rfl rfl [(0, .ref (ad 0)), (1, .int x1), (2, .int x2), (3, .int x3), (4, .int x4), (5, .int (x5 * 10)), (6, .int x6)] rfl 53 rfl ?_
      refine v_iinc h dX7_bursts_53 6 rfl (x6 + 1) rfl (Nat.le_of_ble_eq_true rfl) rfl rfl [(0, .ref (ad 0)), (1, .int x1), (2, .int x2), (3, .int x3), (4, .int x4), (5, .int (x5 * 10)), (6, .int (x6 + 1))] rfl 56 rfl ?_
      refine v_goto h dX7_bursts_56 40 (by decide) ?_
      exact v_sub [0, 1, 2, 3, 4, 5, 6] rfl (ih v x1 x2 x3 x4 (x5 * 10) (x6 + 1) _ hf kx)
def fX7_bursts_L83 : Nat → MV → Int32 → Int32 → Int32 → Int32 → Int32 → Int32 → Int32 → Int32 → Int32 → zAI → zAI → Option (Int32 × Int32 × zAI × zAI)
  | 0, _, _, _, _, _, _, _, _, _, _, _, _ => none
  | n + 1, v, x1, x2, x3, x4, x5, x6, x7, x8, x9, m8, m12 => if x1 ≤ x9 then (some (x7, x8, m8, m12)) else (((fX7_has x6 x9) : Option Int32).bind (fun u2 => if u2 = 0 then (((fX7_rainIn m8 (zgt m8 0)) : Option Int32).bind (fun u4 => ((fX7_has x6 x9) : Option Int32).bind (fun u5 => if u5 = 0 then (((fX7_yearBy m12 m8 u4) : Option (Int32 × zAI × zAI)).bind (fun u7 => fX7_bursts_L83 n v x1 x2 x3 x4 x5 x6 (x7 * (10 - x2)) (x8 + u7.1) (x9 + 1) u7.2.2 u7.2.1)) else (((fX7_yearBy m12 m8 (2 * u4)) : Option (Int32 × zAI × zAI)).bind (fun u8 => fX7_bursts_L83 n v x1 x2 x3 x4 x5 x6 (x7 * (10 - x2)) (x8 + u8.1) (x9 + 1) u8.2.2 u8.2.1))))) else (((fX7_rainIn m8 (zgt m8 0)) : Option Int32).bind (fun u9 => ((fX7_has x6 x9) : Option Int32).bind (fun u10 => if u10 = 0 then (((fX7_yearBy m12 m8 u9) : Option (Int32 × zAI × zAI)).bind (fun u12 => fX7_bursts_L83 n v x1 x2 x3 x4 x5 x6 (x7 * x2) (x8 + u12.1) (x9 + 1) u12.2.2 u12.2.1)) else (((fX7_yearBy m12 m8 (2 * u9)) : Option (Int32 × zAI × zAI)).bind (fun u13 => fX7_bursts_L83 n v x1 x2 x3 x4 x5 x6 (x7 * x2) (x8 + u13.1) (x9 + 1) u13.2.2 u13.2.1)))))))
set_option maxRecDepth 100000 in
set_option maxHeartbeats 4000000 in
theorem tX7_bursts_l83 {X : zX} {l : Launch} {G : va_G} {ca : Nat → ClassId} {ad : Nat → Nat} (h : zOk X l G ca cX7_bursts RX7 wsX7_bursts 11 rX7_bursts) : ∀ (n : Nat) (v : MV) (x1 : Int32) (x2 : Int32) (x3 : Int32) (x4 : Int32) (x5 : Int32) (x6 : Int32) (x7 : Int32) (x8 : Int32) (x9 : Int32) (m8 : zAI) (m12 : zAI) (out : (Int32 × Int32 × zAI × zAI)), fX7_bursts_L83 n v x1 x2 x3 x4 x5 x6 x7 x8 x9 m8 m12 = some out → (V X G 11 0 0 (wM ca ad (v.1, v.2.1, v.2.2.1, v.2.2.2.1, v.2.2.2.2.1, v.2.2.2.2.2.1, v.2.2.2.2.2.2.1, v.2.2.2.2.2.2.2.1, out.2.2.1, v.2.2.2.2.2.2.2.2.2.1, v.2.2.2.2.2.2.2.2.2.2.1, v.2.2.2.2.2.2.2.2.2.2.2.1, out.2.2.2, v.2.2.2.2.2.2.2.2.2.2.2.2.2)) 165 [(0, .ref (ad 0)), (1, .int x1), (2, .int x2), (3, .int x3), (4, .int x4), (5, .int x5), (6, .int x6), (7, .int out.1), (8, .int out.2.1)] []) → V X G 11 0 0 (wM ca ad (v.1, v.2.1, v.2.2.1, v.2.2.2.1, v.2.2.2.2.1, v.2.2.2.2.2.1, v.2.2.2.2.2.2.1, v.2.2.2.2.2.2.2.1, m8, v.2.2.2.2.2.2.2.2.2.1, v.2.2.2.2.2.2.2.2.2.2.1, v.2.2.2.2.2.2.2.2.2.2.2.1, m12, v.2.2.2.2.2.2.2.2.2.2.2.2.2)) 83 [(0, .ref (ad 0)), (1, .int x1), (2, .int x2), (3, .int x3), (4, .int x4), (5, .int x5), (6, .int x6), (7, .int x7), (8, .int x8), (9, .int x9)] [] := by
  intro n
  induction n with
  | zero => intro v x1 x2 x3 x4 x5 x6 x7 x8 x9 m8 m12 out hf; rw [fX7_bursts_L83] at hf; cases hf
  | succ n ih =>
    intro v x1 x2 x3 x4 x5 x6 x7 x8 x9 m8 m12 out hf kx
    rw [fX7_bursts_L83] at hf
    refine v_iload h dX7_bursts_83 9 rfl 85 rfl ?_
    refine v_iload_n h dX7_bursts_85 1 rfl 86 rfl ?_
    refine v_icmp_ge h dX7_bursts_86 165 (by decide) 89 rfl (fun c1 => ?_) (fun c1 => ?_)
    · replace hf := zt c1 hf
      cases (Option.some.inj hf)
      exact v_sub [0, 1, 2, 3, 4, 5, 6, 7, 8] rfl (kx)
    · replace hf := zf c1 hf
      refine v_iload h dX7_bursts_89 7 rfl 91 rfl ?_
      refine v_iload h dX7_bursts_91 6 rfl 93 rfl ?_
      refine v_iload h dX7_bursts_93 9 rfl 95 rfl ?_
      obtain ⟨u2, hu2, hf⟩ := zb hf
      refine v_callSi h (rest := [.int x7]) dX7_bursts_95 (tX7_has l G ca   x6 x9 hu2) gX7_bursts_X7_has rfl ⟨rfl, rfl⟩ nX7_has ⟨Nat.le_of_ble_eq_true rfl, Nat.le_of_ble_eq_true rfl⟩ [] rfl rfl rfl rfl (Nat.le_of_ble_eq_true rfl) ⟨Nat.zero_le _, Nat.zero_le _⟩ rfl (wM ca ad (v.1, v.2.1, v.2.2.1, v.2.2.2.1, v.2.2.2.2.1, v.2.2.2.2.2.1, v.2.2.2.2.2.2.1, v.2.2.2.2.2.2.2.1, m8, v.2.2.2.2.2.2.2.2.2.1, v.2.2.2.2.2.2.2.2.2.2.1, v.2.2.2.2.2.2.2.2.2.2.2.1, m12, v.2.2.2.2.2.2.2.2.2.2.2.2.2)) rfl (wM_adr _ _ _ _) 98 rfl ?_
      refine v_if_eq h dX7_bursts_98 105 (by decide) 101 rfl (fun c3 => ?_) (fun c3 => ?_)
      · replace hf := zt c3 hf
        refine v_bipush h dX7_bursts_105 10 rfl 107 rfl ?_
        refine v_iload_n h dX7_bursts_107 2 rfl 108 rfl ?_
        refine v_isub h dX7_bursts_108 109 rfl ?_
        refine v_imul h dX7_bursts_109 110 rfl ?_
        refine v_istore h dX7_bursts_110 (Nat.le_of_ble_eq_true rfl) rfl rfl [(0, .ref (ad 0)), (1, .int x1), (2, .int x2), (3, .int x3), (4, .int x4), (5, .int x5), (6, .int x6), (7, .int (x7 * (10 - x2))), (8, .int x8), (9, .int x9)] rfl 112 rfl ?_
        refine v_aload_n h dX7_bursts_112 0 rfl 113 rfl ?_
        refine v_get h (v := .ref (ad 6)) dX7_bursts_113 iX7_bursts_X7 0 rfl rfl 8 (by decide) (zwi 1 rfl) rfl 116 rfl ?_
        refine v_aload_n h dX7_bursts_116 0 rfl 117 rfl ?_
        refine v_get h (v := .ref (ad 6)) dX7_bursts_117 iX7_bursts_X7 0 rfl rfl 8 (by decide) (zwi 1 rfl) rfl 120 rfl ?_
        refine v_iconst h dX7_bursts_120 0 rfl 121 rfl ?_
        refine v_iald h (f := m8) dX7_bursts_121 6 0 rfl rfl zi_0_407 122 rfl ?_
        obtain ⟨u4, hu4, hf⟩ := zb hf
        refine v_callSi h (rest := []) dX7_bursts_122 (tX7_rainIn l G ca (ad 6) m8 (zgt m8 0) hu4) gX7_bursts_X7_rainIn rfl ⟨rfl, rfl⟩ nX7_rainIn ⟨Nat.le_of_ble_eq_true rfl, Nat.le_of_ble_eq_true rfl⟩ [6] rfl rfl rfl rfl (Nat.le_of_ble_eq_true rfl) ⟨Nat.zero_le _, Nat.zero_le _⟩ rfl (wM ca ad (v.1, v.2.1, v.2.2.1, v.2.2.2.1, v.2.2.2.2.1, v.2.2.2.2.2.1, v.2.2.2.2.2.2.1, v.2.2.2.2.2.2.2.1, m8, v.2.2.2.2.2.2.2.2.2.1, v.2.2.2.2.2.2.2.2.2.2.1, v.2.2.2.2.2.2.2.2.2.2.2.1, m12, v.2.2.2.2.2.2.2.2.2.2.2.2.2)) rfl (wM_adr _ _ _ _) 125 rfl ?_
        refine v_istore h dX7_bursts_125 (Nat.le_of_ble_eq_true rfl) rfl rfl [(0, .ref (ad 0)), (1, .int x1), (2, .int x2), (3, .int x3), (4, .int x4), (5, .int x5), (6, .int x6), (7, .int (x7 * (10 - x2))), (8, .int x8), (9, .int x9), (10, .int u4)] rfl 127 rfl ?_
        refine v_iload h dX7_bursts_127 8 rfl 129 rfl ?_
        refine v_aload_n h dX7_bursts_129 0 rfl 130 rfl ?_
        refine v_aload_n h dX7_bursts_130 0 rfl 131 rfl ?_
        refine v_get h (v := .ref (ad 6)) dX7_bursts_131 iX7_bursts_X7 0 rfl rfl 8 (by decide) (zwi 1 rfl) rfl 134 rfl ?_
        refine v_iload h dX7_bursts_134 6 rfl 136 rfl ?_
        refine v_iload h dX7_bursts_136 9 rfl 138 rfl ?_
        obtain ⟨u5, hu5, hf⟩ := zb hf
        refine v_callSi h (rest := [.ref (ad 6), .ref (ad 0), .int x8]) dX7_bursts_138 (tX7_has l G ca   x6 x9 hu5) gX7_bursts_X7_has rfl ⟨rfl, rfl⟩ nX7_has ⟨Nat.le_of_ble_eq_true rfl, Nat.le_of_ble_eq_true rfl⟩ [] rfl rfl rfl rfl (Nat.le_of_ble_eq_true rfl) ⟨Nat.zero_le _, Nat.zero_le _⟩ rfl (wM ca ad (v.1, v.2.1, v.2.2.1, v.2.2.2.1, v.2.2.2.2.1, v.2.2.2.2.2.1, v.2.2.2.2.2.2.1, v.2.2.2.2.2.2.2.1, m8, v.2.2.2.2.2.2.2.2.2.1, v.2.2.2.2.2.2.2.2.2.2.1, v.2.2.2.2.2.2.2.2.2.2.2.1, m12, v.2.2.2.2.2.2.2.2.2.2.2.2.2)) rfl (wM_adr _ _ _ _) 141 rfl ?_
        refine v_if_eq h dX7_bursts_141 151 (by decide) 144 rfl (fun c6 => ?_) (fun c6 => ?_)
        · replace hf := zt c6 hf
          refine v_iload h dX7_bursts_151 10 rfl 153 rfl ?_
          obtain ⟨u7, hu7, hf⟩ := zb hf
          refine v_callVi h (rest := [.int x8]) dX7_bursts_153 (tX7_yearBy l G ca ad (ad 6) (v.1, v.2.1, v.2.2.1, v.2.2.2.1, v.2.2.2.2.1, v.2.2.2.2.2.1, v.2.2.2.2.2.2.1, v.2.2.2.2.2.2.2.1, m8, v.2.2.2.2.2.2.2.2.2.1, v.2.2.2.2.2.2.2.2.2.2.1, v.2.2.2.2.2.2.2.2.2.2.2.1, m12, v.2.2.2.2.2.2.2.2.2.2.2.2.2) m12 m8 u4 hu7) gX7_bursts_X7_yearBy rfl rfl ⟨rfl, rfl⟩ nX7_yearBy ⟨Nat.le_of_ble_eq_true rfl, Nat.le_of_ble_eq_true rfl⟩ [0, 9, 6] rfl rfl 0 rfl rfl rfl rfl (Nat.le_of_ble_eq_true rfl) ⟨Nat.zero_le _, Nat.zero_le _⟩ rfl (wM ca ad (v.1, v.2.1, v.2.2.1, v.2.2.2.1, v.2.2.2.2.1, v.2.2.2.2.2.1, v.2.2.2.2.2.2.1, v.2.2.2.2.2.2.2.1, u7.2.2, v.2.2.2.2.2.2.2.2.2.1, v.2.2.2.2.2.2.2.2.2.2.1, v.2.2.2.2.2.2.2.2.2.2.2.1, u7.2.1, v.2.2.2.2.2.2.2.2.2.2.2.2.2)) rfl (wM_adr _ _ _ _) 156 rfl ?_
          refine v_iadd h dX7_bursts_156 157 rfl ?_
          refine v_istore h dX7_bursts_157 (Nat.le_of_ble_eq_true rfl) rfl rfl [(0, .ref (ad 0)), (1, .int x1), (2, .int x2), (3, .int x3), (4, .int x4), (5, .int x5), (6, .int x6), (7, .int (x7 * (10 - x2))), (8, .int (x8 + u7.1)), (9, .int x9), (10, .int u4)] rfl 159 rfl ?_
          refine v_iinc h dX7_bursts_159 9 rfl (x9 + 1) rfl (Nat.le_of_ble_eq_true rfl) rfl rfl [(0, .ref (ad 0)), (1, .int x1), (2, .int x2), (3, .int x3), (4, .int x4), (5, .int x5), (6, .int x6), (7, .int (x7 * (10 - x2))), (8, .int (x8 + u7.1)), (9, .int (x9 + 1)), (10, .int u4)] rfl 162 rfl ?_
          refine v_goto h dX7_bursts_162 83 (by decide) ?_
          exact v_sub [0, 1, 2, 3, 4, 5, 6, 7, 8, 9] rfl (ih v x1 x2 x3 x4 x5 x6 (x7 * (10 - x2)) (x8 + u7.1) (x9 + 1) u7.2.2 u7.2.1 _ hf kx)
        · replace hf := zf c6 hf
          refine v_iconst h dX7_bursts_144 2 rfl 145 rfl ?_
          refine v_iload h dX7_bursts_145 10 rfl 147 rfl ?_
          refine v_imul h dX7_bursts_147 148 rfl ?_
          refine v_goto h dX7_bursts_148 153 (by decide) ?_
          obtain ⟨u8, hu8, hf⟩ := zb hf
          refine v_callVi h (rest := [.int x8]) dX7_bursts_153 (tX7_yearBy l G ca ad (ad 6) (v.1, v.2.1, v.2.2.1, v.2.2.2.1, v.2.2.2.2.1, v.2.2.2.2.2.1, v.2.2.2.2.2.2.1, v.2.2.2.2.2.2.2.1, m8, v.2.2.2.2.2.2.2.2.2.1, v.2.2.2.2.2.2.2.2.2.2.1, v.2.2.2.2.2.2.2.2.2.2.2.1, m12, v.2.2.2.2.2.2.2.2.2.2.2.2.2) m12 m8 (2 * u4) hu8) gX7_bursts_X7_yearBy rfl rfl ⟨rfl, rfl⟩ nX7_yearBy ⟨Nat.le_of_ble_eq_true rfl, Nat.le_of_ble_eq_true rfl⟩ [0, 9, 6] rfl rfl 0 rfl rfl rfl rfl (Nat.le_of_ble_eq_true rfl) ⟨Nat.zero_le _, Nat.zero_le _⟩ rfl (wM ca ad (v.1, v.2.1, v.2.2.1, v.2.2.2.1, v.2.2.2.2.1, v.2.2.2.2.2.1, v.2.2.2.2.2.2.1, v.2.2.2.2.2.2.2.1, u8.2.2, v.2.2.2.2.2.2.2.2.2.1, v.2.2.2.2.2.2.2.2.2.2.1, v.2.2.2.2.2.2.2.2.2.2.2.1, u8.2.1, v.2.2.2.2.2.2.2.2.2.2.2.2.2)) rfl (wM_adr _ _ _ _) 156 rfl ?_
          refine v_iadd h dX7_bursts_156 157 rfl ?_
          refine v_istore h dX7_bursts_157 (Nat.le_of_ble_eq_true rfl) rfl rfl [(0, .ref (ad 0)), (1, .int x1), (2, .int x2), (3, .int x3), (4, .int x4), (5, .int x5), (6, .int x6), (7, .int (x7 * (10 - x2))), (8, .int (x8 + u8.1)), (9, .int x9), (10, .int u4)] rfl 159 rfl ?_
          refine v_iinc h dX7_bursts_159 9 rfl (x9 + 1) rfl (Nat.le_of_ble_eq_true rfl) rfl rfl [(0, .ref (ad 0)), (1, .int x1), (2, .int x2), (3, .int x3), (4, .int x4), (5, .int x5), (6, .int x6), (7, .int (x7 * (10 - x2))), (8, .int (x8 + u8.1)), (9, .int (x9 + 1)), (10, .int u4)] rfl 162 rfl ?_
          refine v_goto h dX7_bursts_162 83 (by decide) ?_
          exact v_sub [0, 1, 2, 3, 4, 5, 6, 7, 8, 9] rfl (ih v x1 x2 x3 x4 x5 x6 (x7 * (10 - x2)) (x8 + u8.1) (x9 + 1) u8.2.2 u8.2.1 _ hf kx)
      · replace hf := zf c3 hf
        refine v_iload_n h dX7_bursts_101 2 rfl 102 rfl ?_
        refine v_goto h dX7_bursts_102 109 (by decide) ?_
        refine v_imul h dX7_bursts_109 110 rfl ?_
        refine v_istore h dX7_bursts_110 (Nat.le_of_ble_eq_true rfl) rfl rfl [(0, .ref (ad 0)), (1, .int x1), (2, .int x2), (3, .int x3), (4, .int x4), (5, .int x5), (6, .int x6), (7, .int (x7 * x2)), (8, .int x8), (9, .int x9)] rfl 112 rfl ?_
        refine v_aload_n h dX7_bursts_112 0 rfl 113 rfl ?_
        refine v_get h (v := .ref (ad 6)) dX7_bursts_113 iX7_bursts_X7 0 rfl rfl 8 (by decide) (zwi 1 rfl) rfl 116 rfl ?_
        refine v_aload_n h dX7_bursts_116 0 rfl 117 rfl ?_
        refine v_get h (v := .ref (ad 6)) dX7_bursts_117 iX7_bursts_X7 0 rfl rfl 8 (by decide) (zwi 1 rfl) rfl 120 rfl ?_
        refine v_iconst h dX7_bursts_120 0 rfl 121 rfl ?_
        refine v_iald h (f := m8) dX7_bursts_121 6 0 rfl rfl zi_0_407 122 rfl ?_
        obtain ⟨u9, hu9, hf⟩ := zb hf
        refine v_callSi h (rest := []) dX7_bursts_122 (tX7_rainIn l G ca (ad 6) m8 (zgt m8 0) hu9) gX7_bursts_X7_rainIn rfl ⟨rfl, rfl⟩ nX7_rainIn ⟨Nat.le_of_ble_eq_true rfl, Nat.le_of_ble_eq_true rfl⟩ [6] rfl rfl rfl rfl (Nat.le_of_ble_eq_true rfl) ⟨Nat.zero_le _, Nat.zero_le _⟩ rfl (wM ca ad (v.1, v.2.1, v.2.2.1, v.2.2.2.1, v.2.2.2.2.1, v.2.2.2.2.2.1, v.2.2.2.2.2.2.1, v.2.2.2.2.2.2.2.1, m8, v.2.2.2.2.2.2.2.2.2.1, v.2.2.2.2.2.2.2.2.2.2.1, v.2.2.2.2.2.2.2.2.2.2.2.1, m12, v.2.2.2.2.2.2.2.2.2.2.2.2.2)) rfl (wM_adr _ _ _ _) 125 rfl ?_
        refine v_istore h dX7_bursts_125 (Nat.le_of_ble_eq_true rfl) rfl rfl [(0, .ref (ad 0)), (1, .int x1), (2, .int x2), (3, .int x3), (4, .int x4), (5, .int x5), (6, .int x6), (7, .int (x7 * x2)), (8, .int x8), (9, .int x9), (10, .int u9)] rfl 127 rfl ?_
        refine v_iload h dX7_bursts_127 8 rfl 129 rfl ?_
        refine v_aload_n h dX7_bursts_129 0 rfl 130 rfl ?_
        refine v_aload_n h dX7_bursts_130 0 rfl 131 rfl ?_
        refine v_get h (v := .ref (ad 6)) dX7_bursts_131 iX7_bursts_X7 0 rfl rfl 8 (by decide) (zwi 1 rfl) rfl 134 rfl ?_
        refine v_iload h dX7_bursts_134 6 rfl 136 rfl ?_
        refine v_iload h dX7_bursts_136 9 rfl 138 rfl ?_
        obtain ⟨u10, hu10, hf⟩ := zb hf
        refine v_callSi h (rest := [.ref (ad 6), .ref (ad 0), .int x8]) dX7_bursts_138 (tX7_has l G ca   x6 x9 hu10) gX7_bursts_X7_has rfl ⟨rfl, rfl⟩ nX7_has ⟨Nat.le_of_ble_eq_true rfl, Nat.le_of_ble_eq_true rfl⟩ [] rfl rfl rfl rfl (Nat.le_of_ble_eq_true rfl) ⟨Nat.zero_le _, Nat.zero_le _⟩ rfl (wM ca ad (v.1, v.2.1, v.2.2.1, v.2.2.2.1, v.2.2.2.2.1, v.2.2.2.2.2.1, v.2.2.2.2.2.2.1, v.2.2.2.2.2.2.2.1, m8, v.2.2.2.2.2.2.2.2.2.1, v.2.2.2.2.2.2.2.2.2.2.1, v.2.2.2.2.2.2.2.2.2.2.2.1, m12, v.2.2.2.2.2.2.2.2.2.2.2.2.2)) rfl (wM_adr _ _ _ _) 141 rfl ?_
        refine v_if_eq h dX7_bursts_141 151 (by decide) 144 rfl (fun c11 => ?_) (fun c11 => ?_)
        · replace hf := zt c11 hf
          refine v_iload h dX7_bursts_151 10 rfl 153 rfl ?_
          obtain ⟨u12, hu12, hf⟩ := zb hf
          refine v_callVi h (rest := [.int x8]) dX7_bursts_153 (tX7_yearBy l G ca ad (ad 6) (v.1, v.2.1, v.2.2.1, v.2.2.2.1, v.2.2.2.2.1, v.2.2.2.2.2.1, v.2.2.2.2.2.2.1, v.2.2.2.2.2.2.2.1, m8, v.2.2.2.2.2.2.2.2.2.1, v.2.2.2.2.2.2.2.2.2.2.1, v.2.2.2.2.2.2.2.2.2.2.2.1, m12, v.2.2.2.2.2.2.2.2.2.2.2.2.2) m12 m8 u9 hu12) gX7_bursts_X7_yearBy rfl rfl ⟨rfl, rfl⟩ nX7_yearBy ⟨Nat.le_of_ble_eq_true rfl, Nat.le_of_ble_eq_true rfl⟩ [0, 9, 6] rfl rfl 0 rfl rfl rfl rfl (Nat.le_of_ble_eq_true rfl) ⟨Nat.zero_le _, Nat.zero_le _⟩ rfl (wM ca ad (v.1, v.2.1, v.2.2.1, v.2.2.2.1, v.2.2.2.2.1, v.2.2.2.2.2.1, v.2.2.2.2.2.2.1, v.2.2.2.2.2.2.2.1, u12.2.2, v.2.2.2.2.2.2.2.2.2.1, v.2.2.2.2.2.2.2.2.2.2.1, v.2.2.2.2.2.2.2.2.2.2.2.1, u12.2.1, v.2.2.2.2.2.2.2.2.2.2.2.2.2)) rfl (wM_adr _ _ _ _) 156 rfl ?_
          refine v_iadd h dX7_bursts_156 157 rfl ?_
          refine v_istore h dX7_bursts_157 (Nat.le_of_ble_eq_true rfl) rfl rfl [(0, .ref (ad 0)), (1, .int x1), (2, .int x2), (3, .int x3), (4, .int x4), (5, .int x5), (6, .int x6), (7, .int (x7 * x2)), (8, .int (x8 + u12.1)), (9, .int x9), (10, .int u9)] rfl 159 rfl ?_
          refine v_iinc h dX7_bursts_159 9 rfl (x9 + 1) rfl (Nat.le_of_ble_eq_true rfl) rfl rfl [(0, .ref (ad 0)), (1, .int x1), (2, .int x2), (3, .int x3), (4, .int x4), (5, .int x5), (6, .int x6), (7, .int (x7 * x2)), (8, .int (x8 + u12.1)), (9, .int (x9 + 1)), (10, .int u9)] rfl 162 rfl ?_
          refine v_goto h dX7_bursts_162 83 (by decide) ?_
          exact v_sub [0, 1, 2, 3, 4, 5, 6, 7, 8, 9] rfl (ih v x1 x2 x3 x4 x5 x6 (x7 * x2) (x8 + u12.1) (x9 + 1) u12.2.2 u12.2.1 _ hf kx)
        · replace hf := zf c11 hf
          refine v_iconst h dX7_bursts_144 2 rfl 145 rfl ?_
          refine v_iload h dX7_bursts_145 10 rfl 147 rfl ?_
          refine v_imul h dX7_bursts_147 148 rfl ?_
          refine v_goto h dX7_bursts_148 153 (by decide) ?_
          obtain ⟨u13, hu13, hf⟩ := zb hf
          refine v_callVi h (rest := [.int x8]) dX7_bursts_153 (tX7_yearBy l G ca ad (ad 6) (v.1, v.2.1, v.2.2.1, v.2.2.2.1, v.2.2.2.2.1, v.2.2.2.2.2.1, v.2.2.2.2.2.2.1, v.2.2.2.2.2.2.2.1, m8, v.2.2.2.2.2.2.2.2.2.1, v.2.2.2.2.2.2.2.2.2.2.1, v.2.2.2.2.2.2.2.2.2.2.2.1, m12, v.2.2.2.2.2.2.2.2.2.2.2.2.2) m12 m8 (2 * u9) hu13) gX7_bursts_X7_yearBy rfl rfl ⟨rfl, rfl⟩ nX7_yearBy ⟨Nat.le_of_ble_eq_true rfl, Nat.le_of_ble_eq_true rfl⟩ [0, 9, 6] rfl rfl 0 rfl rfl rfl rfl (Nat.le_of_ble_eq_true rfl) ⟨Nat.zero_le _, Nat.zero_le _⟩ rfl (wM ca ad (v.1, v.2.1, v.2.2.1, v.2.2.2.1, v.2.2.2.2.1, v.2.2.2.2.2.1, v.2.2.2.2.2.2.1, v.2.2.2.2.2.2.2.1, u13.2.2, v.2.2.2.2.2.2.2.2.2.1, v.2.2.2.2.2.2.2.2.2.2.1, v.2.2.2.2.2.2.2.2.2.2.2.1, u13.2.1, v.2.2.2.2.2.2.2.2.2.2.2.2.2)) rfl (wM_adr _ _ _ _) 156 rfl ?_
          refine v_iadd h dX7_bursts_156 157 rfl ?_
          refine v_istore h dX7_bursts_157 (Nat.le_of_ble_eq_true rfl) rfl rfl [(0, .ref (ad 0)), (1, .int x1), (2, .int x2), (3, .int x3), (4, .int x4), (5, .int x5), (6, .int x6), (7, .int (x7 * x2)), (8, .int (x8 + u13.1)), (9, .int x9), (10, .int u9)] rfl 159 rfl ?_
          refine v_iinc h dX7_bursts_159 9 rfl (x9 + 1) rfl (Nat.le_of_ble_eq_true rfl) rfl rfl [(0, .ref (ad 0)), (1, .int x1), (2, .int x2), (3, .int x3), (4, .int x4), (5, .int x5), (6, .int x6), (7, .int (x7 * x2)), (8, .int (x8 + u13.1)), (9, .int (x9 + 1)), (10, .int u9)] rfl 162 rfl ?_
          refine v_goto h dX7_bursts_162 83 (by decide) ?_
          exact v_sub [0, 1, 2, 3, 4, 5, 6, 7, 8, 9] rfl (ih v x1 x2 x3 x4 x5 x6 (x7 * x2) (x8 + u13.1) (x9 + 1) u13.2.2 u13.2.1 _ hf kx)
def fX7_bursts_L62 : Nat → MV → Int32 → Int32 → Int32 → Int32 → Int32 → Int32 → zAI → zAI → Option (Int32 × zAI × zAI)
  | 0, _, _, _, _, _, _, _, _, _ => none
  | n + 1, v, x1, x2, x3, x4, x5, x6, m8, m12 => zlet (1 <<< (x1 &&& 31) : Int32) (fun d1 => if d1 ≤ x6 then (some (x4, m8, m12)) else (((fX7_begin (v.1, v.2.1, v.2.2.1, v.2.2.2.1, v.2.2.2.2.1, v.2.2.2.2.2.1, v.2.2.2.2.2.2.1, v.2.2.2.2.2.2.2.1, m8, v.2.2.2.2.2.2.2.2.2.1, v.2.2.2.2.2.2.2.2.2.2.1, v.2.2.2.2.2.2.2.2.2.2.2.1, m12, v.2.2.2.2.2.2.2.2.2.2.2.2.2)) : Option zAI).bind (fun u3 => ((fX7_bursts_L83 zF (v.1, v.2.1, v.2.2.1, v.2.2.2.1, v.2.2.2.2.1, v.2.2.2.2.2.1, v.2.2.2.2.2.2.1, v.2.2.2.2.2.2.2.1, u3, v.2.2.2.2.2.2.2.2.2.1, v.2.2.2.2.2.2.2.2.2.2.1, v.2.2.2.2.2.2.2.2.2.2.2.1, m12, v.2.2.2.2.2.2.2.2.2.2.2.2.2) x1 x2 x3 x4 x5 x6 1 0 0 u3 m12) : Option (Int32 × Int32 × zAI × zAI)).bind (fun u4 => if u4.2.1 = 0 then (fX7_bursts_L62 n v x1 x2 x3 (x4 + u4.1) x5 (x6 + 1) u4.2.2.1 u4.2.2.2) else (fX7_bursts_L62 n v x1 x2 x3 (x4 + 0) x5 (x6 + 1) u4.2.2.1 u4.2.2.2)))))
set_option maxRecDepth 100000 in
set_option maxHeartbeats 4000000 in
theorem tX7_bursts_l62 {X : zX} {l : Launch} {G : va_G} {ca : Nat → ClassId} {ad : Nat → Nat} (h : zOk X l G ca cX7_bursts RX7 wsX7_bursts 11 rX7_bursts) : ∀ (n : Nat) (v : MV) (x1 : Int32) (x2 : Int32) (x3 : Int32) (x4 : Int32) (x5 : Int32) (x6 : Int32) (m8 : zAI) (m12 : zAI) (out : (Int32 × zAI × zAI)), fX7_bursts_L62 n v x1 x2 x3 x4 x5 x6 m8 m12 = some out → (V X G 11 0 0 (wM ca ad (v.1, v.2.1, v.2.2.1, v.2.2.2.1, v.2.2.2.2.1, v.2.2.2.2.2.1, v.2.2.2.2.2.2.1, v.2.2.2.2.2.2.2.1, out.2.1, v.2.2.2.2.2.2.2.2.2.1, v.2.2.2.2.2.2.2.2.2.2.1, v.2.2.2.2.2.2.2.2.2.2.2.1, out.2.2, v.2.2.2.2.2.2.2.2.2.2.2.2.2)) 187 [(3, .int x3), (4, .int out.1), (5, .int x5)] []) → V X G 11 0 0 (wM ca ad (v.1, v.2.1, v.2.2.1, v.2.2.2.1, v.2.2.2.2.1, v.2.2.2.2.2.1, v.2.2.2.2.2.2.1, v.2.2.2.2.2.2.2.1, m8, v.2.2.2.2.2.2.2.2.2.1, v.2.2.2.2.2.2.2.2.2.2.1, v.2.2.2.2.2.2.2.2.2.2.2.1, m12, v.2.2.2.2.2.2.2.2.2.2.2.2.2)) 62 [(0, .ref (ad 0)), (1, .int x1), (2, .int x2), (3, .int x3), (4, .int x4), (5, .int x5), (6, .int x6)] [] := by
  intro n
  induction n with
  | zero => intro v x1 x2 x3 x4 x5 x6 m8 m12 out hf; rw [fX7_bursts_L62] at hf; cases hf
  | succ n ih =>
    intro v x1 x2 x3 x4 x5 x6 m8 m12 out hf kx
    rw [fX7_bursts_L62] at hf
    refine v_iload h dX7_bursts_62 6 rfl 64 rfl ?_
    refine v_iconst h dX7_bursts_64 1 rfl 65 rfl ?_
    refine v_iload_n h dX7_bursts_65 1 rfl 66 rfl ?_
    refine v_ishl h dX7_bursts_66 67 rfl ?_
    obtain ⟨d1, ed1, hf⟩ := zl hf
    refine v_topi ed1 ?_
    refine v_icmp_ge h dX7_bursts_67 187 (by decide) 70 rfl (fun c2 => ?_) (fun c2 => ?_)
    · replace hf := zt c2 hf
      cases (Option.some.inj hf)
      exact v_sub [3, 4, 5] rfl (kx)
    · replace hf := zf c2 hf
      refine v_iconst h dX7_bursts_70 1 rfl 71 rfl ?_
      refine v_istore h dX7_bursts_71 (Nat.le_of_ble_eq_true rfl) rfl rfl [(0, .ref (ad 0)), (1, .int x1), (2, .int x2), (3, .int x3), (4, .int x4), (5, .int x5), (6, .int x6), (7, .int 1)] rfl 73 rfl ?_
      refine v_iconst h dX7_bursts_73 0 rfl 74 rfl ?_
      refine v_istore h dX7_bursts_74 (Nat.le_of_ble_eq_true rfl) rfl rfl [(0, .ref (ad 0)), (1, .int x1), (2, .int x2), (3, .int x3), (4, .int x4), (5, .int x5), (6, .int x6), (7, .int 1), (8, .int 0)] rfl 76 rfl ?_
      refine v_aload_n h dX7_bursts_76 0 rfl 77 rfl ?_
      obtain ⟨u3, hu3, hf⟩ := zb hf
      refine v_wcallVv h (rest := []) dX7_bursts_77 (tX7_begin l G ca ad (v.1, v.2.1, v.2.2.1, v.2.2.2.1, v.2.2.2.2.1, v.2.2.2.2.2.1, v.2.2.2.2.2.2.1, v.2.2.2.2.2.2.2.1, m8, v.2.2.2.2.2.2.2.2.2.1, v.2.2.2.2.2.2.2.2.2.2.1, v.2.2.2.2.2.2.2.2.2.2.2.1, m12, v.2.2.2.2.2.2.2.2.2.2.2.2.2)  hu3) gX7_bursts_X7_begin rfl rfl ⟨rfl, rfl⟩ nX7_begin ⟨Nat.le_of_ble_eq_true rfl, Nat.le_of_ble_eq_true rfl⟩ 0 rfl rfl rfl rfl (Nat.le_of_ble_eq_true rfl) ⟨Nat.zero_le _, Nat.zero_le _⟩ (wM_adr _ _ _ _) 80 rfl ?_
      refine v_iconst h dX7_bursts_80 0 rfl 81 rfl ?_
      refine v_istore h dX7_bursts_81 (Nat.le_of_ble_eq_true rfl) rfl rfl [(0, .ref (ad 0)), (1, .int x1), (2, .int x2), (3, .int x3), (4, .int x4), (5, .int x5), (6, .int x6), (7, .int 1), (8, .int 0), (9, .int 0)] rfl 83 rfl ?_
      obtain ⟨u4, hu4, hf⟩ := zb hf
      refine v_sub [0, 1, 2, 3, 4, 5, 6, 7, 8, 9] rfl ?_
      refine tX7_bursts_l83 h zF (v.1, v.2.1, v.2.2.1, v.2.2.2.1, v.2.2.2.2.1, v.2.2.2.2.2.1, v.2.2.2.2.2.2.1, v.2.2.2.2.2.2.2.1, u3, v.2.2.2.2.2.2.2.2.2.1, v.2.2.2.2.2.2.2.2.2.2.1, v.2.2.2.2.2.2.2.2.2.2.2.1, m12, v.2.2.2.2.2.2.2.2.2.2.2.2.2) x1 x2 x3 x4 x5 x6 1 0 0 u3 m12 _ hu4 ?_
      refine v_iload h dX7_bursts_165 4 rfl 167 rfl ?_
      refine v_iload h dX7_bursts_167 8 rfl 169 rfl ?_
      refine v_if_ne h dX7_bursts_169 177 (by decide) 172 rfl (fun c5 => ?_) (fun c5 => ?_)
      · replace hf := zf c5 hf
        refine v_iconst h dX7_bursts_177 0 rfl 178 rfl ?_
        refine v_iadd h dX7_bursts_178 179 rfl ?_
        refine v_istore h dX7_bursts_179 (Nat.le_of_ble_eq_true rfl) rfl rfl [(0, .ref (ad 0)), (1, .int x1), (2, .int x2), (3, .int x3), (4, .int (x4 + 0)), (5, .int x5), (6, .int x6), (7, .int u4.1), (8, .int u4.2.1)] rfl 181 rfl ?_
        refine v_iinc h dX7_bursts_181 6 rfl (x6 + 1) rfl (Nat.le_of_ble_eq_true rfl) rfl rfl [(0, .ref (ad 0)), (1, .int x1), (2, .int x2), (3, .int x3), (4, .int (x4 + 0)), (5, .int x5), (6, .int (x6 + 1)), (7, .int u4.1), (8, .int u4.2.1)] rfl 184 rfl ?_
        refine v_goto h dX7_bursts_184 62 (by decide) ?_
        exact v_sub [0, 1, 2, 3, 4, 5, 6] rfl (ih v x1 x2 x3 (x4 + 0) x5 (x6 + 1) u4.2.2.1 u4.2.2.2 _ hf kx)
      · replace hf := zt c5 hf
        refine v_iload h dX7_bursts_172 7 rfl 174 rfl ?_
        refine v_goto h dX7_bursts_174 178 (by decide) ?_
        refine v_iadd h dX7_bursts_178 179 rfl ?_
        refine v_istore h dX7_bursts_179 (Nat.le_of_ble_eq_true rfl) rfl rfl [(0, .ref (ad 0)), (1, .int x1), (2, .int x2), (3, .int x3), (4, .int (x4 + u4.1)), (5, .int x5), (6, .int x6), (7, .int u4.1), (8, .int u4.2.1)] rfl 181 rfl ?_
        refine v_iinc h dX7_bursts_181 6 rfl (x6 + 1) rfl (Nat.le_of_ble_eq_true rfl) rfl rfl [(0, .ref (ad 0)), (1, .int x1), (2, .int x2), (3, .int x3), (4, .int (x4 + u4.1)), (5, .int x5), (6, .int (x6 + 1)), (7, .int u4.1), (8, .int u4.2.1)] rfl 184 rfl ?_
        refine v_goto h dX7_bursts_184 62 (by decide) ?_
        exact v_sub [0, 1, 2, 3, 4, 5, 6] rfl (ih v x1 x2 x3 (x4 + u4.1) x5 (x6 + 1) u4.2.2.1 u4.2.2.2 _ hf kx)
def fX7_bursts_L195 : Nat → MV → Int32 → Int32 → Int32 → Int32 → Int32 → Option Int32
  | 0, _, _, _, _, _, _ => none
  | n + 1, v, x3, x4, x5, x6, x7 => if x7 ≤ 0 then (some x6) else (zgrd (znz x7) (fX7_bursts_L195 n v x3 x4 x5 x7 (x6 - x6 / x7 * x7)))
set_option maxRecDepth 100000 in
set_option maxHeartbeats 4000000 in
theorem tX7_bursts_l195 {X : zX} {l : Launch} {G : va_G} {ca : Nat → ClassId} {ad : Nat → Nat} (h : zOk X l G ca cX7_bursts RX7 wsX7_bursts 11 rX7_bursts) : ∀ (n : Nat) (v : MV) (x3 : Int32) (x4 : Int32) (x5 : Int32) (x6 : Int32) (x7 : Int32) (out : Int32), fX7_bursts_L195 n v x3 x4 x5 x6 x7 = some out → (V X G 11 0 0 (wM ca ad v) 218 [(3, .int x3), (4, .int x4), (5, .int x5), (6, .int out)] []) → V X G 11 0 0 (wM ca ad v) 195 [(3, .int x3), (4, .int x4), (5, .int x5), (6, .int x6), (7, .int x7)] [] := by
  intro n
  induction n with
  | zero => intro v x3 x4 x5 x6 x7 out hf; rw [fX7_bursts_L195] at hf; cases hf
  | succ n ih =>
    intro v x3 x4 x5 x6 x7 out hf kx
    rw [fX7_bursts_L195] at hf
    refine v_iload h dX7_bursts_195 4 rfl 197 rfl ?_
    refine v_if_le h dX7_bursts_197 218 (by decide) 200 rfl (fun c1 => ?_) (fun c1 => ?_)
    · replace hf := zt c1 hf
      cases (Option.some.inj hf)
      exact v_sub [0, 1, 2, 3] rfl (kx)
    · replace hf := zf c1 hf
      refine v_iload h dX7_bursts_200 3 rfl 202 rfl ?_
      refine v_iload h dX7_bursts_202 4 rfl 204 rfl ?_
      obtain ⟨g2, hf⟩ := zg hf
      refine v_irem h dX7_bursts_204 (znz_ne g2) 205 rfl ?_
      refine v_istore h dX7_bursts_205 (Nat.le_of_ble_eq_true rfl) rfl rfl [(3, .int x3), (4, .int x4), (5, .int x5), (6, .int x6), (7, .int x7), (8, .int (x6 - x6 / x7 * x7))] rfl 207 rfl ?_
      refine v_iload h dX7_bursts_207 4 rfl 209 rfl ?_
      refine v_istore h dX7_bursts_209 (Nat.le_of_ble_eq_true rfl) rfl rfl [(3, .int x3), (4, .int x4), (5, .int x5), (6, .int x7), (7, .int x7), (8, .int (x6 - x6 / x7 * x7))] rfl 211 rfl ?_
      refine v_iload h dX7_bursts_211 5 rfl 213 rfl ?_
      refine v_istore h dX7_bursts_213 (Nat.le_of_ble_eq_true rfl) rfl rfl [(3, .int x3), (4, .int x4), (5, .int x5), (6, .int x7), (7, .int (x6 - x6 / x7 * x7)), (8, .int (x6 - x6 / x7 * x7))] rfl 215 rfl ?_
      refine v_goto h dX7_bursts_215 195 (by decide) ?_
      exact v_sub [0, 1, 2, 3, 4] rfl (ih v x3 x4 x5 x7 (x6 - x6 / x7 * x7) _ hf kx)
def fX7_bursts (v : MV) (x1 : Int32) (x2 : Int32) (x3 : Int32) : Option (Int32 × zAI × zAI) := ((fX7_in x1 0 6) : Option Int32).bind (fun u1 => if u1 = 0 then (some ((-1), v.2.2.2.2.2.2.2.2.1, v.2.2.2.2.2.2.2.2.2.2.2.2.1)) else (((fX7_in x2 0 10) : Option Int32).bind (fun u3 => if u3 = 0 then (some ((-1), v.2.2.2.2.2.2.2.2.1, v.2.2.2.2.2.2.2.2.2.2.2.2.1)) else (((fX7_in x3 0 1) : Option Int32).bind (fun u5 => if u5 = 0 then (some ((-1), v.2.2.2.2.2.2.2.2.1, v.2.2.2.2.2.2.2.2.2.2.2.2.1)) else (((fX7_bursts_L40 zF v x1 x2 x3 0 1 0) : Option Int32).bind (fun u7 => ((fX7_bursts_L62 zF v x1 x2 x3 0 u7 0 v.2.2.2.2.2.2.2.2.1 v.2.2.2.2.2.2.2.2.2.2.2.2.1) : Option (Int32 × zAI × zAI)).bind (fun u8 => ((fX7_bursts_L195 zF (v.1, v.2.1, v.2.2.1, v.2.2.2.1, v.2.2.2.2.1, v.2.2.2.2.2.1, v.2.2.2.2.2.2.1, v.2.2.2.2.2.2.2.1, u8.2.1, v.2.2.2.2.2.2.2.2.2.1, v.2.2.2.2.2.2.2.2.2.2.1, v.2.2.2.2.2.2.2.2.2.2.2.1, u8.2.2, v.2.2.2.2.2.2.2.2.2.2.2.2.2) x3 u8.1 u7 u8.1 u7) : Option Int32).bind (fun u9 => if x3 = 0 then (zgrd (znz u9) (some ((u8.1 / u9), u8.2.1, u8.2.2))) else (zgrd (znz u9) (some ((u7 / u9), u8.2.1, u8.2.2))))))))))))
set_option maxRecDepth 100000 in
set_option maxHeartbeats 4000000 in
theorem tX7_bursts (l : Launch) (G : va_G) (ca : Nat → ClassId) (ad : Nat → Nat) (v : MV) (x1 : Int32) (x2 : Int32) (x3 : Int32) {o : (Int32 × zAI × zAI)} (hf : fX7_bursts v x1 x2 x3 = some o) : zMi l yX7_bursts wsX7_bursts rX7_bursts G ca [.ref (ad 0), .int x1, .int x2, .int x3] (wM ca ad v) o.1 (wM ca ad (v.1, v.2.1, v.2.2.1, v.2.2.2.1, v.2.2.2.2.1, v.2.2.2.2.2.1, v.2.2.2.2.2.2.1, v.2.2.2.2.2.2.2.1, o.2.1, v.2.2.2.2.2.2.2.2.2.1, v.2.2.2.2.2.2.2.2.2.2.1, v.2.2.2.2.2.2.2.2.2.2.2.1, o.2.2, v.2.2.2.2.2.2.2.2.2.2.2.2.2)) := by
  refine zMi.of (cc := cX7_bursts) (nL := 11) (own := RX7) (ty := .int) (by decide) rfl rfl (Nat.le_of_ble_eq_true rfl) (fun X h hE => ?_)
  show V X G 11 0 0 (wM ca ad v) 0 [(0, .ref (ad 0)), (1, .int x1), (2, .int x2), (3, .int x3)] []
  unfold fX7_bursts at hf
  refine v_iload_n h dX7_bursts_0 1 rfl 1 rfl ?_
  refine v_iconst h dX7_bursts_1 0 rfl 2 rfl ?_
  refine v_bipush h dX7_bursts_2 6 rfl 4 rfl ?_
  obtain ⟨u1, hu1, hf⟩ := zb hf
  refine v_callSi h (rest := []) dX7_bursts_4 (tX7_in l G ca   x1 0 6 hu1) gX7_bursts_X7_in rfl ⟨rfl, rfl⟩ nX7_in ⟨Nat.le_of_ble_eq_true rfl, Nat.le_of_ble_eq_true rfl⟩ [] rfl rfl rfl rfl (Nat.le_of_ble_eq_true rfl) ⟨Nat.zero_le _, Nat.zero_le _⟩ rfl (wM ca ad v) rfl (wM_adr _ _ _ _) 7 rfl ?_
  refine v_if_eq h dX7_bursts_7 29 (by decide) 10 rfl (fun c2 => ?_) (fun c2 => ?_)
  · replace hf := zt c2 hf
    refine v_iconst h dX7_bursts_29 (-1) rfl 30 rfl ?_
    cases (Option.some.inj hf)
    exact hE 30 _ rfl dX7_bursts_30
  · replace hf := zf c2 hf
    refine v_iload_n h dX7_bursts_10 2 rfl 11 rfl ?_
    refine v_iconst h dX7_bursts_11 0 rfl 12 rfl ?_
    refine v_bipush h dX7_bursts_12 10 rfl 14 rfl ?_
    obtain ⟨u3, hu3, hf⟩ := zb hf
    refine v_callSi h (rest := []) dX7_bursts_14 (tX7_in l G ca   x2 0 10 hu3) gX7_bursts_X7_in rfl ⟨rfl, rfl⟩ nX7_in ⟨Nat.le_of_ble_eq_true rfl, Nat.le_of_ble_eq_true rfl⟩ [] rfl rfl rfl rfl (Nat.le_of_ble_eq_true rfl) ⟨Nat.zero_le _, Nat.zero_le _⟩ rfl (wM ca ad v) rfl (wM_adr _ _ _ _) 17 rfl ?_
    refine v_if_eq h dX7_bursts_17 29 (by decide) 20 rfl (fun c4 => ?_) (fun c4 => ?_)
    · replace hf := zt c4 hf
      refine v_iconst h dX7_bursts_29 (-1) rfl 30 rfl ?_
      cases (Option.some.inj hf)
      exact hE 30 _ rfl dX7_bursts_30
    · replace hf := zf c4 hf
      refine v_iload_n h dX7_bursts_20 3 rfl 21 rfl ?_
      refine v_iconst h dX7_bursts_21 0 rfl 22 rfl ?_
      refine v_iconst h dX7_bursts_22 1 rfl 23 rfl ?_
      obtain ⟨u5, hu5, hf⟩ := zb hf
      refine v_callSi h (rest := []) dX7_bursts_23 (tX7_in l G ca   x3 0 1 hu5) gX7_bursts_X7_in rfl ⟨rfl, rfl⟩ nX7_in ⟨Nat.le_of_ble_eq_true rfl, Nat.le_of_ble_eq_true rfl⟩ [] rfl rfl rfl rfl (Nat.le_of_ble_eq_true rfl) ⟨Nat.zero_le _, Nat.zero_le _⟩ rfl (wM ca ad v) rfl (wM_adr _ _ _ _) 26 rfl ?_
      refine v_if_ne h dX7_bursts_26 31 (by decide) 29 rfl (fun c6 => ?_) (fun c6 => ?_)
      · replace hf := zf c6 hf
        refine v_iconst h dX7_bursts_31 0 rfl 32 rfl ?_
        refine v_istore h dX7_bursts_32 (Nat.le_of_ble_eq_true rfl) rfl rfl [(0, .ref (ad 0)), (1, .int x1), (2, .int x2), (3, .int x3), (4, .int 0)] rfl 34 rfl ?_
        refine v_iconst h dX7_bursts_34 1 rfl 35 rfl ?_
        refine v_istore h dX7_bursts_35 (Nat.le_of_ble_eq_true rfl) rfl rfl [(0, .ref (ad 0)), (1, .int x1), (2, .int x2), (3, .int x3), (4, .int 0), (5, .int 1)] rfl 37 rfl ?_
        refine v_iconst h dX7_bursts_37 0 rfl 38 rfl ?_
        refine v_istore h dX7_bursts_38 (Nat.le_of_ble_eq_true rfl) rfl rfl [(0, .ref (ad 0)), (1, .int x1), (2, .int x2), (3, .int x3), (4, .int 0), (5, .int 1), (6, .int 0)] rfl 40 rfl ?_
        obtain ⟨u7, hu7, hf⟩ := zb hf
        refine v_sub [0, 1, 2, 3, 4, 5, 6] rfl ?_
        refine tX7_bursts_l40 h zF v x1 x2 x3 0 1 0 _ hu7 ?_
        refine v_iconst h dX7_bursts_59 0 rfl 60 rfl ?_
        refine v_istore h dX7_bursts_60 (Nat.le_of_ble_eq_true rfl) rfl rfl [(0, .ref (ad 0)), (1, .int x1), (2, .int x2), (3, .int x3), (4, .int 0), (5, .int u7), (6, .int 0)] rfl 62 rfl ?_
        obtain ⟨u8, hu8, hf⟩ := zb hf
        refine v_sub [0, 1, 2, 3, 4, 5, 6] rfl ?_
        refine tX7_bursts_l62 h zF v x1 x2 x3 0 u7 0 v.2.2.2.2.2.2.2.2.1 v.2.2.2.2.2.2.2.2.2.2.2.2.1 _ hu8 ?_
        refine v_iload h dX7_bursts_187 1 rfl 189 rfl ?_
        refine v_istore h dX7_bursts_189 (Nat.le_of_ble_eq_true rfl) rfl rfl [(3, .int x3), (4, .int u8.1), (5, .int u7), (6, .int u8.1)] rfl 191 rfl ?_
        refine v_iload h dX7_bursts_191 2 rfl 193 rfl ?_
        refine v_istore h dX7_bursts_193 (Nat.le_of_ble_eq_true rfl) rfl rfl [(3, .int x3), (4, .int u8.1), (5, .int u7), (6, .int u8.1), (7, .int u7)] rfl 195 rfl ?_
        obtain ⟨u9, hu9, hf⟩ := zb hf
        refine v_sub [0, 1, 2, 3, 4] rfl ?_
        refine tX7_bursts_l195 h zF (v.1, v.2.1, v.2.2.1, v.2.2.2.1, v.2.2.2.2.1, v.2.2.2.2.2.1, v.2.2.2.2.2.2.1, v.2.2.2.2.2.2.2.1, u8.2.1, v.2.2.2.2.2.2.2.2.2.1, v.2.2.2.2.2.2.2.2.2.2.1, v.2.2.2.2.2.2.2.2.2.2.2.1, u8.2.2, v.2.2.2.2.2.2.2.2.2.2.2.2.2) x3 u8.1 u7 u8.1 u7 _ hu9 ?_
        refine v_iload_n h dX7_bursts_218 0 rfl 219 rfl ?_
        refine v_if_ne h dX7_bursts_219 227 (by decide) 222 rfl (fun c10 => ?_) (fun c10 => ?_)
        · replace hf := zf c10 hf
          refine v_iload h dX7_bursts_227 2 rfl 229 rfl ?_
          refine v_iload h dX7_bursts_229 3 rfl 231 rfl ?_
          obtain ⟨g11, hf⟩ := zg hf
          refine v_idiv h dX7_bursts_231 (znz_ne g11) 232 rfl ?_
          cases (Option.some.inj hf)
          exact hE 232 _ rfl dX7_bursts_232
        · replace hf := zt c10 hf
          refine v_iload h dX7_bursts_222 1 rfl 224 rfl ?_
          refine v_goto h dX7_bursts_224 229 (by decide) ?_
          refine v_iload h dX7_bursts_229 3 rfl 231 rfl ?_
          obtain ⟨g12, hf⟩ := zg hf
          refine v_idiv h dX7_bursts_231 (znz_ne g12) 232 rfl ?_
          cases (Option.some.inj hf)
          exact hE 232 _ rfl dX7_bursts_232
      · replace hf := zt c6 hf
        refine v_iconst h dX7_bursts_29 (-1) rfl 30 rfl ?_
        cases (Option.some.inj hf)
        exact hE 30 _ rfl dX7_bursts_30
abbrev rX7_image : Room := { frames := 1, cells := 0, slots := 0, locals := 25 }
theorem nX7_image : zNoMH yX7_image 0 := ⟨by decide +kernel, by decide +kernel, by decide +kernel⟩
theorem iX7_image_X7 : ∀ w ∈ wsX70, w ∈ wsX7_image := fun _ h => (List.mem_cons_of_mem _ (List.mem_append_right _ h))
def fX7_image (v : MV) : Option (Int32 × zAI × Int32) := ((fX7_bring v.2.2.2.2.2.2.2.1 v.2.2.2.2.2.2.2.2.2.2.1 0 0 407) : Option zAI).bind (fun u1 => some (1, u1, 1))
set_option maxRecDepth 100000 in
set_option maxHeartbeats 4000000 in
theorem tX7_image (l : Launch) (G : va_G) (ca : Nat → ClassId) (ad : Nat → Nat) (v : MV)  {o : (Int32 × zAI × Int32)} (hf : fX7_image v = some o) : zMi l yX7_image wsX7_image rX7_image G ca [.ref (ad 0)] (wM ca ad v) o.1 (wM ca ad (v.1, v.2.1, v.2.2.1, v.2.2.2.1, v.2.2.2.2.1, v.2.2.2.2.2.1, v.2.2.2.2.2.2.1, v.2.2.2.2.2.2.2.1, v.2.2.2.2.2.2.2.2.1, v.2.2.2.2.2.2.2.2.2.1, o.2.1, o.2.2, v.2.2.2.2.2.2.2.2.2.2.2.2)) := by
  refine zMi.of (cc := cX7_image) (nL := 1) (own := RX7) (ty := .int) (by decide) rfl rfl (Nat.le_of_ble_eq_true rfl) (fun X h hE => ?_)
  show V X G 1 0 0 (wM ca ad v) 0 [(0, .ref (ad 0))] []
  unfold fX7_image at hf
  refine v_aload_n h dX7_image_0 0 rfl 1 rfl ?_
  refine v_get h (v := .ref (ad 5)) dX7_image_1 iX7_image_X7 0 rfl rfl 7 (by decide) (zwi 1 rfl) rfl 4 rfl ?_
  refine v_iconst h dX7_image_4 0 rfl 5 rfl ?_
  refine v_aload_n h dX7_image_5 0 rfl 6 rfl ?_
  refine v_get h (v := .ref (ad 8)) dX7_image_6 iX7_image_X7 0 rfl rfl 10 (by decide) (zwi 2 rfl) rfl 9 rfl ?_
  refine v_iconst h dX7_image_9 0 rfl 10 rfl ?_
  refine v_sipush h dX7_image_10 407 rfl 13 rfl ?_
  obtain ⟨u1, hu1, hf⟩ := zb hf
  refine v_callSv h (rest := []) dX7_image_13 (tX7_bring l G ca (ad 5) (ad 8) v.2.2.2.2.2.2.2.1 v.2.2.2.2.2.2.2.2.2.2.1 0 0 407 hu1) gX7_image_X7_bring rfl ⟨rfl, rfl⟩ nX7_bring ⟨Nat.le_of_ble_eq_true rfl, Nat.le_of_ble_eq_true rfl⟩ [5, 8] rfl rfl rfl rfl (Nat.le_of_ble_eq_true rfl) ⟨Nat.zero_le _, Nat.zero_le _⟩ rfl (wM ca ad (v.1, v.2.1, v.2.2.1, v.2.2.2.1, v.2.2.2.2.1, v.2.2.2.2.2.1, v.2.2.2.2.2.2.1, v.2.2.2.2.2.2.2.1, v.2.2.2.2.2.2.2.2.1, v.2.2.2.2.2.2.2.2.2.1, u1, v.2.2.2.2.2.2.2.2.2.2.2)) rfl (wM_adr _ _ _ _) 16 rfl ?_
  refine v_aload_n h dX7_image_16 0 rfl 17 rfl ?_
  refine v_iconst h dX7_image_17 1 rfl 18 rfl ?_
  refine v_put h dX7_image_18 iX7_image_X7 tyX7 tyX7_ok nmX7 0 rfl rfl 11 (by decide) (zwi 3 rfl) rfl rfl rfl (Nat.le_of_ble_eq_true rfl) (wM ca ad (v.1, v.2.1, v.2.2.1, v.2.2.2.1, v.2.2.2.2.1, v.2.2.2.2.2.1, v.2.2.2.2.2.2.1, v.2.2.2.2.2.2.2.1, v.2.2.2.2.2.2.2.2.1, v.2.2.2.2.2.2.2.2.2.1, u1, 1, v.2.2.2.2.2.2.2.2.2.2.2.2)) rfl 21 rfl ?_
  refine v_iconst h dX7_image_21 1 rfl 22 rfl ?_
  cases (Option.some.inj hf)
  exact hE 22 _ rfl dX7_image_22
abbrev rX7_restore : Room := { frames := 1, cells := 0, slots := 0, locals := 25 }
theorem nX7_restore : zNoMH yX7_restore 0 := ⟨by decide +kernel, by decide +kernel, by decide +kernel⟩
theorem iX7_restore_X7 : ∀ w ∈ wsX70, w ∈ wsX7_restore := fun _ h => (List.mem_cons_of_mem _ (List.mem_append_right _ h))
def fX7_restore (v : MV) : Option (Int32 × zAI) := if v.2.2.2.2.2.2.2.2.2.2.2.1 = 0 then (some ((-4), v.2.2.2.2.2.2.2.1)) else (((fX7_bring v.2.2.2.2.2.2.2.2.2.2.1 v.2.2.2.2.2.2.2.1 0 0 407) : Option zAI).bind (fun u2 => some (1, u2)))
set_option maxRecDepth 100000 in
set_option maxHeartbeats 4000000 in
theorem tX7_restore (l : Launch) (G : va_G) (ca : Nat → ClassId) (ad : Nat → Nat) (v : MV)  {o : (Int32 × zAI)} (hf : fX7_restore v = some o) : zMi l yX7_restore wsX7_restore rX7_restore G ca [.ref (ad 0)] (wM ca ad v) o.1 (wM ca ad (v.1, v.2.1, v.2.2.1, v.2.2.2.1, v.2.2.2.2.1, v.2.2.2.2.2.1, v.2.2.2.2.2.2.1, o.2, v.2.2.2.2.2.2.2.2)) := by
  refine zMi.of (cc := cX7_restore) (nL := 1) (own := RX7) (ty := .int) (by decide) rfl rfl (Nat.le_of_ble_eq_true rfl) (fun X h hE => ?_)
  show V X G 1 0 0 (wM ca ad v) 0 [(0, .ref (ad 0))] []
  unfold fX7_restore at hf
  refine v_aload_n h dX7_restore_0 0 rfl 1 rfl ?_
  refine v_get h (v := .int v.2.2.2.2.2.2.2.2.2.2.2.1) dX7_restore_1 iX7_restore_X7 0 rfl rfl 11 (by decide) (zwi 1 rfl) rfl 4 rfl ?_
  refine v_if_ne h dX7_restore_4 10 (by decide) 7 rfl (fun c1 => ?_) (fun c1 => ?_)
  · replace hf := zf c1 hf
    refine v_aload_n h dX7_restore_10 0 rfl 11 rfl ?_
    refine v_get h (v := .ref (ad 8)) dX7_restore_11 iX7_restore_X7 0 rfl rfl 10 (by decide) (zwi 2 rfl) rfl 14 rfl ?_
    refine v_iconst h dX7_restore_14 0 rfl 15 rfl ?_
    refine v_aload_n h dX7_restore_15 0 rfl 16 rfl ?_
    refine v_get h (v := .ref (ad 5)) dX7_restore_16 iX7_restore_X7 0 rfl rfl 7 (by decide) (zwi 3 rfl) rfl 19 rfl ?_
    refine v_iconst h dX7_restore_19 0 rfl 20 rfl ?_
    refine v_sipush h dX7_restore_20 407 rfl 23 rfl ?_
    obtain ⟨u2, hu2, hf⟩ := zb hf
    refine v_callSv h (rest := []) dX7_restore_23 (tX7_bring l G ca (ad 8) (ad 5) v.2.2.2.2.2.2.2.2.2.2.1 v.2.2.2.2.2.2.2.1 0 0 407 hu2) gX7_restore_X7_bring rfl ⟨rfl, rfl⟩ nX7_bring ⟨Nat.le_of_ble_eq_true rfl, Nat.le_of_ble_eq_true rfl⟩ [8, 5] rfl rfl rfl rfl (Nat.le_of_ble_eq_true rfl) ⟨Nat.zero_le _, Nat.zero_le _⟩ rfl (wM ca ad (v.1, v.2.1, v.2.2.1, v.2.2.2.1, v.2.2.2.2.1, v.2.2.2.2.2.1, v.2.2.2.2.2.2.1, u2, v.2.2.2.2.2.2.2.2)) rfl (wM_adr _ _ _ _) 26 rfl ?_
    refine v_iconst h dX7_restore_26 1 rfl 27 rfl ?_
    cases (Option.some.inj hf)
    exact hE 27 _ rfl dX7_restore_27
  · replace hf := zt c1 hf
    refine v_bipush h dX7_restore_7 (-4) rfl 9 rfl ?_
    cases (Option.some.inj hf)
    exact hE 9 _ rfl dX7_restore_9
abbrev rX7_wrong : Room := { frames := 1, cells := 0, slots := 0, locals := 22 }
theorem nX7_wrong : zNoMH yX7_wrong 4 := ⟨by decide +kernel, by decide +kernel, by decide +kernel⟩
theorem iX7_wrong_X7 : ∀ w ∈ wsX70, w ∈ wsX7_wrong := fun _ h => (List.mem_cons_of_mem _ (List.mem_append_right _ h))
def fX7_wrong (v : MV) (x1 : Int32) (x2 : Int32) (x3 : Int32) (x4 : Int32) : Option Int32 := zgrd (zix x1 4) (if 0 ≤ (zgt v.1 x1) then (if (zgt v.1 x1) = x2 then (((fX7_isPart x3 x4 (zgt v.2.1 x1)) : Option Int32).bind (fun u4 => if u4 = 0 then (some (-13)) else (some 0))) else (some (-12))) else (some (-11)))
set_option maxRecDepth 100000 in
set_option maxHeartbeats 4000000 in
theorem tX7_wrong (l : Launch) (G : va_G) (ca : Nat → ClassId) (ad : Nat → Nat) (v : MV) (x1 : Int32) (x2 : Int32) (x3 : Int32) (x4 : Int32) {o : Int32} (hf : fX7_wrong v x1 x2 x3 x4 = some o) : zMi l yX7_wrong wsX7_wrong rX7_wrong G ca [.ref (ad 0), .int x1, .int x2, .int x3, .int x4] (wM ca ad v) o (wM ca ad v) := by
  refine zMi.of (cc := cX7_wrong) (nL := 5) (own := RX7) (ty := .int) (by decide) rfl rfl (Nat.le_of_ble_eq_true rfl) (fun X h hE => ?_)
  show V X G 5 0 0 (wM ca ad v) 0 [(0, .ref (ad 0)), (1, .int x1), (2, .int x2), (3, .int x3), (4, .int x4)] []
  unfold fX7_wrong at hf
  refine v_aload_n h dX7_wrong_0 0 rfl 1 rfl ?_
  refine v_get h (v := .ref (ad 1)) dX7_wrong_1 iX7_wrong_X7 0 rfl rfl 0 (by decide) (zwi 1 rfl) rfl 4 rfl ?_
  refine v_iload_n h dX7_wrong_4 1 rfl 5 rfl ?_
  obtain ⟨g1, hf⟩ := zg hf
  refine v_iald h (f := v.1) dX7_wrong_5 1 0 rfl rfl (zix_in g1) 6 rfl ?_
  refine v_if_ge h dX7_wrong_6 14 (by decide) 9 rfl (fun c2 => ?_) (fun c2 => ?_)
  · replace hf := zt c2 hf
    refine v_aload_n h dX7_wrong_14 0 rfl 15 rfl ?_
    refine v_get h (v := .ref (ad 1)) dX7_wrong_15 iX7_wrong_X7 0 rfl rfl 0 (by decide) (zwi 1 rfl) rfl 18 rfl ?_
    refine v_iload_n h dX7_wrong_18 1 rfl 19 rfl ?_
    refine v_iald h (f := v.1) dX7_wrong_19 1 0 rfl rfl (zix_in g1) 20 rfl ?_
    refine v_iload_n h dX7_wrong_20 2 rfl 21 rfl ?_
    refine v_icmp_eq h dX7_wrong_21 29 (by decide) 24 rfl (fun c3 => ?_) (fun c3 => ?_)
    · replace hf := zt c3 hf
      refine v_iload_n h dX7_wrong_29 3 rfl 30 rfl ?_
      refine v_iload h dX7_wrong_30 4 rfl 32 rfl ?_
      refine v_aload_n h dX7_wrong_32 0 rfl 33 rfl ?_
      refine v_get h (v := .ref (ad 2)) dX7_wrong_33 iX7_wrong_X7 0 rfl rfl 1 (by decide) (zwi 2 rfl) rfl 36 rfl ?_
      refine v_iload_n h dX7_wrong_36 1 rfl 37 rfl ?_
      refine v_iald h (f := v.2.1) dX7_wrong_37 2 0 rfl rfl (zix_in g1) 38 rfl ?_
      obtain ⟨u4, hu4, hf⟩ := zb hf
      refine v_callSi h (rest := []) dX7_wrong_38 (tX7_isPart l G ca   x3 x4 (zgt v.2.1 x1) hu4) gX7_wrong_X7_isPart rfl ⟨rfl, rfl⟩ nX7_isPart ⟨Nat.le_of_ble_eq_true rfl, Nat.le_of_ble_eq_true rfl⟩ [] rfl rfl rfl rfl (Nat.le_of_ble_eq_true rfl) ⟨Nat.zero_le _, Nat.zero_le _⟩ rfl (wM ca ad v) rfl (wM_adr _ _ _ _) 41 rfl ?_
      refine v_if_eq h dX7_wrong_41 48 (by decide) 44 rfl (fun c5 => ?_) (fun c5 => ?_)
      · replace hf := zt c5 hf
        refine v_bipush h dX7_wrong_48 (-13) rfl 50 rfl ?_
        cases (Option.some.inj hf)
        exact hE 50 _ rfl dX7_wrong_50
      · replace hf := zf c5 hf
        refine v_iconst h dX7_wrong_44 0 rfl 45 rfl ?_
        refine v_goto h dX7_wrong_45 50 (by decide) ?_
        cases (Option.some.inj hf)
        exact hE 50 _ rfl dX7_wrong_50
    · replace hf := zf c3 hf
      refine v_bipush h dX7_wrong_24 (-12) rfl 26 rfl ?_
      refine v_goto h dX7_wrong_26 50 (by decide) ?_
      cases (Option.some.inj hf)
      exact hE 50 _ rfl dX7_wrong_50
  · replace hf := zf c2 hf
    refine v_bipush h dX7_wrong_9 (-11) rfl 11 rfl ?_
    refine v_goto h dX7_wrong_11 50 (by decide) ?_
    cases (Option.some.inj hf)
    exact hE 50 _ rfl dX7_wrong_50
abbrev rX7_isStain : Room := { frames := 4, cells := 0, slots := 0, locals := 94 }
theorem nX7_isStain : zNoMH yX7_isStain 3 := ⟨by decide +kernel, by decide +kernel, by decide +kernel⟩
theorem iX7_isStain_X7 : ∀ w ∈ wsX70, w ∈ wsX7_isStain := fun _ h => (List.mem_cons_of_mem _ (List.mem_append_right _ h))
def fX7_isStain_L6 : Nat → MV → Int32 → Int32 → Int32 → Int32 → Int32 → zAI → zAI → Option (Int32 × zAI × zAI)
  | 0, _, _, _, _, _, _, _, _ => none
  | n + 1, v, x1, x2, x3, x4, x5, m8, m12 => if x3 ≤ x5 then (some (x4, m8, m12)) else (if x4 = 0 then (some (x4, m8, m12)) else (((fX7_yearIn m12 m8) : Option (Int32 × zAI × zAI)).bind (fun u3 => zgrd (zix (((24 * x1) + x2) + x5) 96) (if (lg_cmp u3.1.toInt64 (zgt v.2.2.1 (((24 * x1) + x2) + x5))) = 0 then (fX7_isStain_L6 n v x1 x2 x3 1 (x5 + 1) u3.2.2 u3.2.1) else (fX7_isStain_L6 n v x1 x2 x3 0 (x5 + 1) u3.2.2 u3.2.1)))))
set_option maxRecDepth 100000 in
set_option maxHeartbeats 4000000 in
theorem tX7_isStain_l6 {X : zX} {l : Launch} {G : va_G} {ca : Nat → ClassId} {ad : Nat → Nat} (h : zOk X l G ca cX7_isStain RX7 wsX7_isStain 6 rX7_isStain) : ∀ (n : Nat) (v : MV) (x1 : Int32) (x2 : Int32) (x3 : Int32) (x4 : Int32) (x5 : Int32) (m8 : zAI) (m12 : zAI) (out : (Int32 × zAI × zAI)), fX7_isStain_L6 n v x1 x2 x3 x4 x5 m8 m12 = some out → (V X G 6 0 0 (wM ca ad (v.1, v.2.1, v.2.2.1, v.2.2.2.1, v.2.2.2.2.1, v.2.2.2.2.2.1, v.2.2.2.2.2.2.1, v.2.2.2.2.2.2.2.1, out.2.1, v.2.2.2.2.2.2.2.2.2.1, v.2.2.2.2.2.2.2.2.2.2.1, v.2.2.2.2.2.2.2.2.2.2.2.1, out.2.2, v.2.2.2.2.2.2.2.2.2.2.2.2.2)) 57 [(4, .int out.1)] []) → V X G 6 0 0 (wM ca ad (v.1, v.2.1, v.2.2.1, v.2.2.2.1, v.2.2.2.2.1, v.2.2.2.2.2.1, v.2.2.2.2.2.2.1, v.2.2.2.2.2.2.2.1, m8, v.2.2.2.2.2.2.2.2.2.1, v.2.2.2.2.2.2.2.2.2.2.1, v.2.2.2.2.2.2.2.2.2.2.2.1, m12, v.2.2.2.2.2.2.2.2.2.2.2.2.2)) 6 [(0, .ref (ad 0)), (1, .int x1), (2, .int x2), (3, .int x3), (4, .int x4), (5, .int x5)] [] := by
  intro n
  induction n with
  | zero => intro v x1 x2 x3 x4 x5 m8 m12 out hf; rw [fX7_isStain_L6] at hf; cases hf
  | succ n ih =>
    intro v x1 x2 x3 x4 x5 m8 m12 out hf kx
    rw [fX7_isStain_L6] at hf
    refine v_iload h dX7_isStain_6 5 rfl 8 rfl ?_
    refine v_iload_n h dX7_isStain_8 3 rfl 9 rfl ?_
    refine v_icmp_ge h dX7_isStain_9 57 (by decide) 12 rfl (fun c1 => ?_) (fun c1 => ?_)
    · replace hf := zt c1 hf
      cases (Option.some.inj hf)
      exact v_sub [4] rfl (kx)
    · replace hf := zf c1 hf
      refine v_iload h dX7_isStain_12 4 rfl 14 rfl ?_
      refine v_if_eq h dX7_isStain_14 57 (by decide) 17 rfl (fun c2 => ?_) (fun c2 => ?_)
      · replace hf := zt c2 hf
        cases (Option.some.inj hf)
        exact v_sub [4] rfl (kx)
      · replace hf := zf c2 hf
        refine v_aload_n h dX7_isStain_17 0 rfl 18 rfl ?_
        refine v_aload_n h dX7_isStain_18 0 rfl 19 rfl ?_
        refine v_get h (v := .ref (ad 6)) dX7_isStain_19 iX7_isStain_X7 0 rfl rfl 8 (by decide) (zwi 1 rfl) rfl 22 rfl ?_
        obtain ⟨u3, hu3, hf⟩ := zb hf
        refine v_callVi h (rest := []) dX7_isStain_22 (tX7_yearIn l G ca ad (ad 6) (v.1, v.2.1, v.2.2.1, v.2.2.2.1, v.2.2.2.2.1, v.2.2.2.2.2.1, v.2.2.2.2.2.2.1, v.2.2.2.2.2.2.2.1, m8, v.2.2.2.2.2.2.2.2.2.1, v.2.2.2.2.2.2.2.2.2.2.1, v.2.2.2.2.2.2.2.2.2.2.2.1, m12, v.2.2.2.2.2.2.2.2.2.2.2.2.2) m12 m8  hu3) gX7_isStain_X7_yearIn rfl rfl ⟨rfl, rfl⟩ nX7_yearIn ⟨Nat.le_of_ble_eq_true rfl, Nat.le_of_ble_eq_true rfl⟩ [0, 9, 6] rfl rfl 0 rfl rfl rfl rfl (Nat.le_of_ble_eq_true rfl) ⟨Nat.zero_le _, Nat.zero_le _⟩ rfl (wM ca ad (v.1, v.2.1, v.2.2.1, v.2.2.2.1, v.2.2.2.2.1, v.2.2.2.2.2.1, v.2.2.2.2.2.2.1, v.2.2.2.2.2.2.2.1, u3.2.2, v.2.2.2.2.2.2.2.2.2.1, v.2.2.2.2.2.2.2.2.2.2.1, v.2.2.2.2.2.2.2.2.2.2.2.1, u3.2.1, v.2.2.2.2.2.2.2.2.2.2.2.2.2)) rfl (wM_adr _ _ _ _) 25 rfl ?_
        refine v_i2l h dX7_isStain_25 26 rfl ?_
        refine v_aload_n h dX7_isStain_26 0 rfl 27 rfl ?_
        refine v_get h (v := .ref (ad 3)) dX7_isStain_27 iX7_isStain_X7 0 rfl rfl 2 (by decide) (zwi 2 rfl) rfl 30 rfl ?_
        refine v_bipush h dX7_isStain_30 24 rfl 32 rfl ?_
        refine v_iload_n h dX7_isStain_32 1 rfl 33 rfl ?_
        refine v_imul h dX7_isStain_33 34 rfl ?_
        refine v_iload_n h dX7_isStain_34 2 rfl 35 rfl ?_
        refine v_iadd h dX7_isStain_35 36 rfl ?_
        refine v_iload h dX7_isStain_36 5 rfl 38 rfl ?_
        refine v_iadd h dX7_isStain_38 39 rfl ?_
        obtain ⟨g4, hf⟩ := zg hf
        refine v_lald h (f := v.2.2.1) dX7_isStain_39 3 1 rfl rfl (zix_in g4) 40 rfl ?_
        refine v_lcmp h dX7_isStain_40 41 rfl ?_
        refine v_if_ne h dX7_isStain_41 48 (by decide) 44 rfl (fun c5 => ?_) (fun c5 => ?_)
        · replace hf := zf c5 hf
          refine v_iconst h dX7_isStain_48 0 rfl 49 rfl ?_
          refine v_istore h dX7_isStain_49 (Nat.le_of_ble_eq_true rfl) rfl rfl [(0, .ref (ad 0)), (1, .int x1), (2, .int x2), (3, .int x3), (4, .int 0), (5, .int x5)] rfl 51 rfl ?_
          refine v_iinc h dX7_isStain_51 5 rfl (x5 + 1) rfl (Nat.le_of_ble_eq_true rfl) rfl rfl [(0, .ref (ad 0)), (1, .int x1), (2, .int x2), (3, .int x3), (4, .int 0), (5, .int (x5 + 1))] rfl 54 rfl ?_
          refine v_goto h dX7_isStain_54 6 (by decide) ?_
          exact v_sub [0, 1, 2, 3, 4, 5] rfl (ih v x1 x2 x3 0 (x5 + 1) u3.2.2 u3.2.1 _ hf kx)
        · replace hf := zt c5 hf
          refine v_iconst h dX7_isStain_44 1 rfl 45 rfl ?_
          refine v_goto h dX7_isStain_45 49 (by decide) ?_
          refine v_istore h dX7_isStain_49 (Nat.le_of_ble_eq_true rfl) rfl rfl [(0, .ref (ad 0)), (1, .int x1), (2, .int x2), (3, .int x3), (4, .int 1), (5, .int x5)] rfl 51 rfl ?_
          refine v_iinc h dX7_isStain_51 5 rfl (x5 + 1) rfl (Nat.le_of_ble_eq_true rfl) rfl rfl [(0, .ref (ad 0)), (1, .int x1), (2, .int x2), (3, .int x3), (4, .int 1), (5, .int (x5 + 1))] rfl 54 rfl ?_
          refine v_goto h dX7_isStain_54 6 (by decide) ?_
          exact v_sub [0, 1, 2, 3, 4, 5] rfl (ih v x1 x2 x3 1 (x5 + 1) u3.2.2 u3.2.1 _ hf kx)
def fX7_isStain (v : MV) (x1 : Int32) (x2 : Int32) (x3 : Int32) : Option (Int32 × zAI × zAI) := ((fX7_isStain_L6 zF v x1 x2 x3 1 0 v.2.2.2.2.2.2.2.2.1 v.2.2.2.2.2.2.2.2.2.2.2.2.1) : Option (Int32 × zAI × zAI)).bind (fun u1 => zgrd (zbl u1.1) (some (u1.1, u1.2.1, u1.2.2)))
set_option maxRecDepth 100000 in
set_option maxHeartbeats 4000000 in
theorem tX7_isStain (l : Launch) (G : va_G) (ca : Nat → ClassId) (ad : Nat → Nat) (v : MV) (x1 : Int32) (x2 : Int32) (x3 : Int32) {o : (Int32 × zAI × zAI)} (hf : fX7_isStain v x1 x2 x3 = some o) : zMi l yX7_isStain wsX7_isStain rX7_isStain G ca [.ref (ad 0), .int x1, .int x2, .int x3] (wM ca ad v) o.1 (wM ca ad (v.1, v.2.1, v.2.2.1, v.2.2.2.1, v.2.2.2.2.1, v.2.2.2.2.2.1, v.2.2.2.2.2.2.1, v.2.2.2.2.2.2.2.1, o.2.1, v.2.2.2.2.2.2.2.2.2.1, v.2.2.2.2.2.2.2.2.2.2.1, v.2.2.2.2.2.2.2.2.2.2.2.1, o.2.2, v.2.2.2.2.2.2.2.2.2.2.2.2.2)) := by
  refine zMi.of (cc := cX7_isStain) (nL := 6) (own := RX7) (ty := .boolean) (by decide) rfl rfl (Nat.le_of_ble_eq_true rfl) (fun X h hE => ?_)
  show V X G 6 0 0 (wM ca ad v) 0 [(0, .ref (ad 0)), (1, .int x1), (2, .int x2), (3, .int x3)] []
  unfold fX7_isStain at hf
  refine v_iconst h dX7_isStain_0 1 rfl 1 rfl ?_
  refine v_istore h dX7_isStain_1 (Nat.le_of_ble_eq_true rfl) rfl rfl [(0, .ref (ad 0)), (1, .int x1), (2, .int x2), (3, .int x3), (4, .int 1)] rfl 3 rfl ?_
  refine v_iconst h dX7_isStain_3 0 rfl 4 rfl ?_
  refine v_istore h dX7_isStain_4 (Nat.le_of_ble_eq_true rfl) rfl rfl [(0, .ref (ad 0)), (1, .int x1), (2, .int x2), (3, .int x3), (4, .int 1), (5, .int 0)] rfl 6 rfl ?_
  obtain ⟨u1, hu1, hf⟩ := zb hf
  refine v_sub [0, 1, 2, 3, 4, 5] rfl ?_
  refine tX7_isStain_l6 h zF v x1 x2 x3 1 0 v.2.2.2.2.2.2.2.2.1 v.2.2.2.2.2.2.2.2.2.2.2.2.1 _ hu1 ?_
  refine v_iload h dX7_isStain_57 0 rfl 59 rfl ?_
  obtain ⟨g2, hf⟩ := zg hf
  cases (Option.some.inj hf)
  exact hE 59 _ (zbl_nar g2) dX7_isStain_59
abbrev rX7_stains : Room := { frames := 5, cells := 0, slots := 0, locals := 119 }
theorem nX7_stains : zNoMH yX7_stains 6 := ⟨by decide +kernel, by decide +kernel, by decide +kernel⟩
theorem iX7_stains_X7 : ∀ w ∈ wsX70, w ∈ wsX7_stains := fun _ h => (List.mem_cons_of_mem _ (List.mem_append_right _ h))
def fX7_stains_L74 : Nat → MV → Int32 → Int32 → Int32 → Int32 → Int32 → Int32 → Int32 → zAI → zAI → Option (Int32 × zAI × zAI)
  | 0, _, _, _, _, _, _, _, _, _, _ => none
  | n + 1, v, x1, x2, x4, x5, x6, x8, x9, m8, m12 => if x6 = 0 then (if 4 < x9 then (some (x8, m8, m12)) else (((fX7_begin (v.1, v.2.1, v.2.2.1, v.2.2.2.1, v.2.2.2.2.1, v.2.2.2.2.2.1, v.2.2.2.2.2.2.1, v.2.2.2.2.2.2.2.1, m8, v.2.2.2.2.2.2.2.2.2.1, v.2.2.2.2.2.2.2.2.2.2.1, v.2.2.2.2.2.2.2.2.2.2.2.1, m12, v.2.2.2.2.2.2.2.2.2.2.2.2.2)) : Option zAI).bind (fun u18 => if x6 = 0 then (zgrd (zix (4 + x1) 407) (((fX7_isStain (v.1, v.2.1, v.2.2.1, v.2.2.2.1, v.2.2.2.2.1, v.2.2.2.2.2.1, v.2.2.2.2.2.2.1, v.2.2.2.2.2.2.2.1, (zpt u18 (4 + x1) x9), v.2.2.2.2.2.2.2.2.2.1, v.2.2.2.2.2.2.2.2.2.2.1, v.2.2.2.2.2.2.2.2.2.2.2.1, m12, v.2.2.2.2.2.2.2.2.2.2.2.2.2) x2 x4 x5) : Option (Int32 × zAI × zAI)).bind (fun u27 => if u27.1 = 0 then (zlet (x8 ||| 0 : Int32) (fun d29 => fX7_stains_L74 n v x1 x2 x4 x5 x6 d29 (x9 + 1) u27.2.1 u27.2.2)) else (zlet (1 <<< (x9 &&& 31) : Int32) (fun d30 => zlet (x8 ||| d30 : Int32) (fun d31 => fX7_stains_L74 n v x1 x2 x4 x5 x6 d31 (x9 + 1) u27.2.1 u27.2.2)))))) else (zgrd (zix (14 + x1) 407) (((fX7_isStain (v.1, v.2.1, v.2.2.1, v.2.2.2.1, v.2.2.2.2.1, v.2.2.2.2.2.1, v.2.2.2.2.2.2.1, v.2.2.2.2.2.2.2.1, (zpt u18 (14 + x1) x9), v.2.2.2.2.2.2.2.2.2.1, v.2.2.2.2.2.2.2.2.2.2.1, v.2.2.2.2.2.2.2.2.2.2.2.1, m12, v.2.2.2.2.2.2.2.2.2.2.2.2.2) x2 x4 x5) : Option (Int32 × zAI × zAI)).bind (fun u21 => if u21.1 = 0 then (zlet (x8 ||| 0 : Int32) (fun d23 => fX7_stains_L74 n v x1 x2 x4 x5 x6 d23 (x9 + 1) u21.2.1 u21.2.2)) else (zlet (1 <<< (x9 &&& 31) : Int32) (fun d24 => zlet (x8 ||| d24 : Int32) (fun d25 => fX7_stains_L74 n v x1 x2 x4 x5 x6 d25 (x9 + 1) u21.2.1 u21.2.2))))))))) else (if 20 < x9 then (some (x8, m8, m12)) else (((fX7_begin (v.1, v.2.1, v.2.2.1, v.2.2.2.1, v.2.2.2.2.1, v.2.2.2.2.2.1, v.2.2.2.2.2.2.1, v.2.2.2.2.2.2.2.1, m8, v.2.2.2.2.2.2.2.2.2.1, v.2.2.2.2.2.2.2.2.2.2.1, v.2.2.2.2.2.2.2.2.2.2.2.1, m12, v.2.2.2.2.2.2.2.2.2.2.2.2.2)) : Option zAI).bind (fun u3 => if x6 = 0 then (zgrd (zix (4 + x1) 407) (((fX7_isStain (v.1, v.2.1, v.2.2.1, v.2.2.2.1, v.2.2.2.2.1, v.2.2.2.2.2.1, v.2.2.2.2.2.2.1, v.2.2.2.2.2.2.2.1, (zpt u3 (4 + x1) x9), v.2.2.2.2.2.2.2.2.2.1, v.2.2.2.2.2.2.2.2.2.2.1, v.2.2.2.2.2.2.2.2.2.2.2.1, m12, v.2.2.2.2.2.2.2.2.2.2.2.2.2) x2 x4 x5) : Option (Int32 × zAI × zAI)).bind (fun u12 => if u12.1 = 0 then (zlet (x8 ||| 0 : Int32) (fun d14 => fX7_stains_L74 n v x1 x2 x4 x5 x6 d14 (x9 + 1) u12.2.1 u12.2.2)) else (zlet (1 <<< (x9 &&& 31) : Int32) (fun d15 => zlet (x8 ||| d15 : Int32) (fun d16 => fX7_stains_L74 n v x1 x2 x4 x5 x6 d16 (x9 + 1) u12.2.1 u12.2.2)))))) else (zgrd (zix (14 + x1) 407) (((fX7_isStain (v.1, v.2.1, v.2.2.1, v.2.2.2.1, v.2.2.2.2.1, v.2.2.2.2.2.1, v.2.2.2.2.2.2.1, v.2.2.2.2.2.2.2.1, (zpt u3 (14 + x1) x9), v.2.2.2.2.2.2.2.2.2.1, v.2.2.2.2.2.2.2.2.2.2.1, v.2.2.2.2.2.2.2.2.2.2.2.1, m12, v.2.2.2.2.2.2.2.2.2.2.2.2.2) x2 x4 x5) : Option (Int32 × zAI × zAI)).bind (fun u6 => if u6.1 = 0 then (zlet (x8 ||| 0 : Int32) (fun d8 => fX7_stains_L74 n v x1 x2 x4 x5 x6 d8 (x9 + 1) u6.2.1 u6.2.2)) else (zlet (1 <<< (x9 &&& 31) : Int32) (fun d9 => zlet (x8 ||| d9 : Int32) (fun d10 => fX7_stains_L74 n v x1 x2 x4 x5 x6 d10 (x9 + 1) u6.2.1 u6.2.2)))))))))
set_option maxRecDepth 100000 in
set_option maxHeartbeats 4000000 in
theorem tX7_stains_l74 {X : zX} {l : Launch} {G : va_G} {ca : Nat → ClassId} {ad : Nat → Nat} (h : zOk X l G ca cX7_stains RX7 wsX7_stains 10 rX7_stains) : ∀ (n : Nat) (v : MV) (x1 : Int32) (x2 : Int32) (x4 : Int32) (x5 : Int32) (x6 : Int32) (x8 : Int32) (x9 : Int32) (m8 : zAI) (m12 : zAI) (out : (Int32 × zAI × zAI)), fX7_stains_L74 n v x1 x2 x4 x5 x6 x8 x9 m8 m12 = some out → (V X G 10 0 0 (wM ca ad (v.1, v.2.1, v.2.2.1, v.2.2.2.1, v.2.2.2.2.1, v.2.2.2.2.2.1, v.2.2.2.2.2.2.1, v.2.2.2.2.2.2.2.1, out.2.1, v.2.2.2.2.2.2.2.2.2.1, v.2.2.2.2.2.2.2.2.2.2.1, v.2.2.2.2.2.2.2.2.2.2.2.1, out.2.2, v.2.2.2.2.2.2.2.2.2.2.2.2.2)) 145 [(8, .int out.1)] []) → V X G 10 0 0 (wM ca ad (v.1, v.2.1, v.2.2.1, v.2.2.2.1, v.2.2.2.2.1, v.2.2.2.2.2.1, v.2.2.2.2.2.2.1, v.2.2.2.2.2.2.2.1, m8, v.2.2.2.2.2.2.2.2.2.1, v.2.2.2.2.2.2.2.2.2.2.1, v.2.2.2.2.2.2.2.2.2.2.2.1, m12, v.2.2.2.2.2.2.2.2.2.2.2.2.2)) 74 [(0, .ref (ad 0)), (1, .int x1), (2, .int x2), (4, .int x4), (5, .int x5), (6, .int x6), (8, .int x8), (9, .int x9)] [] := by
  intro n
  induction n with
  | zero => intro v x1 x2 x4 x5 x6 x8 x9 m8 m12 out hf; rw [fX7_stains_L74] at hf; cases hf
  | succ n ih =>
    intro v x1 x2 x4 x5 x6 x8 x9 m8 m12 out hf kx
    rw [fX7_stains_L74] at hf
    refine v_iload h dX7_stains_74 7 rfl 76 rfl ?_
    refine v_iload h dX7_stains_76 5 rfl 78 rfl ?_
    refine v_if_ne h dX7_stains_78 85 (by decide) 81 rfl (fun c1 => ?_) (fun c1 => ?_)
    · replace hf := zf c1 hf
      refine v_bipush h dX7_stains_85 20 rfl 87 rfl ?_
      refine v_icmp_gt h dX7_stains_87 145 (by decide) 90 rfl (fun c2 => ?_) (fun c2 => ?_)
      · replace hf := zt c2 hf
        cases (Option.some.inj hf)
        exact v_sub [6] rfl (kx)
      · replace hf := zf c2 hf
        refine v_aload_n h dX7_stains_90 0 rfl 91 rfl ?_
        obtain ⟨u3, hu3, hf⟩ := zb hf
        refine v_wcallVv h (rest := []) dX7_stains_91 (tX7_begin l G ca ad (v.1, v.2.1, v.2.2.1, v.2.2.2.1, v.2.2.2.2.1, v.2.2.2.2.2.1, v.2.2.2.2.2.2.1, v.2.2.2.2.2.2.2.1, m8, v.2.2.2.2.2.2.2.2.2.1, v.2.2.2.2.2.2.2.2.2.2.1, v.2.2.2.2.2.2.2.2.2.2.2.1, m12, v.2.2.2.2.2.2.2.2.2.2.2.2.2)  hu3) gX7_stains_X7_begin rfl rfl ⟨rfl, rfl⟩ nX7_begin ⟨Nat.le_of_ble_eq_true rfl, Nat.le_of_ble_eq_true rfl⟩ 0 rfl rfl rfl rfl (Nat.le_of_ble_eq_true rfl) ⟨Nat.zero_le _, Nat.zero_le _⟩ (wM_adr _ _ _ _) 94 rfl ?_
        refine v_aload_n h dX7_stains_94 0 rfl 95 rfl ?_
        refine v_get h (v := .ref (ad 6)) dX7_stains_95 iX7_stains_X7 0 rfl rfl 8 (by decide) (zwi 1 rfl) rfl 98 rfl ?_
        refine v_iload h dX7_stains_98 5 rfl 100 rfl ?_
        refine v_if_ne h dX7_stains_100 107 (by decide) 103 rfl (fun c4 => ?_) (fun c4 => ?_)
        · replace hf := zf c4 hf
          refine v_bipush h dX7_stains_107 14 rfl 109 rfl ?_
          refine v_iload_n h dX7_stains_109 1 rfl 110 rfl ?_
          refine v_iadd h dX7_stains_110 111 rfl ?_
          refine v_iload h dX7_stains_111 7 rfl 113 rfl ?_
          obtain ⟨g5, hf⟩ := zg hf
          refine v_iast h (f := u3) dX7_stains_113 6 0 rfl rfl (zix_in g5) (wM ca ad (v.1, v.2.1, v.2.2.1, v.2.2.2.1, v.2.2.2.2.1, v.2.2.2.2.2.1, v.2.2.2.2.2.2.1, v.2.2.2.2.2.2.2.1, (zpt u3 (14 + x1) x9), v.2.2.2.2.2.2.2.2.2.1, v.2.2.2.2.2.2.2.2.2.2.1, v.2.2.2.2.2.2.2.2.2.2.2.1, m12, v.2.2.2.2.2.2.2.2.2.2.2.2.2)) rfl 114 rfl ?_
          refine v_iload h dX7_stains_114 6 rfl 116 rfl ?_
          refine v_aload_n h dX7_stains_116 0 rfl 117 rfl ?_
          refine v_iload_n h dX7_stains_117 2 rfl 118 rfl ?_
          refine v_iload h dX7_stains_118 3 rfl 120 rfl ?_
          refine v_iload h dX7_stains_120 4 rfl 122 rfl ?_
          obtain ⟨u6, hu6, hf⟩ := zb hf
          refine v_wcallVi h (rest := [.int x8]) dX7_stains_122 (tX7_isStain l G ca ad (v.1, v.2.1, v.2.2.1, v.2.2.2.1, v.2.2.2.2.1, v.2.2.2.2.2.1, v.2.2.2.2.2.2.1, v.2.2.2.2.2.2.2.1, (zpt u3 (14 + x1) x9), v.2.2.2.2.2.2.2.2.2.1, v.2.2.2.2.2.2.2.2.2.2.1, v.2.2.2.2.2.2.2.2.2.2.2.1, m12, v.2.2.2.2.2.2.2.2.2.2.2.2.2) x2 x4 x5 hu6) gX7_stains_X7_isStain rfl rfl ⟨rfl, rfl⟩ nX7_isStain ⟨Nat.le_of_ble_eq_true rfl, Nat.le_of_ble_eq_true rfl⟩ 0 rfl rfl rfl rfl (Nat.le_of_ble_eq_true rfl) ⟨Nat.zero_le _, Nat.zero_le _⟩ (wM_adr _ _ _ _) 125 rfl ?_
          refine v_if_eq h dX7_stains_125 135 (by decide) 128 rfl (fun c7 => ?_) (fun c7 => ?_)
          · replace hf := zt c7 hf
            refine v_iconst h dX7_stains_135 0 rfl 136 rfl ?_
            refine v_ior h dX7_stains_136 137 rfl ?_
            obtain ⟨d8, ed8, hf⟩ := zl hf
            refine v_topi ed8 ?_
            refine v_istore h dX7_stains_137 (Nat.le_of_ble_eq_true rfl) rfl rfl [(0, .ref (ad 0)), (1, .int x1), (2, .int x2), (4, .int x4), (5, .int x5), (6, .int x6), (8, .int d8), (9, .int x9)] rfl 139 rfl ?_
            refine v_iinc h dX7_stains_139 7 rfl (x9 + 1) rfl (Nat.le_of_ble_eq_true rfl) rfl rfl [(0, .ref (ad 0)), (1, .int x1), (2, .int x2), (4, .int x4), (5, .int x5), (6, .int x6), (8, .int d8), (9, .int (x9 + 1))] rfl 142 rfl ?_
            refine v_goto h dX7_stains_142 74 (by decide) ?_
            exact v_sub [0, 1, 2, 3, 4, 5, 6, 7] rfl (ih v x1 x2 x4 x5 x6 d8 (x9 + 1) u6.2.1 u6.2.2 _ hf kx)
          · replace hf := zf c7 hf
            refine v_iconst h dX7_stains_128 1 rfl 129 rfl ?_
            refine v_iload h dX7_stains_129 7 rfl 131 rfl ?_
            refine v_ishl h dX7_stains_131 132 rfl ?_
            obtain ⟨d9, ed9, hf⟩ := zl hf
            refine v_topi ed9 ?_
            refine v_goto h dX7_stains_132 136 (by decide) ?_
            refine v_ior h dX7_stains_136 137 rfl ?_
            obtain ⟨d10, ed10, hf⟩ := zl hf
            refine v_topi ed10 ?_
            refine v_istore h dX7_stains_137 (Nat.le_of_ble_eq_true rfl) rfl rfl [(0, .ref (ad 0)), (1, .int x1), (2, .int x2), (4, .int x4), (5, .int x5), (6, .int x6), (8, .int d10), (9, .int x9)] rfl 139 rfl ?_
            refine v_iinc h dX7_stains_139 7 rfl (x9 + 1) rfl (Nat.le_of_ble_eq_true rfl) rfl rfl [(0, .ref (ad 0)), (1, .int x1), (2, .int x2), (4, .int x4), (5, .int x5), (6, .int x6), (8, .int d10), (9, .int (x9 + 1))] rfl 142 rfl ?_
            refine v_goto h dX7_stains_142 74 (by decide) ?_
            exact v_sub [0, 1, 2, 3, 4, 5, 6, 7] rfl (ih v x1 x2 x4 x5 x6 d10 (x9 + 1) u6.2.1 u6.2.2 _ hf kx)
        · replace hf := zt c4 hf
          refine v_iconst h dX7_stains_103 4 rfl 104 rfl ?_
          refine v_goto h dX7_stains_104 109 (by decide) ?_
          refine v_iload_n h dX7_stains_109 1 rfl 110 rfl ?_
          refine v_iadd h dX7_stains_110 111 rfl ?_
          refine v_iload h dX7_stains_111 7 rfl 113 rfl ?_
          obtain ⟨g11, hf⟩ := zg hf
          refine v_iast h (f := u3) dX7_stains_113 6 0 rfl rfl (zix_in g11) (wM ca ad (v.1, v.2.1, v.2.2.1, v.2.2.2.1, v.2.2.2.2.1, v.2.2.2.2.2.1, v.2.2.2.2.2.2.1, v.2.2.2.2.2.2.2.1, (zpt u3 (4 + x1) x9), v.2.2.2.2.2.2.2.2.2.1, v.2.2.2.2.2.2.2.2.2.2.1, v.2.2.2.2.2.2.2.2.2.2.2.1, m12, v.2.2.2.2.2.2.2.2.2.2.2.2.2)) rfl 114 rfl ?_
          refine v_iload h dX7_stains_114 6 rfl 116 rfl ?_
          refine v_aload_n h dX7_stains_116 0 rfl 117 rfl ?_
          refine v_iload_n h dX7_stains_117 2 rfl 118 rfl ?_
          refine v_iload h dX7_stains_118 3 rfl 120 rfl ?_
          refine v_iload h dX7_stains_120 4 rfl 122 rfl ?_
          obtain ⟨u12, hu12, hf⟩ := zb hf
          refine v_wcallVi h (rest := [.int x8]) dX7_stains_122 (tX7_isStain l G ca ad (v.1, v.2.1, v.2.2.1, v.2.2.2.1, v.2.2.2.2.1, v.2.2.2.2.2.1, v.2.2.2.2.2.2.1, v.2.2.2.2.2.2.2.1, (zpt u3 (4 + x1) x9), v.2.2.2.2.2.2.2.2.2.1, v.2.2.2.2.2.2.2.2.2.2.1, v.2.2.2.2.2.2.2.2.2.2.2.1, m12, v.2.2.2.2.2.2.2.2.2.2.2.2.2) x2 x4 x5 hu12) gX7_stains_X7_isStain rfl rfl ⟨rfl, rfl⟩ nX7_isStain ⟨Nat.le_of_ble_eq_true rfl, Nat.le_of_ble_eq_true rfl⟩ 0 rfl rfl rfl rfl (Nat.le_of_ble_eq_true rfl) ⟨Nat.zero_le _, Nat.zero_le _⟩ (wM_adr _ _ _ _) 125 rfl ?_
          refine v_if_eq h dX7_stains_125 135 (by decide) 128 rfl (fun c13 => ?_) (fun c13 => ?_)
          · replace hf := zt c13 hf
            refine v_iconst h dX7_stains_135 0 rfl 136 rfl ?_
            refine v_ior h dX7_stains_136 137 rfl ?_
            obtain ⟨d14, ed14, hf⟩ := zl hf
            refine v_topi ed14 ?_
            refine v_istore h dX7_stains_137 (Nat.le_of_ble_eq_true rfl) rfl rfl [(0, .ref (ad 0)), (1, .int x1), (2, .int x2), (4, .int x4), (5, .int x5), (6, .int x6), (8, .int d14), (9, .int x9)] rfl 139 rfl ?_
            refine v_iinc h dX7_stains_139 7 rfl (x9 + 1) rfl (Nat.le_of_ble_eq_true rfl) rfl rfl [(0, .ref (ad 0)), (1, .int x1), (2, .int x2), (4, .int x4), (5, .int x5), (6, .int x6), (8, .int d14), (9, .int (x9 + 1))] rfl 142 rfl ?_
            refine v_goto h dX7_stains_142 74 (by decide) ?_
            exact v_sub [0, 1, 2, 3, 4, 5, 6, 7] rfl (ih v x1 x2 x4 x5 x6 d14 (x9 + 1) u12.2.1 u12.2.2 _ hf kx)
          · replace hf := zf c13 hf
            refine v_iconst h dX7_stains_128 1 rfl 129 rfl ?_
            refine v_iload h dX7_stains_129 7 rfl 131 rfl ?_
            refine v_ishl h dX7_stains_131 132 rfl ?_
            obtain ⟨d15, ed15, hf⟩ := zl hf
            refine v_topi ed15 ?_
            refine v_goto h dX7_stains_132 136 (by decide) ?_
            refine v_ior h dX7_stains_136 137 rfl ?_
            obtain ⟨d16, ed16, hf⟩ := zl hf
            refine v_topi ed16 ?_
            refine v_istore h dX7_stains_137 (Nat.le_of_ble_eq_true rfl) rfl rfl [(0, .ref (ad 0)), (1, .int x1), (2, .int x2), (4, .int x4), (5, .int x5), (6, .int x6), (8, .int d16), (9, .int x9)] rfl 139 rfl ?_
            refine v_iinc h dX7_stains_139 7 rfl (x9 + 1) rfl (Nat.le_of_ble_eq_true rfl) rfl rfl [(0, .ref (ad 0)), (1, .int x1), (2, .int x2), (4, .int x4), (5, .int x5), (6, .int x6), (8, .int d16), (9, .int (x9 + 1))] rfl 142 rfl ?_
            refine v_goto h dX7_stains_142 74 (by decide) ?_
            exact v_sub [0, 1, 2, 3, 4, 5, 6, 7] rfl (ih v x1 x2 x4 x5 x6 d16 (x9 + 1) u12.2.1 u12.2.2 _ hf kx)
    · replace hf := zt c1 hf
      refine v_iconst h dX7_stains_81 4 rfl 82 rfl ?_
      refine v_goto h dX7_stains_82 87 (by decide) ?_
      refine v_icmp_gt h dX7_stains_87 145 (by decide) 90 rfl (fun c17 => ?_) (fun c17 => ?_)
      · replace hf := zt c17 hf
        cases (Option.some.inj hf)
        exact v_sub [6] rfl (kx)
      · replace hf := zf c17 hf
        refine v_aload_n h dX7_stains_90 0 rfl 91 rfl ?_
        obtain ⟨u18, hu18, hf⟩ := zb hf
        refine v_wcallVv h (rest := []) dX7_stains_91 (tX7_begin l G ca ad (v.1, v.2.1, v.2.2.1, v.2.2.2.1, v.2.2.2.2.1, v.2.2.2.2.2.1, v.2.2.2.2.2.2.1, v.2.2.2.2.2.2.2.1, m8, v.2.2.2.2.2.2.2.2.2.1, v.2.2.2.2.2.2.2.2.2.2.1, v.2.2.2.2.2.2.2.2.2.2.2.1, m12, v.2.2.2.2.2.2.2.2.2.2.2.2.2)  hu18) gX7_stains_X7_begin rfl rfl ⟨rfl, rfl⟩ nX7_begin ⟨Nat.le_of_ble_eq_true rfl, Nat.le_of_ble_eq_true rfl⟩ 0 rfl rfl rfl rfl (Nat.le_of_ble_eq_true rfl) ⟨Nat.zero_le _, Nat.zero_le _⟩ (wM_adr _ _ _ _) 94 rfl ?_
        refine v_aload_n h dX7_stains_94 0 rfl 95 rfl ?_
        refine v_get h (v := .ref (ad 6)) dX7_stains_95 iX7_stains_X7 0 rfl rfl 8 (by decide) (zwi 1 rfl) rfl 98 rfl ?_
        refine v_iload h dX7_stains_98 5 rfl 100 rfl ?_
        refine v_if_ne h dX7_stains_100 107 (by decide) 103 rfl (fun c19 => ?_) (fun c19 => ?_)
        · replace hf := zf c19 hf
          refine v_bipush h dX7_stains_107 14 rfl 109 rfl ?_
          refine v_iload_n h dX7_stains_109 1 rfl 110 rfl ?_
          refine v_iadd h dX7_stains_110 111 rfl ?_
          refine v_iload h dX7_stains_111 7 rfl 113 rfl ?_
          obtain ⟨g20, hf⟩ := zg hf
          refine v_iast h (f := u18) dX7_stains_113 6 0 rfl rfl (zix_in g20) (wM ca ad (v.1, v.2.1, v.2.2.1, v.2.2.2.1, v.2.2.2.2.1, v.2.2.2.2.2.1, v.2.2.2.2.2.2.1, v.2.2.2.2.2.2.2.1, (zpt u18 (14 + x1) x9), v.2.2.2.2.2.2.2.2.2.1, v.2.2.2.2.2.2.2.2.2.2.1, v.2.2.2.2.2.2.2.2.2.2.2.1, m12, v.2.2.2.2.2.2.2.2.2.2.2.2.2)) rfl 114 rfl ?_
          refine v_iload h dX7_stains_114 6 rfl 116 rfl ?_
          refine v_aload_n h dX7_stains_116 0 rfl 117 rfl ?_
          refine v_iload_n h dX7_stains_117 2 rfl 118 rfl ?_
          refine v_iload h dX7_stains_118 3 rfl 120 rfl ?_
          refine v_iload h dX7_stains_120 4 rfl 122 rfl ?_
          obtain ⟨u21, hu21, hf⟩ := zb hf
          refine v_wcallVi h (rest := [.int x8]) dX7_stains_122 (tX7_isStain l G ca ad (v.1, v.2.1, v.2.2.1, v.2.2.2.1, v.2.2.2.2.1, v.2.2.2.2.2.1, v.2.2.2.2.2.2.1, v.2.2.2.2.2.2.2.1, (zpt u18 (14 + x1) x9), v.2.2.2.2.2.2.2.2.2.1, v.2.2.2.2.2.2.2.2.2.2.1, v.2.2.2.2.2.2.2.2.2.2.2.1, m12, v.2.2.2.2.2.2.2.2.2.2.2.2.2) x2 x4 x5 hu21) gX7_stains_X7_isStain rfl rfl ⟨rfl, rfl⟩ nX7_isStain ⟨Nat.le_of_ble_eq_true rfl, Nat.le_of_ble_eq_true rfl⟩ 0 rfl rfl rfl rfl (Nat.le_of_ble_eq_true rfl) ⟨Nat.zero_le _, Nat.zero_le _⟩ (wM_adr _ _ _ _) 125 rfl ?_
          refine v_if_eq h dX7_stains_125 135 (by decide) 128 rfl (fun c22 => ?_) (fun c22 => ?_)
          · replace hf := zt c22 hf
            refine v_iconst h dX7_stains_135 0 rfl 136 rfl ?_
            refine v_ior h dX7_stains_136 137 rfl ?_
            obtain ⟨d23, ed23, hf⟩ := zl hf
            refine v_topi ed23 ?_
            refine v_istore h dX7_stains_137 (Nat.le_of_ble_eq_true rfl) rfl rfl [(0, .ref (ad 0)), (1, .int x1), (2, .int x2), (4, .int x4), (5, .int x5), (6, .int x6), (8, .int d23), (9, .int x9)] rfl 139 rfl ?_
            refine v_iinc h dX7_stains_139 7 rfl (x9 + 1) rfl (Nat.le_of_ble_eq_true rfl) rfl rfl [(0, .ref (ad 0)), (1, .int x1), (2, .int x2), (4, .int x4), (5, .int x5), (6, .int x6), (8, .int d23), (9, .int (x9 + 1))] rfl 142 rfl ?_
            refine v_goto h dX7_stains_142 74 (by decide) ?_
            exact v_sub [0, 1, 2, 3, 4, 5, 6, 7] rfl (ih v x1 x2 x4 x5 x6 d23 (x9 + 1) u21.2.1 u21.2.2 _ hf kx)
          · replace hf := zf c22 hf
            refine v_iconst h dX7_stains_128 1 rfl 129 rfl ?_
            refine v_iload h dX7_stains_129 7 rfl 131 rfl ?_
            refine v_ishl h dX7_stains_131 132 rfl ?_
            obtain ⟨d24, ed24, hf⟩ := zl hf
            refine v_topi ed24 ?_
            refine v_goto h dX7_stains_132 136 (by decide) ?_
            refine v_ior h dX7_stains_136 137 rfl ?_
            obtain ⟨d25, ed25, hf⟩ := zl hf
            refine v_topi ed25 ?_
            refine v_istore h dX7_stains_137 (Nat.le_of_ble_eq_true rfl) rfl rfl [(0, .ref (ad 0)), (1, .int x1), (2, .int x2), (4, .int x4), (5, .int x5), (6, .int x6), (8, .int d25), (9, .int x9)] rfl 139 rfl ?_
            refine v_iinc h dX7_stains_139 7 rfl (x9 + 1) rfl (Nat.le_of_ble_eq_true rfl) rfl rfl [(0, .ref (ad 0)), (1, .int x1), (2, .int x2), (4, .int x4), (5, .int x5), (6, .int x6), (8, .int d25), (9, .int (x9 + 1))] rfl 142 rfl ?_
            refine v_goto h dX7_stains_142 74 (by decide) ?_
            exact v_sub [0, 1, 2, 3, 4, 5, 6, 7] rfl (ih v x1 x2 x4 x5 x6 d25 (x9 + 1) u21.2.1 u21.2.2 _ hf kx)
        · replace hf := zt c19 hf
          refine v_iconst h dX7_stains_103 4 rfl 104 rfl ?_
          refine v_goto h dX7_stains_104 109 (by decide) ?_
          refine v_iload_n h dX7_stains_109 1 rfl 110 rfl ?_
          refine v_iadd h dX7_stains_110 111 rfl ?_
          refine v_iload h dX7_stains_111 7 rfl 113 rfl ?_
          obtain ⟨g26, hf⟩ := zg hf
          refine v_iast h (f := u18) dX7_stains_113 6 0 rfl rfl (zix_in g26) (wM ca ad (v.1, v.2.1, v.2.2.1, v.2.2.2.1, v.2.2.2.2.1, v.2.2.2.2.2.1, v.2.2.2.2.2.2.1, v.2.2.2.2.2.2.2.1, (zpt u18 (4 + x1) x9), v.2.2.2.2.2.2.2.2.2.1, v.2.2.2.2.2.2.2.2.2.2.1, v.2.2.2.2.2.2.2.2.2.2.2.1, m12, v.2.2.2.2.2.2.2.2.2.2.2.2.2)) rfl 114 rfl ?_
          refine v_iload h dX7_stains_114 6 rfl 116 rfl ?_
          refine v_aload_n h dX7_stains_116 0 rfl 117 rfl ?_
          refine v_iload_n h dX7_stains_117 2 rfl 118 rfl ?_
          refine v_iload h dX7_stains_118 3 rfl 120 rfl ?_
          refine v_iload h dX7_stains_120 4 rfl 122 rfl ?_
          obtain ⟨u27, hu27, hf⟩ := zb hf
          refine v_wcallVi h (rest := [.int x8]) dX7_stains_122 (tX7_isStain l G ca ad (v.1, v.2.1, v.2.2.1, v.2.2.2.1, v.2.2.2.2.1, v.2.2.2.2.2.1, v.2.2.2.2.2.2.1, v.2.2.2.2.2.2.2.1, (zpt u18 (4 + x1) x9), v.2.2.2.2.2.2.2.2.2.1, v.2.2.2.2.2.2.2.2.2.2.1, v.2.2.2.2.2.2.2.2.2.2.2.1, m12, v.2.2.2.2.2.2.2.2.2.2.2.2.2) x2 x4 x5 hu27) gX7_stains_X7_isStain rfl rfl ⟨rfl, rfl⟩ nX7_isStain ⟨Nat.le_of_ble_eq_true rfl, Nat.le_of_ble_eq_true rfl⟩ 0 rfl rfl rfl rfl (Nat.le_of_ble_eq_true rfl) ⟨Nat.zero_le _, Nat.zero_le _⟩ (wM_adr _ _ _ _) 125 rfl ?_
          refine v_if_eq h dX7_stains_125 135 (by decide) 128 rfl (fun c28 => ?_) (fun c28 => ?_)
          · replace hf := zt c28 hf
            refine v_iconst h dX7_stains_135 0 rfl 136 rfl ?_
            refine v_ior h dX7_stains_136 137 rfl ?_
            obtain ⟨d29, ed29, hf⟩ := zl hf
            refine v_topi ed29 ?_
            refine v_istore h dX7_stains_137 (Nat.le_of_ble_eq_true rfl) rfl rfl [(0, .ref (ad 0)), (1, .int x1), (2, .int x2), (4, .int x4), (5, .int x5), (6, .int x6), (8, .int d29), (9, .int x9)] rfl 139 rfl ?_
            refine v_iinc h dX7_stains_139 7 rfl (x9 + 1) rfl (Nat.le_of_ble_eq_true rfl) rfl rfl [(0, .ref (ad 0)), (1, .int x1), (2, .int x2), (4, .int x4), (5, .int x5), (6, .int x6), (8, .int d29), (9, .int (x9 + 1))] rfl 142 rfl ?_
            refine v_goto h dX7_stains_142 74 (by decide) ?_
            exact v_sub [0, 1, 2, 3, 4, 5, 6, 7] rfl (ih v x1 x2 x4 x5 x6 d29 (x9 + 1) u27.2.1 u27.2.2 _ hf kx)
          · replace hf := zf c28 hf
            refine v_iconst h dX7_stains_128 1 rfl 129 rfl ?_
            refine v_iload h dX7_stains_129 7 rfl 131 rfl ?_
            refine v_ishl h dX7_stains_131 132 rfl ?_
            obtain ⟨d30, ed30, hf⟩ := zl hf
            refine v_topi ed30 ?_
            refine v_goto h dX7_stains_132 136 (by decide) ?_
            refine v_ior h dX7_stains_136 137 rfl ?_
            obtain ⟨d31, ed31, hf⟩ := zl hf
            refine v_topi ed31 ?_
            refine v_istore h dX7_stains_137 (Nat.le_of_ble_eq_true rfl) rfl rfl [(0, .ref (ad 0)), (1, .int x1), (2, .int x2), (4, .int x4), (5, .int x5), (6, .int x6), (8, .int d31), (9, .int x9)] rfl 139 rfl ?_
            refine v_iinc h dX7_stains_139 7 rfl (x9 + 1) rfl (Nat.le_of_ble_eq_true rfl) rfl rfl [(0, .ref (ad 0)), (1, .int x1), (2, .int x2), (4, .int x4), (5, .int x5), (6, .int x6), (8, .int d31), (9, .int (x9 + 1))] rfl 142 rfl ?_
            refine v_goto h dX7_stains_142 74 (by decide) ?_
            exact v_sub [0, 1, 2, 3, 4, 5, 6, 7] rfl (ih v x1 x2 x4 x5 x6 d31 (x9 + 1) u27.2.1 u27.2.2 _ hf kx)
def fX7_stains (v : MV) (x1 : Int32) (x2 : Int32) (x3 : Int32) (x4 : Int32) (x5 : Int32) (x6 : Int32) : Option (Int32 × zAI × zAI) := ((fX7_isCoat v x1) : Option Int32).bind (fun u1 => if u1 = 0 then (some ((-1), v.2.2.2.2.2.2.2.2.1, v.2.2.2.2.2.2.2.2.2.2.2.2.1)) else (((fX7_isSheet x2) : Option Int32).bind (fun u3 => if u3 = 0 then (some ((-1), v.2.2.2.2.2.2.2.2.1, v.2.2.2.2.2.2.2.2.2.2.2.2.1)) else (((fX7_in x3 0 3) : Option Int32).bind (fun u5 => if u5 = 0 then (some ((-1), v.2.2.2.2.2.2.2.2.1, v.2.2.2.2.2.2.2.2.2.2.2.2.1)) else (((fX7_in x5 1 8) : Option Int32).bind (fun u7 => if u7 = 0 then (some ((-1), v.2.2.2.2.2.2.2.2.1, v.2.2.2.2.2.2.2.2.2.2.2.2.1)) else (((fX7_in x6 0 1) : Option Int32).bind (fun u9 => if u9 = 0 then (some ((-1), v.2.2.2.2.2.2.2.2.1, v.2.2.2.2.2.2.2.2.2.2.2.2.1)) else (((fX7_wrong v x2 x3 x4 x5) : Option Int32).bind (fun u11 => if u11 = 0 then (((fX7_stains_L74 zF v x1 x2 x4 x5 x6 0 x6 v.2.2.2.2.2.2.2.2.1 v.2.2.2.2.2.2.2.2.2.2.2.2.1) : Option (Int32 × zAI × zAI)).bind (fun u13 => some (u13.1, u13.2.1, u13.2.2))) else (some (u11, v.2.2.2.2.2.2.2.2.1, v.2.2.2.2.2.2.2.2.2.2.2.2.1)))))))))))))
set_option maxRecDepth 100000 in
set_option maxHeartbeats 4000000 in
theorem tX7_stains (l : Launch) (G : va_G) (ca : Nat → ClassId) (ad : Nat → Nat) (v : MV) (x1 : Int32) (x2 : Int32) (x3 : Int32) (x4 : Int32) (x5 : Int32) (x6 : Int32) {o : (Int32 × zAI × zAI)} (hf : fX7_stains v x1 x2 x3 x4 x5 x6 = some o) : zMi l yX7_stains wsX7_stains rX7_stains G ca [.ref (ad 0), .int x1, .int x2, .int x3, .int x4, .int x5, .int x6] (wM ca ad v) o.1 (wM ca ad (v.1, v.2.1, v.2.2.1, v.2.2.2.1, v.2.2.2.2.1, v.2.2.2.2.2.1, v.2.2.2.2.2.2.1, v.2.2.2.2.2.2.2.1, o.2.1, v.2.2.2.2.2.2.2.2.2.1, v.2.2.2.2.2.2.2.2.2.2.1, v.2.2.2.2.2.2.2.2.2.2.2.1, o.2.2, v.2.2.2.2.2.2.2.2.2.2.2.2.2)) := by
  refine zMi.of (cc := cX7_stains) (nL := 10) (own := RX7) (ty := .int) (by decide) rfl rfl (Nat.le_of_ble_eq_true rfl) (fun X h hE => ?_)
  show V X G 10 0 0 (wM ca ad v) 0 [(0, .ref (ad 0)), (1, .int x1), (2, .int x2), (3, .int x3), (4, .int x4), (5, .int x5), (6, .int x6)] []
  unfold fX7_stains at hf
  refine v_aload_n h dX7_stains_0 0 rfl 1 rfl ?_
  refine v_iload_n h dX7_stains_1 1 rfl 2 rfl ?_
  obtain ⟨u1, hu1, hf⟩ := zb hf
  refine v_wcallVi h (rest := []) dX7_stains_2 (tX7_isCoat l G ca ad v x1 hu1) gX7_stains_X7_isCoat rfl rfl ⟨rfl, rfl⟩ nX7_isCoat ⟨Nat.le_of_ble_eq_true rfl, Nat.le_of_ble_eq_true rfl⟩ 0 rfl rfl rfl rfl (Nat.le_of_ble_eq_true rfl) ⟨Nat.zero_le _, Nat.zero_le _⟩ (wM_adr _ _ _ _) 5 rfl ?_
  refine v_if_eq h dX7_stains_5 45 (by decide) 8 rfl (fun c2 => ?_) (fun c2 => ?_)
  · replace hf := zt c2 hf
    refine v_iconst h dX7_stains_45 (-1) rfl 46 rfl ?_
    cases (Option.some.inj hf)
    exact hE 46 _ rfl dX7_stains_46
  · replace hf := zf c2 hf
    refine v_iload_n h dX7_stains_8 2 rfl 9 rfl ?_
    obtain ⟨u3, hu3, hf⟩ := zb hf
    refine v_callSi h (rest := []) dX7_stains_9 (tX7_isSheet l G ca   x2 hu3) gX7_stains_X7_isSheet rfl ⟨rfl, rfl⟩ nX7_isSheet ⟨Nat.le_of_ble_eq_true rfl, Nat.le_of_ble_eq_true rfl⟩ [] rfl rfl rfl rfl (Nat.le_of_ble_eq_true rfl) ⟨Nat.zero_le _, Nat.zero_le _⟩ rfl (wM ca ad v) rfl (wM_adr _ _ _ _) 12 rfl ?_
    refine v_if_eq h dX7_stains_12 45 (by decide) 15 rfl (fun c4 => ?_) (fun c4 => ?_)
    · replace hf := zt c4 hf
      refine v_iconst h dX7_stains_45 (-1) rfl 46 rfl ?_
      cases (Option.some.inj hf)
      exact hE 46 _ rfl dX7_stains_46
    · replace hf := zf c4 hf
      refine v_iload_n h dX7_stains_15 3 rfl 16 rfl ?_
      refine v_iconst h dX7_stains_16 0 rfl 17 rfl ?_
      refine v_iconst h dX7_stains_17 3 rfl 18 rfl ?_
      obtain ⟨u5, hu5, hf⟩ := zb hf
      refine v_callSi h (rest := []) dX7_stains_18 (tX7_in l G ca   x3 0 3 hu5) gX7_stains_X7_in rfl ⟨rfl, rfl⟩ nX7_in ⟨Nat.le_of_ble_eq_true rfl, Nat.le_of_ble_eq_true rfl⟩ [] rfl rfl rfl rfl (Nat.le_of_ble_eq_true rfl) ⟨Nat.zero_le _, Nat.zero_le _⟩ rfl (wM ca ad v) rfl (wM_adr _ _ _ _) 21 rfl ?_
      refine v_if_eq h dX7_stains_21 45 (by decide) 24 rfl (fun c6 => ?_) (fun c6 => ?_)
      · replace hf := zt c6 hf
        refine v_iconst h dX7_stains_45 (-1) rfl 46 rfl ?_
        cases (Option.some.inj hf)
        exact hE 46 _ rfl dX7_stains_46
      · replace hf := zf c6 hf
        refine v_iload h dX7_stains_24 5 rfl 26 rfl ?_
        refine v_iconst h dX7_stains_26 1 rfl 27 rfl ?_
        refine v_bipush h dX7_stains_27 8 rfl 29 rfl ?_
        obtain ⟨u7, hu7, hf⟩ := zb hf
        refine v_callSi h (rest := []) dX7_stains_29 (tX7_in l G ca   x5 1 8 hu7) gX7_stains_X7_in rfl ⟨rfl, rfl⟩ nX7_in ⟨Nat.le_of_ble_eq_true rfl, Nat.le_of_ble_eq_true rfl⟩ [] rfl rfl rfl rfl (Nat.le_of_ble_eq_true rfl) ⟨Nat.zero_le _, Nat.zero_le _⟩ rfl (wM ca ad v) rfl (wM_adr _ _ _ _) 32 rfl ?_
        refine v_if_eq h dX7_stains_32 45 (by decide) 35 rfl (fun c8 => ?_) (fun c8 => ?_)
        · replace hf := zt c8 hf
          refine v_iconst h dX7_stains_45 (-1) rfl 46 rfl ?_
          cases (Option.some.inj hf)
          exact hE 46 _ rfl dX7_stains_46
        · replace hf := zf c8 hf
          refine v_iload h dX7_stains_35 6 rfl 37 rfl ?_
          refine v_iconst h dX7_stains_37 0 rfl 38 rfl ?_
          refine v_iconst h dX7_stains_38 1 rfl 39 rfl ?_
          obtain ⟨u9, hu9, hf⟩ := zb hf
          refine v_callSi h (rest := []) dX7_stains_39 (tX7_in l G ca   x6 0 1 hu9) gX7_stains_X7_in rfl ⟨rfl, rfl⟩ nX7_in ⟨Nat.le_of_ble_eq_true rfl, Nat.le_of_ble_eq_true rfl⟩ [] rfl rfl rfl rfl (Nat.le_of_ble_eq_true rfl) ⟨Nat.zero_le _, Nat.zero_le _⟩ rfl (wM ca ad v) rfl (wM_adr _ _ _ _) 42 rfl ?_
          refine v_if_ne h dX7_stains_42 47 (by decide) 45 rfl (fun c10 => ?_) (fun c10 => ?_)
          · replace hf := zf c10 hf
            refine v_aload_n h dX7_stains_47 0 rfl 48 rfl ?_
            refine v_iload_n h dX7_stains_48 2 rfl 49 rfl ?_
            refine v_iload_n h dX7_stains_49 3 rfl 50 rfl ?_
            refine v_iload h dX7_stains_50 4 rfl 52 rfl ?_
            refine v_iload h dX7_stains_52 5 rfl 54 rfl ?_
            obtain ⟨u11, hu11, hf⟩ := zb hf
            refine v_wcallVi h (rest := []) dX7_stains_54 (tX7_wrong l G ca ad v x2 x3 x4 x5 hu11) gX7_stains_X7_wrong rfl rfl ⟨rfl, rfl⟩ nX7_wrong ⟨Nat.le_of_ble_eq_true rfl, Nat.le_of_ble_eq_true rfl⟩ 0 rfl rfl rfl rfl (Nat.le_of_ble_eq_true rfl) ⟨Nat.zero_le _, Nat.zero_le _⟩ (wM_adr _ _ _ _) 57 rfl ?_
            refine v_istore h dX7_stains_57 (Nat.le_of_ble_eq_true rfl) rfl rfl [(0, .ref (ad 0)), (1, .int x1), (2, .int x2), (3, .int x3), (4, .int x4), (5, .int x5), (6, .int x6), (7, .int u11)] rfl 59 rfl ?_
            refine v_iload h dX7_stains_59 7 rfl 61 rfl ?_
            refine v_if_eq h dX7_stains_61 67 (by decide) 64 rfl (fun c12 => ?_) (fun c12 => ?_)
            · replace hf := zt c12 hf
              refine v_iconst h dX7_stains_67 0 rfl 68 rfl ?_
              refine v_istore h dX7_stains_68 (Nat.le_of_ble_eq_true rfl) rfl rfl [(0, .ref (ad 0)), (1, .int x1), (2, .int x2), (3, .int x3), (4, .int x4), (5, .int x5), (6, .int x6), (7, .int u11), (8, .int 0)] rfl 70 rfl ?_
              refine v_iload h dX7_stains_70 6 rfl 72 rfl ?_
              refine v_istore h dX7_stains_72 (Nat.le_of_ble_eq_true rfl) rfl rfl [(0, .ref (ad 0)), (1, .int x1), (2, .int x2), (3, .int x3), (4, .int x4), (5, .int x5), (6, .int x6), (7, .int u11), (8, .int 0), (9, .int x6)] rfl 74 rfl ?_
              obtain ⟨u13, hu13, hf⟩ := zb hf
              refine v_sub [0, 1, 2, 4, 5, 6, 8, 9] rfl ?_
              refine tX7_stains_l74 h zF v x1 x2 x4 x5 x6 0 x6 v.2.2.2.2.2.2.2.2.1 v.2.2.2.2.2.2.2.2.2.2.2.2.1 _ hu13 ?_
              refine v_iload h dX7_stains_145 0 rfl 147 rfl ?_
              cases (Option.some.inj hf)
              exact hE 147 _ rfl dX7_stains_147
            · replace hf := zf c12 hf
              refine v_iload h dX7_stains_64 7 rfl 66 rfl ?_
              cases (Option.some.inj hf)
              exact hE 66 _ rfl dX7_stains_66
          · replace hf := zt c10 hf
            refine v_iconst h dX7_stains_45 (-1) rfl 46 rfl ?_
            cases (Option.some.inj hf)
            exact hE 46 _ rfl dX7_stains_46
abbrev rX7_film : Room := { frames := 4, cells := 0, slots := 0, locals := 94 }
theorem nX7_film : zNoMH yX7_film 4 := ⟨by decide +kernel, by decide +kernel, by decide +kernel⟩
theorem iX7_film_X7 : ∀ w ∈ wsX70, w ∈ wsX7_film := fun _ h => (List.mem_cons_of_mem _ (List.mem_append_right _ h))
def fX7_film_L54 : Nat → MV → Int32 → Int32 → Int32 → Int32 → Int32 → zAL → zAI → zAI → Option (zAL × zAI × zAI)
  | 0, _, _, _, _, _, _, _, _, _ => none
  | n + 1, v, x1, x2, x3, x4, x6, m2, m8, m12 => if x1 ≤ x6 then (some (m2, m8, m12)) else (((fX7_yearIn m12 m8) : Option (Int32 × zAI × zAI)).bind (fun u2 => ((fX7_cutTo x3 u2.1.toInt64) : Option Int64).bind (fun u3 => zgrd (zix (((24 * x2) + x4) + x6) 96) (fX7_film_L54 n v x1 x2 x3 x4 (x6 + 1) (zptL m2 (((24 * x2) + x4) + x6) u3) u2.2.2 u2.2.1))))
set_option maxRecDepth 100000 in
set_option maxHeartbeats 4000000 in
theorem tX7_film_l54 {X : zX} {l : Launch} {G : va_G} {ca : Nat → ClassId} {ad : Nat → Nat} (h : zOk X l G ca cX7_film RX7 wsX7_film 7 rX7_film) : ∀ (n : Nat) (v : MV) (x1 : Int32) (x2 : Int32) (x3 : Int32) (x4 : Int32) (x6 : Int32) (m2 : zAL) (m8 : zAI) (m12 : zAI) (out : (zAL × zAI × zAI)), fX7_film_L54 n v x1 x2 x3 x4 x6 m2 m8 m12 = some out → (V X G 7 0 0 (wM ca ad (v.1, v.2.1, out.1, v.2.2.2.1, v.2.2.2.2.1, v.2.2.2.2.2.1, v.2.2.2.2.2.2.1, v.2.2.2.2.2.2.2.1, out.2.1, v.2.2.2.2.2.2.2.2.2.1, v.2.2.2.2.2.2.2.2.2.2.1, v.2.2.2.2.2.2.2.2.2.2.2.1, out.2.2, v.2.2.2.2.2.2.2.2.2.2.2.2.2)) 94 [(1, .int x1)] []) → V X G 7 0 0 (wM ca ad (v.1, v.2.1, m2, v.2.2.2.1, v.2.2.2.2.1, v.2.2.2.2.2.1, v.2.2.2.2.2.2.1, v.2.2.2.2.2.2.2.1, m8, v.2.2.2.2.2.2.2.2.2.1, v.2.2.2.2.2.2.2.2.2.2.1, v.2.2.2.2.2.2.2.2.2.2.2.1, m12, v.2.2.2.2.2.2.2.2.2.2.2.2.2)) 54 [(0, .ref (ad 0)), (1, .int x1), (2, .int x2), (3, .int x3), (4, .int x4), (6, .int x6)] [] := by
  intro n
  induction n with
  | zero => intro v x1 x2 x3 x4 x6 m2 m8 m12 out hf; rw [fX7_film_L54] at hf; cases hf
  | succ n ih =>
    intro v x1 x2 x3 x4 x6 m2 m8 m12 out hf kx
    rw [fX7_film_L54] at hf
    refine v_iload h dX7_film_54 5 rfl 56 rfl ?_
    refine v_iload_n h dX7_film_56 1 rfl 57 rfl ?_
    refine v_icmp_ge h dX7_film_57 94 (by decide) 60 rfl (fun c1 => ?_) (fun c1 => ?_)
    · replace hf := zt c1 hf
      cases (Option.some.inj hf)
      exact v_sub [1] rfl (kx)
    · replace hf := zf c1 hf
      refine v_aload_n h dX7_film_60 0 rfl 61 rfl ?_
      refine v_get h (v := .ref (ad 3)) dX7_film_61 iX7_film_X7 0 rfl rfl 2 (by decide) (zwi 1 rfl) rfl 64 rfl ?_
      refine v_bipush h dX7_film_64 24 rfl 66 rfl ?_
      refine v_iload_n h dX7_film_66 2 rfl 67 rfl ?_
      refine v_imul h dX7_film_67 68 rfl ?_
      refine v_iload h dX7_film_68 4 rfl 70 rfl ?_
      refine v_iadd h dX7_film_70 71 rfl ?_
      refine v_iload h dX7_film_71 5 rfl 73 rfl ?_
      refine v_iadd h dX7_film_73 74 rfl ?_
      refine v_iload_n h dX7_film_74 3 rfl 75 rfl ?_
      refine v_aload_n h dX7_film_75 0 rfl 76 rfl ?_
      refine v_aload_n h dX7_film_76 0 rfl 77 rfl ?_
      refine v_get h (v := .ref (ad 6)) dX7_film_77 iX7_film_X7 0 rfl rfl 8 (by decide) (zwi 2 rfl) rfl 80 rfl ?_
      obtain ⟨u2, hu2, hf⟩ := zb hf
      refine v_callVi h (rest := [.int x3, .int (((24 * x2) + x4) + x6), .ref (ad 3)]) dX7_film_80 (tX7_yearIn l G ca ad (ad 6) (v.1, v.2.1, m2, v.2.2.2.1, v.2.2.2.2.1, v.2.2.2.2.2.1, v.2.2.2.2.2.2.1, v.2.2.2.2.2.2.2.1, m8, v.2.2.2.2.2.2.2.2.2.1, v.2.2.2.2.2.2.2.2.2.2.1, v.2.2.2.2.2.2.2.2.2.2.2.1, m12, v.2.2.2.2.2.2.2.2.2.2.2.2.2) m12 m8  hu2) gX7_film_X7_yearIn rfl rfl ⟨rfl, rfl⟩ nX7_yearIn ⟨Nat.le_of_ble_eq_true rfl, Nat.le_of_ble_eq_true rfl⟩ [0, 9, 6] rfl rfl 0 rfl rfl rfl rfl (Nat.le_of_ble_eq_true rfl) ⟨Nat.zero_le _, Nat.zero_le _⟩ rfl (wM ca ad (v.1, v.2.1, m2, v.2.2.2.1, v.2.2.2.2.1, v.2.2.2.2.2.1, v.2.2.2.2.2.2.1, v.2.2.2.2.2.2.2.1, u2.2.2, v.2.2.2.2.2.2.2.2.2.1, v.2.2.2.2.2.2.2.2.2.2.1, v.2.2.2.2.2.2.2.2.2.2.2.1, u2.2.1, v.2.2.2.2.2.2.2.2.2.2.2.2.2)) rfl (wM_adr _ _ _ _) 83 rfl ?_
      refine v_i2l h dX7_film_83 84 rfl ?_
      obtain ⟨u3, hu3, hf⟩ := zb hf
      refine v_callSl h (rest := [.int (((24 * x2) + x4) + x6), .ref (ad 3)]) dX7_film_84 (tX7_cutTo l G ca   x3 u2.1.toInt64 hu3) gX7_film_X7_cutTo rfl ⟨rfl, rfl⟩ nX7_cutTo ⟨Nat.le_of_ble_eq_true rfl, Nat.le_of_ble_eq_true rfl⟩ [] rfl rfl rfl rfl (Nat.le_of_ble_eq_true rfl) ⟨Nat.zero_le _, Nat.zero_le _⟩ rfl (wM ca ad (v.1, v.2.1, m2, v.2.2.2.1, v.2.2.2.2.1, v.2.2.2.2.2.1, v.2.2.2.2.2.2.1, v.2.2.2.2.2.2.2.1, u2.2.2, v.2.2.2.2.2.2.2.2.2.1, v.2.2.2.2.2.2.2.2.2.2.1, v.2.2.2.2.2.2.2.2.2.2.2.1, u2.2.1, v.2.2.2.2.2.2.2.2.2.2.2.2.2)) rfl (wM_adr _ _ _ _) 87 rfl ?_
      obtain ⟨g4, hf⟩ := zg hf
      refine v_last h (f := m2) dX7_film_87 3 1 rfl rfl (zix_in g4) (wM ca ad (v.1, v.2.1, (zptL m2 (((24 * x2) + x4) + x6) u3), v.2.2.2.1, v.2.2.2.2.1, v.2.2.2.2.2.1, v.2.2.2.2.2.2.1, v.2.2.2.2.2.2.2.1, u2.2.2, v.2.2.2.2.2.2.2.2.2.1, v.2.2.2.2.2.2.2.2.2.2.1, v.2.2.2.2.2.2.2.2.2.2.2.1, u2.2.1, v.2.2.2.2.2.2.2.2.2.2.2.2.2)) rfl 88 rfl ?_
      refine v_iinc h dX7_film_88 5 rfl (x6 + 1) rfl (Nat.le_of_ble_eq_true rfl) rfl rfl [(0, .ref (ad 0)), (1, .int x1), (2, .int x2), (3, .int x3), (4, .int x4), (6, .int (x6 + 1))] rfl 91 rfl ?_
      refine v_goto h dX7_film_91 54 (by decide) ?_
      exact v_sub [0, 1, 2, 3, 4, 5] rfl (ih v x1 x2 x3 x4 (x6 + 1) (zptL m2 (((24 * x2) + x4) + x6) u3) u2.2.2 u2.2.1 _ hf kx)
def fX7_film (v : MV) (x1 : Int32) (x2 : Int32) (x3 : Int32) (x4 : Int32) : Option (Int32 × zAL × zAI × zAI) := ((fX7_in x1 1 24) : Option Int32).bind (fun u1 => if u1 = 0 then (some ((-1), v.2.2.1, v.2.2.2.2.2.2.2.2.1, v.2.2.2.2.2.2.2.2.2.2.2.2.1)) else (((fX7_isSheet x2) : Option Int32).bind (fun u3 => if u3 = 0 then (some ((-1), v.2.2.1, v.2.2.2.2.2.2.2.2.1, v.2.2.2.2.2.2.2.2.2.2.2.2.1)) else (((fX7_in x3 0 3) : Option Int32).bind (fun u5 => if u5 = 0 then (some ((-1), v.2.2.1, v.2.2.2.2.2.2.2.2.1, v.2.2.2.2.2.2.2.2.2.2.2.2.1)) else (((fX7_wrong v x2 x3 x4 x1) : Option Int32).bind (fun u7 => if u7 = 0 then (((fX7_begin v) : Option zAI).bind (fun u9 => ((fX7_film_L54 zF (v.1, v.2.1, v.2.2.1, v.2.2.2.1, v.2.2.2.2.1, v.2.2.2.2.2.1, v.2.2.2.2.2.2.1, v.2.2.2.2.2.2.2.1, u9, v.2.2.2.2.2.2.2.2.2) x1 x2 x3 x4 0 v.2.2.1 u9 v.2.2.2.2.2.2.2.2.2.2.2.2.1) : Option (zAL × zAI × zAI)).bind (fun u10 => some (x1, u10.1, u10.2.1, u10.2.2)))) else (some (u7, v.2.2.1, v.2.2.2.2.2.2.2.2.1, v.2.2.2.2.2.2.2.2.2.2.2.2.1)))))))))
set_option maxRecDepth 100000 in
set_option maxHeartbeats 4000000 in
theorem tX7_film (l : Launch) (G : va_G) (ca : Nat → ClassId) (ad : Nat → Nat) (v : MV) (x1 : Int32) (x2 : Int32) (x3 : Int32) (x4 : Int32) {o : (Int32 × zAL × zAI × zAI)} (hf : fX7_film v x1 x2 x3 x4 = some o) : zMi l yX7_film wsX7_film rX7_film G ca [.ref (ad 0), .int x1, .int x2, .int x3, .int x4] (wM ca ad v) o.1 (wM ca ad (v.1, v.2.1, o.2.1, v.2.2.2.1, v.2.2.2.2.1, v.2.2.2.2.2.1, v.2.2.2.2.2.2.1, v.2.2.2.2.2.2.2.1, o.2.2.1, v.2.2.2.2.2.2.2.2.2.1, v.2.2.2.2.2.2.2.2.2.2.1, v.2.2.2.2.2.2.2.2.2.2.2.1, o.2.2.2, v.2.2.2.2.2.2.2.2.2.2.2.2.2)) := by
  refine zMi.of (cc := cX7_film) (nL := 7) (own := RX7) (ty := .int) (by decide) rfl rfl (Nat.le_of_ble_eq_true rfl) (fun X h hE => ?_)
  show V X G 7 0 0 (wM ca ad v) 0 [(0, .ref (ad 0)), (1, .int x1), (2, .int x2), (3, .int x3), (4, .int x4)] []
  unfold fX7_film at hf
  refine v_iload_n h dX7_film_0 1 rfl 1 rfl ?_
  refine v_iconst h dX7_film_1 1 rfl 2 rfl ?_
  refine v_bipush h dX7_film_2 24 rfl 4 rfl ?_
  obtain ⟨u1, hu1, hf⟩ := zb hf
  refine v_callSi h (rest := []) dX7_film_4 (tX7_in l G ca   x1 1 24 hu1) gX7_film_X7_in rfl ⟨rfl, rfl⟩ nX7_in ⟨Nat.le_of_ble_eq_true rfl, Nat.le_of_ble_eq_true rfl⟩ [] rfl rfl rfl rfl (Nat.le_of_ble_eq_true rfl) ⟨Nat.zero_le _, Nat.zero_le _⟩ rfl (wM ca ad v) rfl (wM_adr _ _ _ _) 7 rfl ?_
  refine v_if_eq h dX7_film_7 26 (by decide) 10 rfl (fun c2 => ?_) (fun c2 => ?_)
  · replace hf := zt c2 hf
    refine v_iconst h dX7_film_26 (-1) rfl 27 rfl ?_
    cases (Option.some.inj hf)
    exact hE 27 _ rfl dX7_film_27
  · replace hf := zf c2 hf
    refine v_iload_n h dX7_film_10 2 rfl 11 rfl ?_
    obtain ⟨u3, hu3, hf⟩ := zb hf
    refine v_callSi h (rest := []) dX7_film_11 (tX7_isSheet l G ca   x2 hu3) gX7_film_X7_isSheet rfl ⟨rfl, rfl⟩ nX7_isSheet ⟨Nat.le_of_ble_eq_true rfl, Nat.le_of_ble_eq_true rfl⟩ [] rfl rfl rfl rfl (Nat.le_of_ble_eq_true rfl) ⟨Nat.zero_le _, Nat.zero_le _⟩ rfl (wM ca ad v) rfl (wM_adr _ _ _ _) 14 rfl ?_
    refine v_if_eq h dX7_film_14 26 (by decide) 17 rfl (fun c4 => ?_) (fun c4 => ?_)
    · replace hf := zt c4 hf
      refine v_iconst h dX7_film_26 (-1) rfl 27 rfl ?_
      cases (Option.some.inj hf)
      exact hE 27 _ rfl dX7_film_27
    · replace hf := zf c4 hf
      refine v_iload_n h dX7_film_17 3 rfl 18 rfl ?_
      refine v_iconst h dX7_film_18 0 rfl 19 rfl ?_
      refine v_iconst h dX7_film_19 3 rfl 20 rfl ?_
      obtain ⟨u5, hu5, hf⟩ := zb hf
      refine v_callSi h (rest := []) dX7_film_20 (tX7_in l G ca   x3 0 3 hu5) gX7_film_X7_in rfl ⟨rfl, rfl⟩ nX7_in ⟨Nat.le_of_ble_eq_true rfl, Nat.le_of_ble_eq_true rfl⟩ [] rfl rfl rfl rfl (Nat.le_of_ble_eq_true rfl) ⟨Nat.zero_le _, Nat.zero_le _⟩ rfl (wM ca ad v) rfl (wM_adr _ _ _ _) 23 rfl ?_
      refine v_if_ne h dX7_film_23 28 (by decide) 26 rfl (fun c6 => ?_) (fun c6 => ?_)
      · replace hf := zf c6 hf
        refine v_aload_n h dX7_film_28 0 rfl 29 rfl ?_
        refine v_iload_n h dX7_film_29 2 rfl 30 rfl ?_
        refine v_iload_n h dX7_film_30 3 rfl 31 rfl ?_
        refine v_iload h dX7_film_31 4 rfl 33 rfl ?_
        refine v_iload_n h dX7_film_33 1 rfl 34 rfl ?_
        obtain ⟨u7, hu7, hf⟩ := zb hf
        refine v_wcallVi h (rest := []) dX7_film_34 (tX7_wrong l G ca ad v x2 x3 x4 x1 hu7) gX7_film_X7_wrong rfl rfl ⟨rfl, rfl⟩ nX7_wrong ⟨Nat.le_of_ble_eq_true rfl, Nat.le_of_ble_eq_true rfl⟩ 0 rfl rfl rfl rfl (Nat.le_of_ble_eq_true rfl) ⟨Nat.zero_le _, Nat.zero_le _⟩ (wM_adr _ _ _ _) 37 rfl ?_
        refine v_istore h dX7_film_37 (Nat.le_of_ble_eq_true rfl) rfl rfl [(0, .ref (ad 0)), (1, .int x1), (2, .int x2), (3, .int x3), (4, .int x4), (5, .int u7)] rfl 39 rfl ?_
        refine v_iload h dX7_film_39 5 rfl 41 rfl ?_
        refine v_if_eq h dX7_film_41 47 (by decide) 44 rfl (fun c8 => ?_) (fun c8 => ?_)
        · replace hf := zt c8 hf
          refine v_aload_n h dX7_film_47 0 rfl 48 rfl ?_
          obtain ⟨u9, hu9, hf⟩ := zb hf
          refine v_wcallVv h (rest := []) dX7_film_48 (tX7_begin l G ca ad v  hu9) gX7_film_X7_begin rfl rfl ⟨rfl, rfl⟩ nX7_begin ⟨Nat.le_of_ble_eq_true rfl, Nat.le_of_ble_eq_true rfl⟩ 0 rfl rfl rfl rfl (Nat.le_of_ble_eq_true rfl) ⟨Nat.zero_le _, Nat.zero_le _⟩ (wM_adr _ _ _ _) 51 rfl ?_
          refine v_iconst h dX7_film_51 0 rfl 52 rfl ?_
          refine v_istore h dX7_film_52 (Nat.le_of_ble_eq_true rfl) rfl rfl [(0, .ref (ad 0)), (1, .int x1), (2, .int x2), (3, .int x3), (4, .int x4), (5, .int u7), (6, .int 0)] rfl 54 rfl ?_
          obtain ⟨u10, hu10, hf⟩ := zb hf
          refine v_sub [0, 1, 2, 3, 4, 6] rfl ?_
          refine tX7_film_l54 h zF (v.1, v.2.1, v.2.2.1, v.2.2.2.1, v.2.2.2.2.1, v.2.2.2.2.2.1, v.2.2.2.2.2.2.1, v.2.2.2.2.2.2.2.1, u9, v.2.2.2.2.2.2.2.2.2) x1 x2 x3 x4 0 v.2.2.1 u9 v.2.2.2.2.2.2.2.2.2.2.2.2.1 _ hu10 ?_
          refine v_iload_n h dX7_film_94 0 rfl 95 rfl ?_
          cases (Option.some.inj hf)
          exact hE 95 _ rfl dX7_film_95
        · replace hf := zf c8 hf
          refine v_iload h dX7_film_44 5 rfl 46 rfl ?_
          cases (Option.some.inj hf)
          exact hE 46 _ rfl dX7_film_46
      · replace hf := zt c6 hf
        refine v_iconst h dX7_film_26 (-1) rfl 27 rfl ?_
        cases (Option.some.inj hf)
        exact hE 27 _ rfl dX7_film_27
abbrev rX7_sheet : Room := { frames := 2, cells := 0, slots := 0, locals := 42 }
theorem nX7_sheet : zNoMH yX7_sheet 3 := ⟨by decide +kernel, by decide +kernel, by decide +kernel⟩
theorem iX7_sheet_X7 : ∀ w ∈ wsX70, w ∈ wsX7_sheet := fun _ h => (List.mem_cons_of_mem _ (List.mem_append_right _ h))
def fX7_sheet_L48 : Nat → MV → Int32 → Int32 → Int32 → zAL → Option zAL
  | 0, _, _, _, _, _ => none
  | n + 1, v, x1, x3, x4, m2 => if 24 ≤ x4 then (some m2) else (zgrd (zix ((24 * x1) + x4) 96) (fX7_sheet_L48 n v x1 x3 (x4 + 1) (zptL m2 ((24 * x1) + x4) 0)))
set_option maxRecDepth 100000 in
set_option maxHeartbeats 4000000 in
theorem tX7_sheet_l48 {X : zX} {l : Launch} {G : va_G} {ca : Nat → ClassId} {ad : Nat → Nat} (h : zOk X l G ca cX7_sheet RX7 wsX7_sheet 5 rX7_sheet) : ∀ (n : Nat) (v : MV) (x1 : Int32) (x3 : Int32) (x4 : Int32) (m2 : zAL) (out : zAL), fX7_sheet_L48 n v x1 x3 x4 m2 = some out → (V X G 5 0 0 (wM ca ad (v.1, v.2.1, out, v.2.2.2)) 74 [(3, .int x3)] []) → V X G 5 0 0 (wM ca ad (v.1, v.2.1, m2, v.2.2.2)) 48 [(0, .ref (ad 0)), (1, .int x1), (3, .int x3), (4, .int x4)] [] := by
  intro n
  induction n with
  | zero => intro v x1 x3 x4 m2 out hf; rw [fX7_sheet_L48] at hf; cases hf
  | succ n ih =>
    intro v x1 x3 x4 m2 out hf kx
    rw [fX7_sheet_L48] at hf
    refine v_iload h dX7_sheet_48 3 rfl 50 rfl ?_
    refine v_bipush h dX7_sheet_50 24 rfl 52 rfl ?_
    refine v_icmp_ge h dX7_sheet_52 74 (by decide) 55 rfl (fun c1 => ?_) (fun c1 => ?_)
    · replace hf := zt c1 hf
      cases (Option.some.inj hf)
      exact v_sub [2] rfl (kx)
    · replace hf := zf c1 hf
      refine v_aload_n h dX7_sheet_55 0 rfl 56 rfl ?_
      refine v_get h (v := .ref (ad 3)) dX7_sheet_56 iX7_sheet_X7 0 rfl rfl 2 (by decide) (zwi 3 rfl) rfl 59 rfl ?_
      refine v_bipush h dX7_sheet_59 24 rfl 61 rfl ?_
      refine v_iload_n h dX7_sheet_61 1 rfl 62 rfl ?_
      refine v_imul h dX7_sheet_62 63 rfl ?_
      refine v_iload h dX7_sheet_63 3 rfl 65 rfl ?_
      refine v_iadd h dX7_sheet_65 66 rfl ?_
      refine v_lconst h dX7_sheet_66 0 rfl 67 rfl ?_
      obtain ⟨g2, hf⟩ := zg hf
      refine v_last h (f := m2) dX7_sheet_67 3 1 rfl rfl (zix_in g2) (wM ca ad (v.1, v.2.1, (zptL m2 ((24 * x1) + x4) 0), v.2.2.2)) rfl 68 rfl ?_
      refine v_iinc h dX7_sheet_68 3 rfl (x4 + 1) rfl (Nat.le_of_ble_eq_true rfl) rfl rfl [(0, .ref (ad 0)), (1, .int x1), (3, .int x3), (4, .int (x4 + 1))] rfl 71 rfl ?_
      refine v_goto h dX7_sheet_71 48 (by decide) ?_
      exact v_sub [0, 1, 2, 3] rfl (ih v x1 x3 (x4 + 1) (zptL m2 ((24 * x1) + x4) 0) _ hf kx)
def fX7_sheet (v : MV) (x1 : Int32) (x2 : Int32) (x3 : Int32) : Option (Int32 × zAI × zAI × zAL) := ((fX7_isSheet x1) : Option Int32).bind (fun u1 => if u1 = 0 then (some ((-1), v.1, v.2.1, v.2.2.1)) else (((fX7_in x2 0 3) : Option Int32).bind (fun u3 => if u3 = 0 then (some ((-1), v.1, v.2.1, v.2.2.1)) else (if x3 ≤ 24 then (if 0 ≤ x3 then (zgrd (zix x1 4) (((fX7_sheet_L48 zF ((zpt v.1 x1 x2), (zpt v.2.1 x1 x3), v.2.2) x1 x3 0 v.2.2.1) : Option zAL).bind (fun u8 => some (x3, (zpt v.1 x1 x2), (zpt v.2.1 x1 x3), u8)))) else (some ((-14), v.1, v.2.1, v.2.2.1))) else (some ((-1), v.1, v.2.1, v.2.2.1))))))
set_option maxRecDepth 100000 in
set_option maxHeartbeats 4000000 in
theorem tX7_sheet (l : Launch) (G : va_G) (ca : Nat → ClassId) (ad : Nat → Nat) (v : MV) (x1 : Int32) (x2 : Int32) (x3 : Int32) {o : (Int32 × zAI × zAI × zAL)} (hf : fX7_sheet v x1 x2 x3 = some o) : zMi l yX7_sheet wsX7_sheet rX7_sheet G ca [.ref (ad 0), .int x1, .int x2, .int x3] (wM ca ad v) o.1 (wM ca ad (o.2.1, o.2.2.1, o.2.2.2, v.2.2.2)) := by
  refine zMi.of (cc := cX7_sheet) (nL := 5) (own := RX7) (ty := .int) (by decide) rfl rfl (Nat.le_of_ble_eq_true rfl) (fun X h hE => ?_)
  show V X G 5 0 0 (wM ca ad v) 0 [(0, .ref (ad 0)), (1, .int x1), (2, .int x2), (3, .int x3)] []
  unfold fX7_sheet at hf
  refine v_iload_n h dX7_sheet_0 1 rfl 1 rfl ?_
  obtain ⟨u1, hu1, hf⟩ := zb hf
  refine v_callSi h (rest := []) dX7_sheet_1 (tX7_isSheet l G ca   x1 hu1) gX7_sheet_X7_isSheet rfl ⟨rfl, rfl⟩ nX7_isSheet ⟨Nat.le_of_ble_eq_true rfl, Nat.le_of_ble_eq_true rfl⟩ [] rfl rfl rfl rfl (Nat.le_of_ble_eq_true rfl) ⟨Nat.zero_le _, Nat.zero_le _⟩ rfl (wM ca ad v) rfl (wM_adr _ _ _ _) 4 rfl ?_
  refine v_if_eq h dX7_sheet_4 22 (by decide) 7 rfl (fun c2 => ?_) (fun c2 => ?_)
  · replace hf := zt c2 hf
    refine v_iconst h dX7_sheet_22 (-1) rfl 23 rfl ?_
    cases (Option.some.inj hf)
    exact hE 23 _ rfl dX7_sheet_23
  · replace hf := zf c2 hf
    refine v_iload_n h dX7_sheet_7 2 rfl 8 rfl ?_
    refine v_iconst h dX7_sheet_8 0 rfl 9 rfl ?_
    refine v_iconst h dX7_sheet_9 3 rfl 10 rfl ?_
    obtain ⟨u3, hu3, hf⟩ := zb hf
    refine v_callSi h (rest := []) dX7_sheet_10 (tX7_in l G ca   x2 0 3 hu3) gX7_sheet_X7_in rfl ⟨rfl, rfl⟩ nX7_in ⟨Nat.le_of_ble_eq_true rfl, Nat.le_of_ble_eq_true rfl⟩ [] rfl rfl rfl rfl (Nat.le_of_ble_eq_true rfl) ⟨Nat.zero_le _, Nat.zero_le _⟩ rfl (wM ca ad v) rfl (wM_adr _ _ _ _) 13 rfl ?_
    refine v_if_eq h dX7_sheet_13 22 (by decide) 16 rfl (fun c4 => ?_) (fun c4 => ?_)
    · replace hf := zt c4 hf
      refine v_iconst h dX7_sheet_22 (-1) rfl 23 rfl ?_
      cases (Option.some.inj hf)
      exact hE 23 _ rfl dX7_sheet_23
    · replace hf := zf c4 hf
      refine v_iload_n h dX7_sheet_16 3 rfl 17 rfl ?_
      refine v_bipush h dX7_sheet_17 24 rfl 19 rfl ?_
      refine v_icmp_le h dX7_sheet_19 24 (by decide) 22 rfl (fun c5 => ?_) (fun c5 => ?_)
      · replace hf := zt c5 hf
        refine v_iload_n h dX7_sheet_24 3 rfl 25 rfl ?_
        refine v_if_ge h dX7_sheet_25 31 (by decide) 28 rfl (fun c6 => ?_) (fun c6 => ?_)
        · replace hf := zt c6 hf
          refine v_aload_n h dX7_sheet_31 0 rfl 32 rfl ?_
          refine v_get h (v := .ref (ad 1)) dX7_sheet_32 iX7_sheet_X7 0 rfl rfl 0 (by decide) (zwi 1 rfl) rfl 35 rfl ?_
          refine v_iload_n h dX7_sheet_35 1 rfl 36 rfl ?_
          refine v_iload_n h dX7_sheet_36 2 rfl 37 rfl ?_
          obtain ⟨g7, hf⟩ := zg hf
          refine v_iast h (f := v.1) dX7_sheet_37 1 0 rfl rfl (zix_in g7) (wM ca ad ((zpt v.1 x1 x2), v.2)) rfl 38 rfl ?_
          refine v_aload_n h dX7_sheet_38 0 rfl 39 rfl ?_
          refine v_get h (v := .ref (ad 2)) dX7_sheet_39 iX7_sheet_X7 0 rfl rfl 1 (by decide) (zwi 2 rfl) rfl 42 rfl ?_
          refine v_iload_n h dX7_sheet_42 1 rfl 43 rfl ?_
          refine v_iload_n h dX7_sheet_43 3 rfl 44 rfl ?_
          refine v_iast h (f := v.2.1) dX7_sheet_44 2 0 rfl rfl (zix_in g7) (wM ca ad ((zpt v.1 x1 x2), (zpt v.2.1 x1 x3), v.2.2)) rfl 45 rfl ?_
          refine v_iconst h dX7_sheet_45 0 rfl 46 rfl ?_
          refine v_istore h dX7_sheet_46 (Nat.le_of_ble_eq_true rfl) rfl rfl [(0, .ref (ad 0)), (1, .int x1), (2, .int x2), (3, .int x3), (4, .int 0)] rfl 48 rfl ?_
          obtain ⟨u8, hu8, hf⟩ := zb hf
          refine v_sub [0, 1, 3, 4] rfl ?_
          refine tX7_sheet_l48 h zF ((zpt v.1 x1 x2), (zpt v.2.1 x1 x3), v.2.2) x1 x3 0 v.2.2.1 _ hu8 ?_
          refine v_iload_n h dX7_sheet_74 0 rfl 75 rfl ?_
          cases (Option.some.inj hf)
          exact hE 75 _ rfl dX7_sheet_75
        · replace hf := zf c6 hf
          refine v_bipush h dX7_sheet_28 (-14) rfl 30 rfl ?_
          cases (Option.some.inj hf)
          exact hE 30 _ rfl dX7_sheet_30
      · replace hf := zf c5 hf
        refine v_iconst h dX7_sheet_22 (-1) rfl 23 rfl ?_
        cases (Option.some.inj hf)
        exact hE 23 _ rfl dX7_sheet_23
abbrev rX7_drop : Room := { frames := 2, cells := 0, slots := 0, locals := 42 }
theorem nX7_drop : zNoMH yX7_drop 1 := ⟨by decide +kernel, by decide +kernel, by decide +kernel⟩
theorem iX7_drop_X7 : ∀ w ∈ wsX70, w ∈ wsX7_drop := fun _ h => (List.mem_cons_of_mem _ (List.mem_append_right _ h))
def fX7_drop (v : MV) (x1 : Int32) : Option (Int32 × zAI) := ((fX7_isSheet x1) : Option Int32).bind (fun u1 => if u1 = 0 then (some ((-1), v.1)) else (zgrd (zix x1 4) (if 0 ≤ (zgt v.1 x1) then (some ((zgt v.2.1 x1), (zpt v.1 x1 (-1)))) else (some ((-11), v.1)))))
set_option maxRecDepth 100000 in
set_option maxHeartbeats 4000000 in
theorem tX7_drop (l : Launch) (G : va_G) (ca : Nat → ClassId) (ad : Nat → Nat) (v : MV) (x1 : Int32) {o : (Int32 × zAI)} (hf : fX7_drop v x1 = some o) : zMi l yX7_drop wsX7_drop rX7_drop G ca [.ref (ad 0), .int x1] (wM ca ad v) o.1 (wM ca ad (o.2, v.2)) := by
  refine zMi.of (cc := cX7_drop) (nL := 2) (own := RX7) (ty := .int) (by decide) rfl rfl (Nat.le_of_ble_eq_true rfl) (fun X h hE => ?_)
  show V X G 2 0 0 (wM ca ad v) 0 [(0, .ref (ad 0)), (1, .int x1)] []
  unfold fX7_drop at hf
  refine v_iload_n h dX7_drop_0 1 rfl 1 rfl ?_
  obtain ⟨u1, hu1, hf⟩ := zb hf
  refine v_callSi h (rest := []) dX7_drop_1 (tX7_isSheet l G ca   x1 hu1) gX7_drop_X7_isSheet rfl ⟨rfl, rfl⟩ nX7_isSheet ⟨Nat.le_of_ble_eq_true rfl, Nat.le_of_ble_eq_true rfl⟩ [] rfl rfl rfl rfl (Nat.le_of_ble_eq_true rfl) ⟨Nat.zero_le _, Nat.zero_le _⟩ rfl (wM ca ad v) rfl (wM_adr _ _ _ _) 4 rfl ?_
  refine v_if_ne h dX7_drop_4 9 (by decide) 7 rfl (fun c2 => ?_) (fun c2 => ?_)
  · replace hf := zf c2 hf
    refine v_aload_n h dX7_drop_9 0 rfl 10 rfl ?_
    refine v_get h (v := .ref (ad 1)) dX7_drop_10 iX7_drop_X7 0 rfl rfl 0 (by decide) (zwi 1 rfl) rfl 13 rfl ?_
    refine v_iload_n h dX7_drop_13 1 rfl 14 rfl ?_
    obtain ⟨g3, hf⟩ := zg hf
    refine v_iald h (f := v.1) dX7_drop_14 1 0 rfl rfl (zix_in g3) 15 rfl ?_
    refine v_if_ge h dX7_drop_15 21 (by decide) 18 rfl (fun c4 => ?_) (fun c4 => ?_)
    · replace hf := zt c4 hf
      refine v_aload_n h dX7_drop_21 0 rfl 22 rfl ?_
      refine v_get h (v := .ref (ad 1)) dX7_drop_22 iX7_drop_X7 0 rfl rfl 0 (by decide) (zwi 1 rfl) rfl 25 rfl ?_
      refine v_iload_n h dX7_drop_25 1 rfl 26 rfl ?_
      refine v_iconst h dX7_drop_26 (-1) rfl 27 rfl ?_
      refine v_iast h (f := v.1) dX7_drop_27 1 0 rfl rfl (zix_in g3) (wM ca ad ((zpt v.1 x1 (-1)), v.2)) rfl 28 rfl ?_
      refine v_aload_n h dX7_drop_28 0 rfl 29 rfl ?_
      refine v_get h (v := .ref (ad 2)) dX7_drop_29 iX7_drop_X7 0 rfl rfl 1 (by decide) (zwi 2 rfl) rfl 32 rfl ?_
      refine v_iload_n h dX7_drop_32 1 rfl 33 rfl ?_
      refine v_iald h (f := v.2.1) dX7_drop_33 2 0 rfl rfl (zix_in g3) 34 rfl ?_
      cases (Option.some.inj hf)
      exact hE 34 _ rfl dX7_drop_34
    · replace hf := zf c4 hf
      refine v_bipush h dX7_drop_18 (-11) rfl 20 rfl ?_
      cases (Option.some.inj hf)
      exact hE 20 _ rfl dX7_drop_20
  · replace hf := zt c2 hf
    refine v_iconst h dX7_drop_7 (-1) rfl 8 rfl ?_
    cases (Option.some.inj hf)
    exact hE 8 _ rfl dX7_drop_8
abbrev rX7_item : Room := { frames := 2, cells := 0, slots := 0, locals := 46 }
theorem nX7_item : zNoMH yX7_item 4 := ⟨by decide +kernel, by decide +kernel, by decide +kernel⟩
theorem iX7_item_X7 : ∀ w ∈ wsX70, w ∈ wsX7_item := fun _ h => (List.mem_cons_of_mem _ (List.mem_append_right _ h))
def fX7_item (v : MV) (x1 : Int32) (x2 : Int32) (x3 : Int32) (x4 : Int64) : Option (Int32 × zAL) := ((fX7_isSheet x1) : Option Int32).bind (fun u1 => if u1 = 0 then (some ((-1), v.2.2.1)) else (((fX7_in x2 0 3) : Option Int32).bind (fun u3 => if u3 = 0 then (some ((-1), v.2.2.1)) else (((fX7_wrong v x1 x2 x3 1) : Option Int32).bind (fun u5 => if u5 = 0 then (if x2 = 0 then (zlet (x4.toInt32 : Int32) (fun d16 => zlet (d16.toInt8.toInt32 : Int32) (fun d17 => zgrd (zix ((24 * x1) + x3) 96) (some (1, (zptL v.2.2.1 ((24 * x1) + x3) d17.toInt64)))))) else (if x2 = 1 then (zlet (x4.toInt32 : Int32) (fun d13 => zlet (d13.toInt16.toInt32 : Int32) (fun d14 => zgrd (zix ((24 * x1) + x3) 96) (some (1, (zptL v.2.2.1 ((24 * x1) + x3) d14.toInt64)))))) else (if x2 = 2 then (zlet (x4.toInt32 : Int32) (fun d11 => zgrd (zix ((24 * x1) + x3) 96) (some (1, (zptL v.2.2.1 ((24 * x1) + x3) d11.toInt64))))) else (zgrd (zix ((24 * x1) + x3) 96) (some (1, (zptL v.2.2.1 ((24 * x1) + x3) x4))))))) else (some (u5, v.2.2.1)))))))
set_option maxRecDepth 100000 in
set_option maxHeartbeats 4000000 in
theorem tX7_item (l : Launch) (G : va_G) (ca : Nat → ClassId) (ad : Nat → Nat) (v : MV) (x1 : Int32) (x2 : Int32) (x3 : Int32) (x4 : Int64) {o : (Int32 × zAL)} (hf : fX7_item v x1 x2 x3 x4 = some o) : zMi l yX7_item wsX7_item rX7_item G ca [.ref (ad 0), .int x1, .int x2, .int x3, .long x4] (wM ca ad v) o.1 (wM ca ad (v.1, v.2.1, o.2, v.2.2.2)) := by
  refine zMi.of (cc := cX7_item) (nL := 7) (own := RX7) (ty := .int) (by decide) rfl rfl (Nat.le_of_ble_eq_true rfl) (fun X h hE => ?_)
  show V X G 7 0 0 (wM ca ad v) 0 [(0, .ref (ad 0)), (1, .int x1), (2, .int x2), (3, .int x3), (4, .long x4)] []
  unfold fX7_item at hf
  refine v_iload_n h dX7_item_0 1 rfl 1 rfl ?_
  obtain ⟨u1, hu1, hf⟩ := zb hf
  refine v_callSi h (rest := []) dX7_item_1 (tX7_isSheet l G ca   x1 hu1) gX7_item_X7_isSheet rfl ⟨rfl, rfl⟩ nX7_isSheet ⟨Nat.le_of_ble_eq_true rfl, Nat.le_of_ble_eq_true rfl⟩ [] rfl rfl rfl rfl (Nat.le_of_ble_eq_true rfl) ⟨Nat.zero_le _, Nat.zero_le _⟩ rfl (wM ca ad v) rfl (wM_adr _ _ _ _) 4 rfl ?_
  refine v_if_eq h dX7_item_4 16 (by decide) 7 rfl (fun c2 => ?_) (fun c2 => ?_)
  · replace hf := zt c2 hf
    refine v_iconst h dX7_item_16 (-1) rfl 17 rfl ?_
    cases (Option.some.inj hf)
    exact hE 17 _ rfl dX7_item_17
  · replace hf := zf c2 hf
    refine v_iload_n h dX7_item_7 2 rfl 8 rfl ?_
    refine v_iconst h dX7_item_8 0 rfl 9 rfl ?_
    refine v_iconst h dX7_item_9 3 rfl 10 rfl ?_
    obtain ⟨u3, hu3, hf⟩ := zb hf
    refine v_callSi h (rest := []) dX7_item_10 (tX7_in l G ca   x2 0 3 hu3) gX7_item_X7_in rfl ⟨rfl, rfl⟩ nX7_in ⟨Nat.le_of_ble_eq_true rfl, Nat.le_of_ble_eq_true rfl⟩ [] rfl rfl rfl rfl (Nat.le_of_ble_eq_true rfl) ⟨Nat.zero_le _, Nat.zero_le _⟩ rfl (wM ca ad v) rfl (wM_adr _ _ _ _) 13 rfl ?_
    refine v_if_ne h dX7_item_13 18 (by decide) 16 rfl (fun c4 => ?_) (fun c4 => ?_)
    · replace hf := zf c4 hf
      refine v_aload_n h dX7_item_18 0 rfl 19 rfl ?_
      refine v_iload_n h dX7_item_19 1 rfl 20 rfl ?_
      refine v_iload_n h dX7_item_20 2 rfl 21 rfl ?_
      refine v_iload_n h dX7_item_21 3 rfl 22 rfl ?_
      refine v_iconst h dX7_item_22 1 rfl 23 rfl ?_
      obtain ⟨u5, hu5, hf⟩ := zb hf
      refine v_wcallVi h (rest := []) dX7_item_23 (tX7_wrong l G ca ad v x1 x2 x3 1 hu5) gX7_item_X7_wrong rfl rfl ⟨rfl, rfl⟩ nX7_wrong ⟨Nat.le_of_ble_eq_true rfl, Nat.le_of_ble_eq_true rfl⟩ 0 rfl rfl rfl rfl (Nat.le_of_ble_eq_true rfl) ⟨Nat.zero_le _, Nat.zero_le _⟩ (wM_adr _ _ _ _) 26 rfl ?_
      refine v_istore h dX7_item_26 (Nat.le_of_ble_eq_true rfl) rfl rfl [(0, .ref (ad 0)), (1, .int x1), (2, .int x2), (3, .int x3), (4, .long x4), (6, .int u5)] rfl 28 rfl ?_
      refine v_iload h dX7_item_28 5 rfl 30 rfl ?_
      refine v_if_eq h dX7_item_30 36 (by decide) 33 rfl (fun c6 => ?_) (fun c6 => ?_)
      · replace hf := zt c6 hf
        refine v_aload_n h dX7_item_36 0 rfl 37 rfl ?_
        refine v_get h (v := .ref (ad 3)) dX7_item_37 iX7_item_X7 0 rfl rfl 2 (by decide) (zwi 1 rfl) rfl 40 rfl ?_
        refine v_bipush h dX7_item_40 24 rfl 42 rfl ?_
        refine v_iload_n h dX7_item_42 1 rfl 43 rfl ?_
        refine v_imul h dX7_item_43 44 rfl ?_
        refine v_iload_n h dX7_item_44 3 rfl 45 rfl ?_
        refine v_iadd h dX7_item_45 46 rfl ?_
        refine v_iload_n h dX7_item_46 2 rfl 47 rfl ?_
        refine v_if_ne h dX7_item_47 58 (by decide) 50 rfl (fun c7 => ?_) (fun c7 => ?_)
        · replace hf := zf c7 hf
          refine v_iload_n h dX7_item_58 2 rfl 59 rfl ?_
          refine v_iconst h dX7_item_59 1 rfl 60 rfl ?_
          refine v_icmp_ne h dX7_item_60 71 (by decide) 63 rfl (fun c8 => ?_) (fun c8 => ?_)
          · replace hf := zf c8 hf
            refine v_iload_n h dX7_item_71 2 rfl 72 rfl ?_
            refine v_iconst h dX7_item_72 2 rfl 73 rfl ?_
            refine v_icmp_ne h dX7_item_73 83 (by decide) 76 rfl (fun c9 => ?_) (fun c9 => ?_)
            · replace hf := zf c9 hf
              refine v_lload h dX7_item_83 4 rfl 85 rfl ?_
              obtain ⟨g10, hf⟩ := zg hf
              refine v_last h (f := v.2.2.1) dX7_item_85 3 1 rfl rfl (zix_in g10) (wM ca ad (v.1, v.2.1, (zptL v.2.2.1 ((24 * x1) + x3) x4), v.2.2.2)) rfl 86 rfl ?_
              refine v_iconst h dX7_item_86 1 rfl 87 rfl ?_
              cases (Option.some.inj hf)
              exact hE 87 _ rfl dX7_item_87
            · replace hf := zt c9 hf
              refine v_lload h dX7_item_76 4 rfl 78 rfl ?_
              refine v_l2i h dX7_item_78 79 rfl ?_
              obtain ⟨d11, ed11, hf⟩ := zl hf
              refine v_topi ed11 ?_
              refine v_i2l h dX7_item_79 80 rfl ?_
              refine v_goto h dX7_item_80 85 (by decide) ?_
              obtain ⟨g12, hf⟩ := zg hf
              refine v_last h (f := v.2.2.1) dX7_item_85 3 1 rfl rfl (zix_in g12) (wM ca ad (v.1, v.2.1, (zptL v.2.2.1 ((24 * x1) + x3) d11.toInt64), v.2.2.2)) rfl 86 rfl ?_
              refine v_iconst h dX7_item_86 1 rfl 87 rfl ?_
              cases (Option.some.inj hf)
              exact hE 87 _ rfl dX7_item_87
          · replace hf := zt c8 hf
            refine v_lload h dX7_item_63 4 rfl 65 rfl ?_
            refine v_l2i h dX7_item_65 66 rfl ?_
            obtain ⟨d13, ed13, hf⟩ := zl hf
            refine v_topi ed13 ?_
            refine v_i2s h dX7_item_66 67 rfl ?_
            obtain ⟨d14, ed14, hf⟩ := zl hf
            refine v_topi ed14 ?_
            refine v_i2l h dX7_item_67 68 rfl ?_
            refine v_goto h dX7_item_68 85 (by decide) ?_
            obtain ⟨g15, hf⟩ := zg hf
            refine v_last h (f := v.2.2.1) dX7_item_85 3 1 rfl rfl (zix_in g15) (wM ca ad (v.1, v.2.1, (zptL v.2.2.1 ((24 * x1) + x3) d14.toInt64), v.2.2.2)) rfl 86 rfl ?_
            refine v_iconst h dX7_item_86 1 rfl 87 rfl ?_
            cases (Option.some.inj hf)
            exact hE 87 _ rfl dX7_item_87
        · replace hf := zt c7 hf
          refine v_lload h dX7_item_50 4 rfl 52 rfl ?_
          refine v_l2i h dX7_item_52 53 rfl ?_
          obtain ⟨d16, ed16, hf⟩ := zl hf
          refine v_topi ed16 ?_
          refine v_i2b h dX7_item_53 54 rfl ?_
          obtain ⟨d17, ed17, hf⟩ := zl hf
          refine v_topi ed17 ?_
          refine v_i2l h dX7_item_54 55 rfl ?_
          refine v_goto h dX7_item_55 85 (by decide) ?_
          obtain ⟨g18, hf⟩ := zg hf
          refine v_last h (f := v.2.2.1) dX7_item_85 3 1 rfl rfl (zix_in g18) (wM ca ad (v.1, v.2.1, (zptL v.2.2.1 ((24 * x1) + x3) d17.toInt64), v.2.2.2)) rfl 86 rfl ?_
          refine v_iconst h dX7_item_86 1 rfl 87 rfl ?_
          cases (Option.some.inj hf)
          exact hE 87 _ rfl dX7_item_87
      · replace hf := zf c6 hf
        refine v_iload h dX7_item_33 5 rfl 35 rfl ?_
        cases (Option.some.inj hf)
        exact hE 35 _ rfl dX7_item_35
    · replace hf := zt c4 hf
      refine v_iconst h dX7_item_16 (-1) rfl 17 rfl ?_
      cases (Option.some.inj hf)
      exact hE 17 _ rfl dX7_item_17
abbrev rX7_copy : Room := { frames := 2, cells := 0, slots := 0, locals := 42 }
theorem nX7_copy : zNoMH yX7_copy 5 := ⟨by decide +kernel, by decide +kernel, by decide +kernel⟩
theorem iX7_copy_X7 : ∀ w ∈ wsX70, w ∈ wsX7_copy := fun _ h => (List.mem_cons_of_mem _ (List.mem_append_right _ h))
def fX7_copy_L110 : Nat → MV → Int32 → Int32 → Int32 → Int32 → Int32 → Int32 → Int32 → zAL → Option zAL
  | 0, _, _, _, _, _, _, _, _, _ => none
  | n + 1, v, x1, x2, x3, x4, x5, x6, x7, m2 => if x5 ≤ x7 then (some m2) else (if x6 = 0 then (zgrd (zix (((24 * x1) + x2) + x7) 96) (zgrd (zix (((24 * x3) + x4) + x7) 96) (fX7_copy_L110 n v x1 x2 x3 x4 x5 x6 (x7 + 1) (zptL m2 (((24 * x3) + x4) + x7) (zgt m2 (((24 * x1) + x2) + x7)))))) else (zgrd (zix (((24 * x1) + x2) + ((x5 - 1) - x7)) 96) (zgrd (zix (((24 * x3) + x4) + ((x5 - 1) - x7)) 96) (fX7_copy_L110 n v x1 x2 x3 x4 x5 x6 (x7 + 1) (zptL m2 (((24 * x3) + x4) + ((x5 - 1) - x7)) (zgt m2 (((24 * x1) + x2) + ((x5 - 1) - x7))))))))
set_option maxRecDepth 100000 in
set_option maxHeartbeats 4000000 in
theorem tX7_copy_l110 {X : zX} {l : Launch} {G : va_G} {ca : Nat → ClassId} {ad : Nat → Nat} (h : zOk X l G ca cX7_copy RX7 wsX7_copy 9 rX7_copy) : ∀ (n : Nat) (v : MV) (x1 : Int32) (x2 : Int32) (x3 : Int32) (x4 : Int32) (x5 : Int32) (x6 : Int32) (x7 : Int32) (m2 : zAL) (out : zAL), fX7_copy_L110 n v x1 x2 x3 x4 x5 x6 x7 m2 = some out → (V X G 9 0 0 (wM ca ad (v.1, v.2.1, out, v.2.2.2)) 171 [(5, .int x5)] []) → V X G 9 0 0 (wM ca ad (v.1, v.2.1, m2, v.2.2.2)) 110 [(0, .ref (ad 0)), (1, .int x1), (2, .int x2), (3, .int x3), (4, .int x4), (5, .int x5), (6, .int x6), (7, .int x7)] [] := by
  intro n
  induction n with
  | zero => intro v x1 x2 x3 x4 x5 x6 x7 m2 out hf; rw [fX7_copy_L110] at hf; cases hf
  | succ n ih =>
    intro v x1 x2 x3 x4 x5 x6 x7 m2 out hf kx
    rw [fX7_copy_L110] at hf
    refine v_iload h dX7_copy_110 7 rfl 112 rfl ?_
    refine v_iload h dX7_copy_112 5 rfl 114 rfl ?_
    refine v_icmp_ge h dX7_copy_114 171 (by decide) 117 rfl (fun c1 => ?_) (fun c1 => ?_)
    · replace hf := zt c1 hf
      cases (Option.some.inj hf)
      exact v_sub [5] rfl (kx)
    · replace hf := zf c1 hf
      refine v_iload h dX7_copy_117 6 rfl 119 rfl ?_
      refine v_if_eq h dX7_copy_119 132 (by decide) 122 rfl (fun c2 => ?_) (fun c2 => ?_)
      · replace hf := zt c2 hf
        refine v_iload h dX7_copy_132 7 rfl 134 rfl ?_
        refine v_istore h dX7_copy_134 (Nat.le_of_ble_eq_true rfl) rfl rfl [(0, .ref (ad 0)), (1, .int x1), (2, .int x2), (3, .int x3), (4, .int x4), (5, .int x5), (6, .int x6), (7, .int x7), (8, .int x7)] rfl 136 rfl ?_
        refine v_aload_n h dX7_copy_136 0 rfl 137 rfl ?_
        refine v_get h (v := .ref (ad 3)) dX7_copy_137 iX7_copy_X7 0 rfl rfl 2 (by decide) (zwi 3 rfl) rfl 140 rfl ?_
        refine v_bipush h dX7_copy_140 24 rfl 142 rfl ?_
        refine v_iload_n h dX7_copy_142 3 rfl 143 rfl ?_
        refine v_imul h dX7_copy_143 144 rfl ?_
        refine v_iload h dX7_copy_144 4 rfl 146 rfl ?_
        refine v_iadd h dX7_copy_146 147 rfl ?_
        refine v_iload h dX7_copy_147 8 rfl 149 rfl ?_
        refine v_iadd h dX7_copy_149 150 rfl ?_
        refine v_aload_n h dX7_copy_150 0 rfl 151 rfl ?_
        refine v_get h (v := .ref (ad 3)) dX7_copy_151 iX7_copy_X7 0 rfl rfl 2 (by decide) (zwi 3 rfl) rfl 154 rfl ?_
        refine v_bipush h dX7_copy_154 24 rfl 156 rfl ?_
        refine v_iload_n h dX7_copy_156 1 rfl 157 rfl ?_
        refine v_imul h dX7_copy_157 158 rfl ?_
        refine v_iload_n h dX7_copy_158 2 rfl 159 rfl ?_
        refine v_iadd h dX7_copy_159 160 rfl ?_
        refine v_iload h dX7_copy_160 8 rfl 162 rfl ?_
        refine v_iadd h dX7_copy_162 163 rfl ?_
        obtain ⟨g3, hf⟩ := zg hf
        refine v_lald h (f := m2) dX7_copy_163 3 1 rfl rfl (zix_in g3) 164 rfl ?_
        obtain ⟨g4, hf⟩ := zg hf
        refine v_last h (f := m2) dX7_copy_164 3 1 rfl rfl (zix_in g4) (wM ca ad (v.1, v.2.1, (zptL m2 (((24 * x3) + x4) + x7) (zgt m2 (((24 * x1) + x2) + x7))), v.2.2.2)) rfl 165 rfl ?_
        refine v_iinc h dX7_copy_165 7 rfl (x7 + 1) rfl (Nat.le_of_ble_eq_true rfl) rfl rfl [(0, .ref (ad 0)), (1, .int x1), (2, .int x2), (3, .int x3), (4, .int x4), (5, .int x5), (6, .int x6), (7, .int (x7 + 1)), (8, .int x7)] rfl 168 rfl ?_
        refine v_goto h dX7_copy_168 110 (by decide) ?_
        exact v_sub [0, 1, 2, 3, 4, 5, 6, 7] rfl (ih v x1 x2 x3 x4 x5 x6 (x7 + 1) (zptL m2 (((24 * x3) + x4) + x7) (zgt m2 (((24 * x1) + x2) + x7))) _ hf kx)
      · replace hf := zf c2 hf
        refine v_iload h dX7_copy_122 5 rfl 124 rfl ?_
        refine v_iconst h dX7_copy_124 1 rfl 125 rfl ?_
        refine v_isub h dX7_copy_125 126 rfl ?_
        refine v_iload h dX7_copy_126 7 rfl 128 rfl ?_
        refine v_isub h dX7_copy_128 129 rfl ?_
        refine v_goto h dX7_copy_129 134 (by decide) ?_
        refine v_istore h dX7_copy_134 (Nat.le_of_ble_eq_true rfl) rfl rfl [(0, .ref (ad 0)), (1, .int x1), (2, .int x2), (3, .int x3), (4, .int x4), (5, .int x5), (6, .int x6), (7, .int x7), (8, .int ((x5 - 1) - x7))] rfl 136 rfl ?_
        refine v_aload_n h dX7_copy_136 0 rfl 137 rfl ?_
        refine v_get h (v := .ref (ad 3)) dX7_copy_137 iX7_copy_X7 0 rfl rfl 2 (by decide) (zwi 3 rfl) rfl 140 rfl ?_
        refine v_bipush h dX7_copy_140 24 rfl 142 rfl ?_
        refine v_iload_n h dX7_copy_142 3 rfl 143 rfl ?_
        refine v_imul h dX7_copy_143 144 rfl ?_
        refine v_iload h dX7_copy_144 4 rfl 146 rfl ?_
        refine v_iadd h dX7_copy_146 147 rfl ?_
        refine v_iload h dX7_copy_147 8 rfl 149 rfl ?_
        refine v_iadd h dX7_copy_149 150 rfl ?_
        refine v_aload_n h dX7_copy_150 0 rfl 151 rfl ?_
        refine v_get h (v := .ref (ad 3)) dX7_copy_151 iX7_copy_X7 0 rfl rfl 2 (by decide) (zwi 3 rfl) rfl 154 rfl ?_
        refine v_bipush h dX7_copy_154 24 rfl 156 rfl ?_
        refine v_iload_n h dX7_copy_156 1 rfl 157 rfl ?_
        refine v_imul h dX7_copy_157 158 rfl ?_
        refine v_iload_n h dX7_copy_158 2 rfl 159 rfl ?_
        refine v_iadd h dX7_copy_159 160 rfl ?_
        refine v_iload h dX7_copy_160 8 rfl 162 rfl ?_
        refine v_iadd h dX7_copy_162 163 rfl ?_
        obtain ⟨g5, hf⟩ := zg hf
        refine v_lald h (f := m2) dX7_copy_163 3 1 rfl rfl (zix_in g5) 164 rfl ?_
        obtain ⟨g6, hf⟩ := zg hf
        refine v_last h (f := m2) dX7_copy_164 3 1 rfl rfl (zix_in g6) (wM ca ad (v.1, v.2.1, (zptL m2 (((24 * x3) + x4) + ((x5 - 1) - x7)) (zgt m2 (((24 * x1) + x2) + ((x5 - 1) - x7)))), v.2.2.2)) rfl 165 rfl ?_
        refine v_iinc h dX7_copy_165 7 rfl (x7 + 1) rfl (Nat.le_of_ble_eq_true rfl) rfl rfl [(0, .ref (ad 0)), (1, .int x1), (2, .int x2), (3, .int x3), (4, .int x4), (5, .int x5), (6, .int x6), (7, .int (x7 + 1)), (8, .int ((x5 - 1) - x7))] rfl 168 rfl ?_
        refine v_goto h dX7_copy_168 110 (by decide) ?_
        exact v_sub [0, 1, 2, 3, 4, 5, 6, 7] rfl (ih v x1 x2 x3 x4 x5 x6 (x7 + 1) (zptL m2 (((24 * x3) + x4) + ((x5 - 1) - x7)) (zgt m2 (((24 * x1) + x2) + ((x5 - 1) - x7)))) _ hf kx)
def fX7_copy (v : MV) (x1 : Int32) (x2 : Int32) (x3 : Int32) (x4 : Int32) (x5 : Int32) : Option (Int32 × zAL) := ((fX7_isSheet x1) : Option Int32).bind (fun u1 => if u1 = 0 then (some ((-1), v.2.2.1)) else (((fX7_isSheet x3) : Option Int32).bind (fun u3 => if u3 = 0 then (some ((-1), v.2.2.1)) else (zgrd (zix x1 4) (if (zgt v.1 x1) < 0 then (some ((-11), v.2.2.1)) else (zgrd (zix x3 4) (if 0 ≤ (zgt v.1 x3) then (if (zgt v.1 x1) = (zgt v.1 x3) then (((fX7_isPart x2 x5 (zgt v.2.1 x1)) : Option Int32).bind (fun u10 => if u10 = 0 then (some ((-13), v.2.2.1)) else (((fX7_isPart x4 x5 (zgt v.2.1 x3)) : Option Int32).bind (fun u12 => if u12 = 0 then (some ((-13), v.2.2.1)) else (if x1 = x3 then (if x4 ≤ x2 then (((fX7_copy_L110 zF v x1 x2 x3 x4 x5 0 0 v.2.2.1) : Option zAL).bind (fun u17 => some (x5, u17))) else (((fX7_copy_L110 zF v x1 x2 x3 x4 x5 1 0 v.2.2.1) : Option zAL).bind (fun u18 => some (x5, u18)))) else (((fX7_copy_L110 zF v x1 x2 x3 x4 x5 0 0 v.2.2.1) : Option zAL).bind (fun u15 => some (x5, u15)))))))) else (some ((-12), v.2.2.1))) else (some ((-11), v.2.2.1)))))))))
set_option maxRecDepth 100000 in
set_option maxHeartbeats 4000000 in
theorem tX7_copy (l : Launch) (G : va_G) (ca : Nat → ClassId) (ad : Nat → Nat) (v : MV) (x1 : Int32) (x2 : Int32) (x3 : Int32) (x4 : Int32) (x5 : Int32) {o : (Int32 × zAL)} (hf : fX7_copy v x1 x2 x3 x4 x5 = some o) : zMi l yX7_copy wsX7_copy rX7_copy G ca [.ref (ad 0), .int x1, .int x2, .int x3, .int x4, .int x5] (wM ca ad v) o.1 (wM ca ad (v.1, v.2.1, o.2, v.2.2.2)) := by
  refine zMi.of (cc := cX7_copy) (nL := 9) (own := RX7) (ty := .int) (by decide) rfl rfl (Nat.le_of_ble_eq_true rfl) (fun X h hE => ?_)
  show V X G 9 0 0 (wM ca ad v) 0 [(0, .ref (ad 0)), (1, .int x1), (2, .int x2), (3, .int x3), (4, .int x4), (5, .int x5)] []
  unfold fX7_copy at hf
  refine v_iload_n h dX7_copy_0 1 rfl 1 rfl ?_
  obtain ⟨u1, hu1, hf⟩ := zb hf
  refine v_callSi h (rest := []) dX7_copy_1 (tX7_isSheet l G ca   x1 hu1) gX7_copy_X7_isSheet rfl ⟨rfl, rfl⟩ nX7_isSheet ⟨Nat.le_of_ble_eq_true rfl, Nat.le_of_ble_eq_true rfl⟩ [] rfl rfl rfl rfl (Nat.le_of_ble_eq_true rfl) ⟨Nat.zero_le _, Nat.zero_le _⟩ rfl (wM ca ad v) rfl (wM_adr _ _ _ _) 4 rfl ?_
  refine v_if_eq h dX7_copy_4 14 (by decide) 7 rfl (fun c2 => ?_) (fun c2 => ?_)
  · replace hf := zt c2 hf
    refine v_iconst h dX7_copy_14 (-1) rfl 15 rfl ?_
    cases (Option.some.inj hf)
    exact hE 15 _ rfl dX7_copy_15
  · replace hf := zf c2 hf
    refine v_iload_n h dX7_copy_7 3 rfl 8 rfl ?_
    obtain ⟨u3, hu3, hf⟩ := zb hf
    refine v_callSi h (rest := []) dX7_copy_8 (tX7_isSheet l G ca   x3 hu3) gX7_copy_X7_isSheet rfl ⟨rfl, rfl⟩ nX7_isSheet ⟨Nat.le_of_ble_eq_true rfl, Nat.le_of_ble_eq_true rfl⟩ [] rfl rfl rfl rfl (Nat.le_of_ble_eq_true rfl) ⟨Nat.zero_le _, Nat.zero_le _⟩ rfl (wM ca ad v) rfl (wM_adr _ _ _ _) 11 rfl ?_
    refine v_if_ne h dX7_copy_11 16 (by decide) 14 rfl (fun c4 => ?_) (fun c4 => ?_)
    · replace hf := zf c4 hf
      refine v_aload_n h dX7_copy_16 0 rfl 17 rfl ?_
      refine v_get h (v := .ref (ad 1)) dX7_copy_17 iX7_copy_X7 0 rfl rfl 0 (by decide) (zwi 1 rfl) rfl 20 rfl ?_
      refine v_iload_n h dX7_copy_20 1 rfl 21 rfl ?_
      obtain ⟨g5, hf⟩ := zg hf
      refine v_iald h (f := v.1) dX7_copy_21 1 0 rfl rfl (zix_in g5) 22 rfl ?_
      refine v_if_lt h dX7_copy_22 34 (by decide) 25 rfl (fun c6 => ?_) (fun c6 => ?_)
      · replace hf := zt c6 hf
        refine v_bipush h dX7_copy_34 (-11) rfl 36 rfl ?_
        cases (Option.some.inj hf)
        exact hE 36 _ rfl dX7_copy_36
      · replace hf := zf c6 hf
        refine v_aload_n h dX7_copy_25 0 rfl 26 rfl ?_
        refine v_get h (v := .ref (ad 1)) dX7_copy_26 iX7_copy_X7 0 rfl rfl 0 (by decide) (zwi 1 rfl) rfl 29 rfl ?_
        refine v_iload_n h dX7_copy_29 3 rfl 30 rfl ?_
        obtain ⟨g7, hf⟩ := zg hf
        refine v_iald h (f := v.1) dX7_copy_30 1 0 rfl rfl (zix_in g7) 31 rfl ?_
        refine v_if_ge h dX7_copy_31 37 (by decide) 34 rfl (fun c8 => ?_) (fun c8 => ?_)
        · replace hf := zt c8 hf
          refine v_aload_n h dX7_copy_37 0 rfl 38 rfl ?_
          refine v_get h (v := .ref (ad 1)) dX7_copy_38 iX7_copy_X7 0 rfl rfl 0 (by decide) (zwi 1 rfl) rfl 41 rfl ?_
          refine v_iload_n h dX7_copy_41 1 rfl 42 rfl ?_
          refine v_iald h (f := v.1) dX7_copy_42 1 0 rfl rfl (zix_in g5) 43 rfl ?_
          refine v_aload_n h dX7_copy_43 0 rfl 44 rfl ?_
          refine v_get h (v := .ref (ad 1)) dX7_copy_44 iX7_copy_X7 0 rfl rfl 0 (by decide) (zwi 1 rfl) rfl 47 rfl ?_
          refine v_iload_n h dX7_copy_47 3 rfl 48 rfl ?_
          refine v_iald h (f := v.1) dX7_copy_48 1 0 rfl rfl (zix_in g7) 49 rfl ?_
          refine v_icmp_eq h dX7_copy_49 55 (by decide) 52 rfl (fun c9 => ?_) (fun c9 => ?_)
          · replace hf := zt c9 hf
            refine v_iload_n h dX7_copy_55 2 rfl 56 rfl ?_
            refine v_iload h dX7_copy_56 5 rfl 58 rfl ?_
            refine v_aload_n h dX7_copy_58 0 rfl 59 rfl ?_
            refine v_get h (v := .ref (ad 2)) dX7_copy_59 iX7_copy_X7 0 rfl rfl 1 (by decide) (zwi 2 rfl) rfl 62 rfl ?_
            refine v_iload_n h dX7_copy_62 1 rfl 63 rfl ?_
            refine v_iald h (f := v.2.1) dX7_copy_63 2 0 rfl rfl (zix_in g5) 64 rfl ?_
            obtain ⟨u10, hu10, hf⟩ := zb hf
            refine v_callSi h (rest := []) dX7_copy_64 (tX7_isPart l G ca   x2 x5 (zgt v.2.1 x1) hu10) gX7_copy_X7_isPart rfl ⟨rfl, rfl⟩ nX7_isPart ⟨Nat.le_of_ble_eq_true rfl, Nat.le_of_ble_eq_true rfl⟩ [] rfl rfl rfl rfl (Nat.le_of_ble_eq_true rfl) ⟨Nat.zero_le _, Nat.zero_le _⟩ rfl (wM ca ad v) rfl (wM_adr _ _ _ _) 67 rfl ?_
            refine v_if_eq h dX7_copy_67 86 (by decide) 70 rfl (fun c11 => ?_) (fun c11 => ?_)
            · replace hf := zt c11 hf
              refine v_bipush h dX7_copy_86 (-13) rfl 88 rfl ?_
              cases (Option.some.inj hf)
              exact hE 88 _ rfl dX7_copy_88
            · replace hf := zf c11 hf
              refine v_iload h dX7_copy_70 4 rfl 72 rfl ?_
              refine v_iload h dX7_copy_72 5 rfl 74 rfl ?_
              refine v_aload_n h dX7_copy_74 0 rfl 75 rfl ?_
              refine v_get h (v := .ref (ad 2)) dX7_copy_75 iX7_copy_X7 0 rfl rfl 1 (by decide) (zwi 2 rfl) rfl 78 rfl ?_
              refine v_iload_n h dX7_copy_78 3 rfl 79 rfl ?_
              refine v_iald h (f := v.2.1) dX7_copy_79 2 0 rfl rfl (zix_in g7) 80 rfl ?_
              obtain ⟨u12, hu12, hf⟩ := zb hf
              refine v_callSi h (rest := []) dX7_copy_80 (tX7_isPart l G ca   x4 x5 (zgt v.2.1 x3) hu12) gX7_copy_X7_isPart rfl ⟨rfl, rfl⟩ nX7_isPart ⟨Nat.le_of_ble_eq_true rfl, Nat.le_of_ble_eq_true rfl⟩ [] rfl rfl rfl rfl (Nat.le_of_ble_eq_true rfl) ⟨Nat.zero_le _, Nat.zero_le _⟩ rfl (wM ca ad v) rfl (wM_adr _ _ _ _) 83 rfl ?_
              refine v_if_ne h dX7_copy_83 89 (by decide) 86 rfl (fun c13 => ?_) (fun c13 => ?_)
              · replace hf := zf c13 hf
                refine v_iload_n h dX7_copy_89 1 rfl 90 rfl ?_
                refine v_iload_n h dX7_copy_90 3 rfl 91 rfl ?_
                refine v_icmp_ne h dX7_copy_91 104 (by decide) 94 rfl (fun c14 => ?_) (fun c14 => ?_)
                · replace hf := zf c14 hf
                  refine v_iconst h dX7_copy_104 0 rfl 105 rfl ?_
                  refine v_istore h dX7_copy_105 (Nat.le_of_ble_eq_true rfl) rfl rfl [(0, .ref (ad 0)), (1, .int x1), (2, .int x2), (3, .int x3), (4, .int x4), (5, .int x5), (6, .int 0)] rfl 107 rfl ?_
                  refine v_iconst h dX7_copy_107 0 rfl 108 rfl ?_
                  refine v_istore h dX7_copy_108 (Nat.le_of_ble_eq_true rfl) rfl rfl [(0, .ref (ad 0)), (1, .int x1), (2, .int x2), (3, .int x3), (4, .int x4), (5, .int x5), (6, .int 0), (7, .int 0)] rfl 110 rfl ?_
                  obtain ⟨u15, hu15, hf⟩ := zb hf
                  refine v_sub [0, 1, 2, 3, 4, 5, 6, 7] rfl ?_
                  refine tX7_copy_l110 h zF v x1 x2 x3 x4 x5 0 0 v.2.2.1 _ hu15 ?_
                  refine v_iload h dX7_copy_171 0 rfl 173 rfl ?_
                  cases (Option.some.inj hf)
                  exact hE 173 _ rfl dX7_copy_173
                · replace hf := zt c14 hf
                  refine v_iload h dX7_copy_94 4 rfl 96 rfl ?_
                  refine v_iload_n h dX7_copy_96 2 rfl 97 rfl ?_
                  refine v_icmp_le h dX7_copy_97 104 (by decide) 100 rfl (fun c16 => ?_) (fun c16 => ?_)
                  · replace hf := zt c16 hf
                    refine v_iconst h dX7_copy_104 0 rfl 105 rfl ?_
                    refine v_istore h dX7_copy_105 (Nat.le_of_ble_eq_true rfl) rfl rfl [(0, .ref (ad 0)), (1, .int x1), (2, .int x2), (3, .int x3), (4, .int x4), (5, .int x5), (6, .int 0)] rfl 107 rfl ?_
                    refine v_iconst h dX7_copy_107 0 rfl 108 rfl ?_
                    refine v_istore h dX7_copy_108 (Nat.le_of_ble_eq_true rfl) rfl rfl [(0, .ref (ad 0)), (1, .int x1), (2, .int x2), (3, .int x3), (4, .int x4), (5, .int x5), (6, .int 0), (7, .int 0)] rfl 110 rfl ?_
                    obtain ⟨u17, hu17, hf⟩ := zb hf
                    refine v_sub [0, 1, 2, 3, 4, 5, 6, 7] rfl ?_
                    refine tX7_copy_l110 h zF v x1 x2 x3 x4 x5 0 0 v.2.2.1 _ hu17 ?_
                    refine v_iload h dX7_copy_171 0 rfl 173 rfl ?_
                    cases (Option.some.inj hf)
                    exact hE 173 _ rfl dX7_copy_173
                  · replace hf := zf c16 hf
                    refine v_iconst h dX7_copy_100 1 rfl 101 rfl ?_
                    refine v_goto h dX7_copy_101 105 (by decide) ?_
                    refine v_istore h dX7_copy_105 (Nat.le_of_ble_eq_true rfl) rfl rfl [(0, .ref (ad 0)), (1, .int x1), (2, .int x2), (3, .int x3), (4, .int x4), (5, .int x5), (6, .int 1)] rfl 107 rfl ?_
                    refine v_iconst h dX7_copy_107 0 rfl 108 rfl ?_
                    refine v_istore h dX7_copy_108 (Nat.le_of_ble_eq_true rfl) rfl rfl [(0, .ref (ad 0)), (1, .int x1), (2, .int x2), (3, .int x3), (4, .int x4), (5, .int x5), (6, .int 1), (7, .int 0)] rfl 110 rfl ?_
                    obtain ⟨u18, hu18, hf⟩ := zb hf
                    refine v_sub [0, 1, 2, 3, 4, 5, 6, 7] rfl ?_
                    refine tX7_copy_l110 h zF v x1 x2 x3 x4 x5 1 0 v.2.2.1 _ hu18 ?_
                    refine v_iload h dX7_copy_171 0 rfl 173 rfl ?_
                    cases (Option.some.inj hf)
                    exact hE 173 _ rfl dX7_copy_173
              · replace hf := zt c13 hf
                refine v_bipush h dX7_copy_86 (-13) rfl 88 rfl ?_
                cases (Option.some.inj hf)
                exact hE 88 _ rfl dX7_copy_88
          · replace hf := zf c9 hf
            refine v_bipush h dX7_copy_52 (-12) rfl 54 rfl ?_
            cases (Option.some.inj hf)
            exact hE 54 _ rfl dX7_copy_54
        · replace hf := zf c8 hf
          refine v_bipush h dX7_copy_34 (-11) rfl 36 rfl ?_
          cases (Option.some.inj hf)
          exact hE 36 _ rfl dX7_copy_36
    · replace hf := zt c4 hf
      refine v_iconst h dX7_copy_14 (-1) rfl 15 rfl ?_
      cases (Option.some.inj hf)
      exact hE 15 _ rfl dX7_copy_15
