theorem zi_0_8 : vp_in 0 8 := by unfold vp_in; decide
theorem zi_1_8 : vp_in 1 8 := by unfold vp_in; decide
theorem zi_2_8 : vp_in 2 8 := by unfold vp_in; decide
theorem zi_3_8 : vp_in 3 8 := by unfold vp_in; decide
theorem zi_4_8 : vp_in 4 8 := by unfold vp_in; decide
theorem zi_5_8 : vp_in 5 8 := by unfold vp_in; decide
theorem zi_6_8 : vp_in 6 8 := by unfold vp_in; decide
theorem zi_7_8 : vp_in 7 8 := by unfold vp_in; decide
abbrev rX1_become : Room := { frames := 3, cells := 0, slots := 0, locals := 60 }
theorem nX1_become : zNoMH yX1_become 1 := ⟨by decide +kernel, by decide +kernel, by decide +kernel⟩
theorem iX1_become_X1 : ∀ w ∈ wsX10, w ∈ wsX1_become := fun _ h => (List.mem_cons_of_mem _ (List.mem_append_left _ (List.mem_append_left _ (List.mem_append_right _ h))))
theorem iX1_become_X5 : ∀ w ∈ wsX50, w ∈ wsX1_become := fun _ h => (List.mem_cons_of_mem _ (List.mem_append_left _ (List.mem_append_right _ h)))
theorem iX1_become_X0 : ∀ w ∈ wsX00, w ∈ wsX1_become := fun _ h => (List.mem_cons_of_mem _ (List.mem_append_right _ h))
def fX1_become (v : HV) (w : HV) : Option HV := ((fX5_become v.2.1 w.2.1) : Option WV).bind (fun u1 => ((fX0_become v.2.2.1 w.2.2.1) : Option CV).bind (fun u2 => ((fX0_become (v.2.2.2.1 0) (w.2.2.2.1 0)) : Option CV).bind (fun u3 => ((fX0_become (v.2.2.2.1 1) (w.2.2.2.1 1)) : Option CV).bind (fun u4 => ((fX0_become (v.2.2.2.1 2) (w.2.2.2.1 2)) : Option CV).bind (fun u5 => ((fX0_become (v.2.2.2.1 3) (w.2.2.2.1 3)) : Option CV).bind (fun u6 => ((fX0_become (v.2.2.2.1 4) (w.2.2.2.1 4)) : Option CV).bind (fun u7 => ((fX0_become (v.2.2.2.1 5) (w.2.2.2.1 5)) : Option CV).bind (fun u8 => ((fX0_become (v.2.2.2.1 6) (w.2.2.2.1 6)) : Option CV).bind (fun u9 => ((fX0_become (v.2.2.2.1 7) (w.2.2.2.1 7)) : Option CV).bind (fun u10 => some (w.1, u1, u2, (va_up (va_up (va_up (va_up (va_up (va_up (va_up (va_up v.2.2.2.1 0 u3) 1 u4) 2 u5) 3 u6) 4 u7) 5 u8) 6 u9) 7 u10), w.2.2.2.2.1, w.2.2.2.2.2)))))))))))
set_option maxRecDepth 100000 in
set_option maxHeartbeats 4000000 in
theorem tX1_become (l : Launch) (G : va_G) (ca : Nat → ClassId) (ad : Nat → Nat) (ad2 : Nat → Nat) (v : HV) (w : HV)  {o : HV} (hf : fX1_become v w = some o) : zMv l yX1_become wsX1_become rX1_become G ca [.ref (ad 0), .ref (ad2 0)] (wH ca ad v ++ wH ca ad2 w) (wH ca ad o ++ wH ca ad2 w) := by
  refine zMv.of (cc := cX1_become) (nL := 3) (own := RX1) (by decide) rfl rfl (Nat.le_of_ble_eq_true rfl) (fun X h hE => ?_)
  show V X G 3 0 0 (wH ca ad v ++ wH ca ad2 w) 0 [(0, .ref (ad 0)), (1, .ref (ad2 0))] []
  unfold fX1_become at hf
  refine v_aload_n h dX1_become_0 0 rfl 1 rfl ?_
  refine v_aload_n h dX1_become_1 1 rfl 2 rfl ?_
  refine v_get h (v := .int w.1) dX1_become_2 iX1_become_X1 49 rfl rfl 0 (by decide) (zwi 1 rfl) rfl 5 rfl ?_
  refine v_put h dX1_become_5 iX1_become_X1 tyX1 tyX1_ok nmX1 0 rfl rfl 0 (by decide) (zwi 1 rfl) rfl rfl rfl (Nat.le_of_ble_eq_true rfl) (wH ca ad (w.1, v.2) ++ wH ca ad2 w) rfl 8 rfl ?_
  refine v_aload_n h dX1_become_8 0 rfl 9 rfl ?_
  refine v_get h (v := .ref (ad 1)) dX1_become_9 iX1_become_X1 0 rfl rfl 1 (by decide) (zwi 2 rfl) rfl 12 rfl ?_
  refine v_aload_n h dX1_become_12 1 rfl 13 rfl ?_
  refine v_get h (v := .ref (ad2 1)) dX1_become_13 iX1_become_X1 49 rfl rfl 1 (by decide) (zwi 2 rfl) rfl 16 rfl ?_
  obtain ⟨u1, hu1, hf⟩ := zb hf
  refine v_callVv h (rest := []) dX1_become_16 (tX5_become l G ca (fun i => ad (1 + i)) (fun i => ad2 (1 + i)) v.2.1 w.2.1  hu1) gX1_become_X5_become rfl rfl ⟨rfl, rfl⟩ nX5_become ⟨Nat.le_of_ble_eq_true rfl, Nat.le_of_ble_eq_true rfl⟩ [1, 2, 50, 51] rfl rfl 0 rfl rfl rfl rfl (Nat.le_of_ble_eq_true rfl) ⟨Nat.zero_le _, Nat.zero_le _⟩ rfl (wH ca ad (w.1, u1, v.2.2) ++ wH ca ad2 w) rfl rfl 19 rfl ?_
  refine v_aload_n h dX1_become_19 0 rfl 20 rfl ?_
  refine v_get h (v := .ref (ad 3)) dX1_become_20 iX1_become_X1 0 rfl rfl 2 (by decide) (zwi 3 rfl) rfl 23 rfl ?_
  refine v_aload_n h dX1_become_23 1 rfl 24 rfl ?_
  refine v_get h (v := .ref (ad2 3)) dX1_become_24 iX1_become_X1 49 rfl rfl 2 (by decide) (zwi 3 rfl) rfl 27 rfl ?_
  obtain ⟨u2, hu2, hf⟩ := zb hf
  refine v_gcallVv h (rest := []) dX1_become_27 (tX0_become l G ca (fun i => ad (3 + i)) (fun i => ad2 (3 + i)) v.2.2.1 w.2.2.1  hu2) gX1_become_X0_become rfl rfl ⟨rfl, rfl⟩ nX0_become ⟨Nat.le_of_ble_eq_true rfl, Nat.le_of_ble_eq_true rfl⟩ (List.range' 3 5 ++ List.range' 52 5) (seg2_at 3 5 52 5 rfl rfl rfl rfl) (nd_2 (by decide)) 0 rfl rfl rfl rfl (Nat.le_of_ble_eq_true rfl) ⟨Nat.zero_le _, Nat.zero_le _⟩ (wH ca ad (w.1, u1, u2, v.2.2.2) ++ wH ca ad2 w) (seg2_get (k1 := 3) (n1 := 5) (k2 := 52) (n2 := 5) rfl rfl (Nat.le_of_ble_eq_true rfl) rfl rfl (Nat.le_of_ble_eq_true rfl)) rfl 30 rfl ?_
  refine v_iconst h dX1_become_30 0 rfl 31 rfl ?_
  refine v_istore_n h dX1_become_31 (Nat.le_of_ble_eq_true rfl) rfl rfl [(0, .ref (ad 0)), (1, .ref (ad2 0)), (2, .int 0)] rfl 32 rfl ?_
  refine v_iload_n h dX1_become_32 2 rfl 33 rfl ?_
  refine v_bipush h dX1_become_33 8 rfl 35 rfl ?_
  refine v_icmp_ge h dX1_become_35 59 (by decide) 38 rfl (fun c => absurd c (by decide)) (fun _ => ?_)
  refine v_aload_n h dX1_become_38 0 rfl 39 rfl ?_
  refine v_get h (v := .ref (ad 8)) dX1_become_39 iX1_become_X1 0 rfl rfl 3 (by decide) (zwi 4 rfl) rfl 42 rfl ?_
  refine v_iload_n h dX1_become_42 2 rfl 43 rfl ?_
  refine v_aald h dX1_become_43 8 3 rfl rfl zi_0_8 (b := (ad 9)) rfl 44 rfl ?_
  refine v_aload_n h dX1_become_44 1 rfl 45 rfl ?_
  refine v_get h (v := .ref (ad2 8)) dX1_become_45 iX1_become_X1 49 rfl rfl 3 (by decide) (zwi 4 rfl) rfl 48 rfl ?_
  refine v_iload_n h dX1_become_48 2 rfl 49 rfl ?_
  refine v_aald h dX1_become_49 57 3 rfl rfl zi_0_8 (b := (ad2 9)) rfl 50 rfl ?_
  obtain ⟨u3, hu3, hf⟩ := zb hf
  refine v_gcallVv h (rest := []) dX1_become_50 (tX0_become l G ca (fun i => ad (9 + i)) (fun i => ad2 (9 + i)) (v.2.2.2.1 0) (w.2.2.2.1 0)  hu3) gX1_become_X0_become rfl rfl ⟨rfl, rfl⟩ nX0_become ⟨Nat.le_of_ble_eq_true rfl, Nat.le_of_ble_eq_true rfl⟩ (List.range' 9 5 ++ List.range' 58 5) (seg2_at 9 5 58 5 rfl rfl rfl rfl) (nd_2 (by decide)) 0 rfl rfl rfl rfl (Nat.le_of_ble_eq_true rfl) ⟨Nat.zero_le _, Nat.zero_le _⟩ (wH ca ad (w.1, u1, u2, (va_up v.2.2.2.1 0 u3), v.2.2.2.2) ++ wH ca ad2 w) (seg2_get (k1 := 9) (n1 := 5) (k2 := 58) (n2 := 5) rfl rfl (Nat.le_of_ble_eq_true rfl) rfl rfl (Nat.le_of_ble_eq_true rfl)) rfl 53 rfl ?_
  refine v_iinc h dX1_become_53 2 rfl 1 rfl (Nat.le_of_ble_eq_true rfl) rfl rfl [(0, .ref (ad 0)), (1, .ref (ad2 0)), (2, .int 1)] rfl 56 rfl ?_
  refine v_goto h dX1_become_56 32 (by decide) ?_
  refine v_iload_n h dX1_become_32 2 rfl 33 rfl ?_
  refine v_bipush h dX1_become_33 8 rfl 35 rfl ?_
  refine v_icmp_ge h dX1_become_35 59 (by decide) 38 rfl (fun c => absurd c (by decide)) (fun _ => ?_)
  refine v_aload_n h dX1_become_38 0 rfl 39 rfl ?_
  refine v_get h (v := .ref (ad 8)) dX1_become_39 iX1_become_X1 0 rfl rfl 3 (by decide) (zwi 4 rfl) rfl 42 rfl ?_
  refine v_iload_n h dX1_become_42 2 rfl 43 rfl ?_
  refine v_aald h dX1_become_43 8 3 rfl rfl zi_1_8 (b := (ad 14)) rfl 44 rfl ?_
  refine v_aload_n h dX1_become_44 1 rfl 45 rfl ?_
  refine v_get h (v := .ref (ad2 8)) dX1_become_45 iX1_become_X1 49 rfl rfl 3 (by decide) (zwi 4 rfl) rfl 48 rfl ?_
  refine v_iload_n h dX1_become_48 2 rfl 49 rfl ?_
  refine v_aald h dX1_become_49 57 3 rfl rfl zi_1_8 (b := (ad2 14)) rfl 50 rfl ?_
  obtain ⟨u4, hu4, hf⟩ := zb hf
  refine v_gcallVv h (rest := []) dX1_become_50 (tX0_become l G ca (fun i => ad (14 + i)) (fun i => ad2 (14 + i)) (v.2.2.2.1 1) (w.2.2.2.1 1)  hu4) gX1_become_X0_become rfl rfl ⟨rfl, rfl⟩ nX0_become ⟨Nat.le_of_ble_eq_true rfl, Nat.le_of_ble_eq_true rfl⟩ (List.range' 14 5 ++ List.range' 63 5) (seg2_at 14 5 63 5 rfl rfl rfl rfl) (nd_2 (by decide)) 0 rfl rfl rfl rfl (Nat.le_of_ble_eq_true rfl) ⟨Nat.zero_le _, Nat.zero_le _⟩ (wH ca ad (w.1, u1, u2, (va_up (va_up v.2.2.2.1 0 u3) 1 u4), v.2.2.2.2) ++ wH ca ad2 w) (seg2_get (k1 := 14) (n1 := 5) (k2 := 63) (n2 := 5) rfl rfl (Nat.le_of_ble_eq_true rfl) rfl rfl (Nat.le_of_ble_eq_true rfl)) rfl 53 rfl ?_
  refine v_iinc h dX1_become_53 2 rfl 2 rfl (Nat.le_of_ble_eq_true rfl) rfl rfl [(0, .ref (ad 0)), (1, .ref (ad2 0)), (2, .int 2)] rfl 56 rfl ?_
  refine v_goto h dX1_become_56 32 (by decide) ?_
  refine v_iload_n h dX1_become_32 2 rfl 33 rfl ?_
  refine v_bipush h dX1_become_33 8 rfl 35 rfl ?_
  refine v_icmp_ge h dX1_become_35 59 (by decide) 38 rfl (fun c => absurd c (by decide)) (fun _ => ?_)
  refine v_aload_n h dX1_become_38 0 rfl 39 rfl ?_
  refine v_get h (v := .ref (ad 8)) dX1_become_39 iX1_become_X1 0 rfl rfl 3 (by decide) (zwi 4 rfl) rfl 42 rfl ?_
  refine v_iload_n h dX1_become_42 2 rfl 43 rfl ?_
  refine v_aald h dX1_become_43 8 3 rfl rfl zi_2_8 (b := (ad 19)) rfl 44 rfl ?_
  refine v_aload_n h dX1_become_44 1 rfl 45 rfl ?_
  refine v_get h (v := .ref (ad2 8)) dX1_become_45 iX1_become_X1 49 rfl rfl 3 (by decide) (zwi 4 rfl) rfl 48 rfl ?_
  refine v_iload_n h dX1_become_48 2 rfl 49 rfl ?_
  refine v_aald h dX1_become_49 57 3 rfl rfl zi_2_8 (b := (ad2 19)) rfl 50 rfl ?_
  obtain ⟨u5, hu5, hf⟩ := zb hf
  refine v_gcallVv h (rest := []) dX1_become_50 (tX0_become l G ca (fun i => ad (19 + i)) (fun i => ad2 (19 + i)) (v.2.2.2.1 2) (w.2.2.2.1 2)  hu5) gX1_become_X0_become rfl rfl ⟨rfl, rfl⟩ nX0_become ⟨Nat.le_of_ble_eq_true rfl, Nat.le_of_ble_eq_true rfl⟩ (List.range' 19 5 ++ List.range' 68 5) (seg2_at 19 5 68 5 rfl rfl rfl rfl) (nd_2 (by decide)) 0 rfl rfl rfl rfl (Nat.le_of_ble_eq_true rfl) ⟨Nat.zero_le _, Nat.zero_le _⟩ (wH ca ad (w.1, u1, u2, (va_up (va_up (va_up v.2.2.2.1 0 u3) 1 u4) 2 u5), v.2.2.2.2) ++ wH ca ad2 w) (seg2_get (k1 := 19) (n1 := 5) (k2 := 68) (n2 := 5) rfl rfl (Nat.le_of_ble_eq_true rfl) rfl rfl (Nat.le_of_ble_eq_true rfl)) rfl 53 rfl ?_
  refine v_iinc h dX1_become_53 2 rfl 3 rfl (Nat.le_of_ble_eq_true rfl) rfl rfl [(0, .ref (ad 0)), (1, .ref (ad2 0)), (2, .int 3)] rfl 56 rfl ?_
  refine v_goto h dX1_become_56 32 (by decide) ?_
  refine v_iload_n h dX1_become_32 2 rfl 33 rfl ?_
  refine v_bipush h dX1_become_33 8 rfl 35 rfl ?_
  refine v_icmp_ge h dX1_become_35 59 (by decide) 38 rfl (fun c => absurd c (by decide)) (fun _ => ?_)
  refine v_aload_n h dX1_become_38 0 rfl 39 rfl ?_
  refine v_get h (v := .ref (ad 8)) dX1_become_39 iX1_become_X1 0 rfl rfl 3 (by decide) (zwi 4 rfl) rfl 42 rfl ?_
  refine v_iload_n h dX1_become_42 2 rfl 43 rfl ?_
  refine v_aald h dX1_become_43 8 3 rfl rfl zi_3_8 (b := (ad 24)) rfl 44 rfl ?_
  refine v_aload_n h dX1_become_44 1 rfl 45 rfl ?_
  refine v_get h (v := .ref (ad2 8)) dX1_become_45 iX1_become_X1 49 rfl rfl 3 (by decide) (zwi 4 rfl) rfl 48 rfl ?_
  refine v_iload_n h dX1_become_48 2 rfl 49 rfl ?_
  refine v_aald h dX1_become_49 57 3 rfl rfl zi_3_8 (b := (ad2 24)) rfl 50 rfl ?_
  obtain ⟨u6, hu6, hf⟩ := zb hf
  refine v_gcallVv h (rest := []) dX1_become_50 (tX0_become l G ca (fun i => ad (24 + i)) (fun i => ad2 (24 + i)) (v.2.2.2.1 3) (w.2.2.2.1 3)  hu6) gX1_become_X0_become rfl rfl ⟨rfl, rfl⟩ nX0_become ⟨Nat.le_of_ble_eq_true rfl, Nat.le_of_ble_eq_true rfl⟩ (List.range' 24 5 ++ List.range' 73 5) (seg2_at 24 5 73 5 rfl rfl rfl rfl) (nd_2 (by decide)) 0 rfl rfl rfl rfl (Nat.le_of_ble_eq_true rfl) ⟨Nat.zero_le _, Nat.zero_le _⟩ (wH ca ad (w.1, u1, u2, (va_up (va_up (va_up (va_up v.2.2.2.1 0 u3) 1 u4) 2 u5) 3 u6), v.2.2.2.2) ++ wH ca ad2 w) (seg2_get (k1 := 24) (n1 := 5) (k2 := 73) (n2 := 5) rfl rfl (Nat.le_of_ble_eq_true rfl) rfl rfl (Nat.le_of_ble_eq_true rfl)) rfl 53 rfl ?_
  refine v_iinc h dX1_become_53 2 rfl 4 rfl (Nat.le_of_ble_eq_true rfl) rfl rfl [(0, .ref (ad 0)), (1, .ref (ad2 0)), (2, .int 4)] rfl 56 rfl ?_
  refine v_goto h dX1_become_56 32 (by decide) ?_
  refine v_iload_n h dX1_become_32 2 rfl 33 rfl ?_
  refine v_bipush h dX1_become_33 8 rfl 35 rfl ?_
  refine v_icmp_ge h dX1_become_35 59 (by decide) 38 rfl (fun c => absurd c (by decide)) (fun _ => ?_)
  refine v_aload_n h dX1_become_38 0 rfl 39 rfl ?_
  refine v_get h (v := .ref (ad 8)) dX1_become_39 iX1_become_X1 0 rfl rfl 3 (by decide) (zwi 4 rfl) rfl 42 rfl ?_
  refine v_iload_n h dX1_become_42 2 rfl 43 rfl ?_
  refine v_aald h dX1_become_43 8 3 rfl rfl zi_4_8 (b := (ad 29)) rfl 44 rfl ?_
  refine v_aload_n h dX1_become_44 1 rfl 45 rfl ?_
  refine v_get h (v := .ref (ad2 8)) dX1_become_45 iX1_become_X1 49 rfl rfl 3 (by decide) (zwi 4 rfl) rfl 48 rfl ?_
  refine v_iload_n h dX1_become_48 2 rfl 49 rfl ?_
  refine v_aald h dX1_become_49 57 3 rfl rfl zi_4_8 (b := (ad2 29)) rfl 50 rfl ?_
  obtain ⟨u7, hu7, hf⟩ := zb hf
  refine v_gcallVv h (rest := []) dX1_become_50 (tX0_become l G ca (fun i => ad (29 + i)) (fun i => ad2 (29 + i)) (v.2.2.2.1 4) (w.2.2.2.1 4)  hu7) gX1_become_X0_become rfl rfl ⟨rfl, rfl⟩ nX0_become ⟨Nat.le_of_ble_eq_true rfl, Nat.le_of_ble_eq_true rfl⟩ (List.range' 29 5 ++ List.range' 78 5) (seg2_at 29 5 78 5 rfl rfl rfl rfl) (nd_2 (by decide)) 0 rfl rfl rfl rfl (Nat.le_of_ble_eq_true rfl) ⟨Nat.zero_le _, Nat.zero_le _⟩ (wH ca ad (w.1, u1, u2, (va_up (va_up (va_up (va_up (va_up v.2.2.2.1 0 u3) 1 u4) 2 u5) 3 u6) 4 u7), v.2.2.2.2) ++ wH ca ad2 w) (seg2_get (k1 := 29) (n1 := 5) (k2 := 78) (n2 := 5) rfl rfl (Nat.le_of_ble_eq_true rfl) rfl rfl (Nat.le_of_ble_eq_true rfl)) rfl 53 rfl ?_
  refine v_iinc h dX1_become_53 2 rfl 5 rfl (Nat.le_of_ble_eq_true rfl) rfl rfl [(0, .ref (ad 0)), (1, .ref (ad2 0)), (2, .int 5)] rfl 56 rfl ?_
  refine v_goto h dX1_become_56 32 (by decide) ?_
  refine v_iload_n h dX1_become_32 2 rfl 33 rfl ?_
  refine v_bipush h dX1_become_33 8 rfl 35 rfl ?_
  refine v_icmp_ge h dX1_become_35 59 (by decide) 38 rfl (fun c => absurd c (by decide)) (fun _ => ?_)
  refine v_aload_n h dX1_become_38 0 rfl 39 rfl ?_
  refine v_get h (v := .ref (ad 8)) dX1_become_39 iX1_become_X1 0 rfl rfl 3 (by decide) (zwi 4 rfl) rfl 42 rfl ?_
  refine v_iload_n h dX1_become_42 2 rfl 43 rfl ?_
  refine v_aald h dX1_become_43 8 3 rfl rfl zi_5_8 (b := (ad 34)) rfl 44 rfl ?_
  refine v_aload_n h dX1_become_44 1 rfl 45 rfl ?_
  refine v_get h (v := .ref (ad2 8)) dX1_become_45 iX1_become_X1 49 rfl rfl 3 (by decide) (zwi 4 rfl) rfl 48 rfl ?_
  refine v_iload_n h dX1_become_48 2 rfl 49 rfl ?_
  refine v_aald h dX1_become_49 57 3 rfl rfl zi_5_8 (b := (ad2 34)) rfl 50 rfl ?_
  obtain ⟨u8, hu8, hf⟩ := zb hf
  refine v_gcallVv h (rest := []) dX1_become_50 (tX0_become l G ca (fun i => ad (34 + i)) (fun i => ad2 (34 + i)) (v.2.2.2.1 5) (w.2.2.2.1 5)  hu8) gX1_become_X0_become rfl rfl ⟨rfl, rfl⟩ nX0_become ⟨Nat.le_of_ble_eq_true rfl, Nat.le_of_ble_eq_true rfl⟩ (List.range' 34 5 ++ List.range' 83 5) (seg2_at 34 5 83 5 rfl rfl rfl rfl) (nd_2 (by decide)) 0 rfl rfl rfl rfl (Nat.le_of_ble_eq_true rfl) ⟨Nat.zero_le _, Nat.zero_le _⟩ (wH ca ad (w.1, u1, u2, (va_up (va_up (va_up (va_up (va_up (va_up v.2.2.2.1 0 u3) 1 u4) 2 u5) 3 u6) 4 u7) 5 u8), v.2.2.2.2) ++ wH ca ad2 w) (seg2_get (k1 := 34) (n1 := 5) (k2 := 83) (n2 := 5) rfl rfl (Nat.le_of_ble_eq_true rfl) rfl rfl (Nat.le_of_ble_eq_true rfl)) rfl 53 rfl ?_
  refine v_iinc h dX1_become_53 2 rfl 6 rfl (Nat.le_of_ble_eq_true rfl) rfl rfl [(0, .ref (ad 0)), (1, .ref (ad2 0)), (2, .int 6)] rfl 56 rfl ?_
  refine v_goto h dX1_become_56 32 (by decide) ?_
  refine v_iload_n h dX1_become_32 2 rfl 33 rfl ?_
  refine v_bipush h dX1_become_33 8 rfl 35 rfl ?_
  refine v_icmp_ge h dX1_become_35 59 (by decide) 38 rfl (fun c => absurd c (by decide)) (fun _ => ?_)
  refine v_aload_n h dX1_become_38 0 rfl 39 rfl ?_
  refine v_get h (v := .ref (ad 8)) dX1_become_39 iX1_become_X1 0 rfl rfl 3 (by decide) (zwi 4 rfl) rfl 42 rfl ?_
  refine v_iload_n h dX1_become_42 2 rfl 43 rfl ?_
  refine v_aald h dX1_become_43 8 3 rfl rfl zi_6_8 (b := (ad 39)) rfl 44 rfl ?_
  refine v_aload_n h dX1_become_44 1 rfl 45 rfl ?_
  refine v_get h (v := .ref (ad2 8)) dX1_become_45 iX1_become_X1 49 rfl rfl 3 (by decide) (zwi 4 rfl) rfl 48 rfl ?_
  refine v_iload_n h dX1_become_48 2 rfl 49 rfl ?_
  refine v_aald h dX1_become_49 57 3 rfl rfl zi_6_8 (b := (ad2 39)) rfl 50 rfl ?_
  obtain ⟨u9, hu9, hf⟩ := zb hf
  refine v_gcallVv h (rest := []) dX1_become_50 (tX0_become l G ca (fun i => ad (39 + i)) (fun i => ad2 (39 + i)) (v.2.2.2.1 6) (w.2.2.2.1 6)  hu9) gX1_become_X0_become rfl rfl ⟨rfl, rfl⟩ nX0_become ⟨Nat.le_of_ble_eq_true rfl, Nat.le_of_ble_eq_true rfl⟩ (List.range' 39 5 ++ List.range' 88 5) (seg2_at 39 5 88 5 rfl rfl rfl rfl) (nd_2 (by decide)) 0 rfl rfl rfl rfl (Nat.le_of_ble_eq_true rfl) ⟨Nat.zero_le _, Nat.zero_le _⟩ (wH ca ad (w.1, u1, u2, (va_up (va_up (va_up (va_up (va_up (va_up (va_up v.2.2.2.1 0 u3) 1 u4) 2 u5) 3 u6) 4 u7) 5 u8) 6 u9), v.2.2.2.2) ++ wH ca ad2 w) (seg2_get (k1 := 39) (n1 := 5) (k2 := 88) (n2 := 5) rfl rfl (Nat.le_of_ble_eq_true rfl) rfl rfl (Nat.le_of_ble_eq_true rfl)) rfl 53 rfl ?_
  refine v_iinc h dX1_become_53 2 rfl 7 rfl (Nat.le_of_ble_eq_true rfl) rfl rfl [(0, .ref (ad 0)), (1, .ref (ad2 0)), (2, .int 7)] rfl 56 rfl ?_
  refine v_goto h dX1_become_56 32 (by decide) ?_
  refine v_iload_n h dX1_become_32 2 rfl 33 rfl ?_
  refine v_bipush h dX1_become_33 8 rfl 35 rfl ?_
  refine v_icmp_ge h dX1_become_35 59 (by decide) 38 rfl (fun c => absurd c (by decide)) (fun _ => ?_)
  refine v_aload_n h dX1_become_38 0 rfl 39 rfl ?_
  refine v_get h (v := .ref (ad 8)) dX1_become_39 iX1_become_X1 0 rfl rfl 3 (by decide) (zwi 4 rfl) rfl 42 rfl ?_
  refine v_iload_n h dX1_become_42 2 rfl 43 rfl ?_
  refine v_aald h dX1_become_43 8 3 rfl rfl zi_7_8 (b := (ad 44)) rfl 44 rfl ?_
  refine v_aload_n h dX1_become_44 1 rfl 45 rfl ?_
  refine v_get h (v := .ref (ad2 8)) dX1_become_45 iX1_become_X1 49 rfl rfl 3 (by decide) (zwi 4 rfl) rfl 48 rfl ?_
  refine v_iload_n h dX1_become_48 2 rfl 49 rfl ?_
  refine v_aald h dX1_become_49 57 3 rfl rfl zi_7_8 (b := (ad2 44)) rfl 50 rfl ?_
  obtain ⟨u10, hu10, hf⟩ := zb hf
  refine v_gcallVv h (rest := []) dX1_become_50 (tX0_become l G ca (fun i => ad (44 + i)) (fun i => ad2 (44 + i)) (v.2.2.2.1 7) (w.2.2.2.1 7)  hu10) gX1_become_X0_become rfl rfl ⟨rfl, rfl⟩ nX0_become ⟨Nat.le_of_ble_eq_true rfl, Nat.le_of_ble_eq_true rfl⟩ (List.range' 44 5 ++ List.range' 93 5) (seg2_at 44 5 93 5 rfl rfl rfl rfl) (nd_2 (by decide)) 0 rfl rfl rfl rfl (Nat.le_of_ble_eq_true rfl) ⟨Nat.zero_le _, Nat.zero_le _⟩ (wH ca ad (w.1, u1, u2, (va_up (va_up (va_up (va_up (va_up (va_up (va_up (va_up v.2.2.2.1 0 u3) 1 u4) 2 u5) 3 u6) 4 u7) 5 u8) 6 u9) 7 u10), v.2.2.2.2) ++ wH ca ad2 w) (seg2_get (k1 := 44) (n1 := 5) (k2 := 93) (n2 := 5) rfl rfl (Nat.le_of_ble_eq_true rfl) rfl rfl (Nat.le_of_ble_eq_true rfl)) rfl 53 rfl ?_
  refine v_iinc h dX1_become_53 2 rfl 8 rfl (Nat.le_of_ble_eq_true rfl) rfl rfl [(0, .ref (ad 0)), (1, .ref (ad2 0)), (2, .int 8)] rfl 56 rfl ?_
  refine v_goto h dX1_become_56 32 (by decide) ?_
  refine v_iload_n h dX1_become_32 2 rfl 33 rfl ?_
  refine v_bipush h dX1_become_33 8 rfl 35 rfl ?_
  refine v_icmp_ge h dX1_become_35 59 (by decide) 38 rfl (fun _ => ?_) (fun c => absurd c (by decide))
  refine v_aload_n h dX1_become_59 0 rfl 60 rfl ?_
  refine v_aload_n h dX1_become_60 1 rfl 61 rfl ?_
  refine v_get h (v := .int w.2.2.2.2.1) dX1_become_61 iX1_become_X1 49 rfl rfl 4 (by decide) (zwi 5 rfl) rfl 64 rfl ?_
  refine v_put h dX1_become_64 iX1_become_X1 tyX1 tyX1_ok nmX1 0 rfl rfl 4 (by decide) (zwi 5 rfl) rfl rfl rfl (Nat.le_of_ble_eq_true rfl) (wH ca ad (w.1, u1, u2, (va_up (va_up (va_up (va_up (va_up (va_up (va_up (va_up v.2.2.2.1 0 u3) 1 u4) 2 u5) 3 u6) 4 u7) 5 u8) 6 u9) 7 u10), w.2.2.2.2.1, v.2.2.2.2.2) ++ wH ca ad2 w) rfl 67 rfl ?_
  refine v_aload_n h dX1_become_67 0 rfl 68 rfl ?_
  refine v_aload_n h dX1_become_68 1 rfl 69 rfl ?_
  refine v_get h (v := .int w.2.2.2.2.2) dX1_become_69 iX1_become_X1 49 rfl rfl 5 (by decide) (zwi 6 rfl) rfl 72 rfl ?_
  refine v_put h dX1_become_72 iX1_become_X1 tyX1 tyX1_ok nmX1 0 rfl rfl 5 (by decide) (zwi 6 rfl) rfl rfl rfl (Nat.le_of_ble_eq_true rfl) (wH ca ad (w.1, u1, u2, (va_up (va_up (va_up (va_up (va_up (va_up (va_up (va_up v.2.2.2.1 0 u3) 1 u4) 2 u5) 3 u6) 4 u7) 5 u8) 6 u9) 7 u10), w.2.2.2.2.1, w.2.2.2.2.2) ++ wH ca ad2 w) rfl 75 rfl ?_
  cases (Option.some.inj hf)
  exact hE 75 _ dX1_become_75
abbrev rX1_remember : Room := { frames := 3, cells := 0, slots := 0, locals := 60 }
theorem nX1_remember : zNoMH yX1_remember 0 := ⟨by decide +kernel, by decide +kernel, by decide +kernel⟩
theorem iX1_remember_X1 : ∀ w ∈ wsX10, w ∈ wsX1_remember := fun _ h => (List.mem_cons_of_mem _ (List.mem_append_left _ (List.mem_append_right _ h)))
theorem iX1_remember_X0 : ∀ w ∈ wsX00, w ∈ wsX1_remember := fun _ h => (List.mem_cons_of_mem _ (List.mem_append_right _ h))
def fX1_remember (v : HV) : Option HV := zgrd (zix v.2.2.2.2.2 8) (((fX0_become (v.2.2.2.1 v.2.2.2.2.2.toNatClampNeg) v.2.2.1) : Option CV).bind (fun u3 => some (v.1, v.2.1, v.2.2.1, (va_up v.2.2.2.1 (v.2.2.2.2.2.toNatClampNeg) u3), (if (v.2.2.2.2.1 + 1) < (8 : Int32) then (v.2.2.2.2.1 + 1) else 8), ((v.2.2.2.2.2 + 1) - (v.2.2.2.2.2 + 1) / 8 * 8))))
set_option maxRecDepth 100000 in
set_option maxHeartbeats 4000000 in
theorem tX1_remember (l : Launch) (G : va_G) (ca : Nat → ClassId) (ad : Nat → Nat) (v : HV)  {o : HV} (hf : fX1_remember v = some o) : zMv l yX1_remember wsX1_remember rX1_remember G ca [.ref (ad 0)] (wH ca ad v) (wH ca ad o) := by
  refine zMv.of (cc := cX1_remember) (nL := 1) (own := RX1) (by decide) rfl rfl (Nat.le_of_ble_eq_true rfl) (fun X h hE => ?_)
  show V X G 1 0 0 (wH ca ad v) 0 [(0, .ref (ad 0))] []
  unfold fX1_remember at hf
  refine v_aload_n h dX1_remember_0 0 rfl 1 rfl ?_
  refine v_get h (v := .ref (ad 8)) dX1_remember_1 iX1_remember_X1 0 rfl rfl 3 (by decide) (zwi 1 rfl) rfl 4 rfl ?_
  refine v_aload_n h dX1_remember_4 0 rfl 5 rfl ?_
  refine v_get h (v := .int v.2.2.2.2.2) dX1_remember_5 iX1_remember_X1 0 rfl rfl 5 (by decide) (zwi 2 rfl) rfl 8 rfl ?_
  obtain ⟨g1, hf⟩ := zg hf
  rcases zix8 g1 with e2 | e2 | e2 | e2 | e2 | e2 | e2 | e2
  · try rw [e2] at hf
    refine v_aald h dX1_remember_8 8 3 rfl rfl (zix_in g1) (b := (ad 9)) (by rw [e2] <;> rfl) 9 rfl ?_
    refine v_aload_n h dX1_remember_9 0 rfl 10 rfl ?_
    refine v_get h (v := .ref (ad 3)) dX1_remember_10 iX1_remember_X1 0 rfl rfl 2 (by decide) (zwi 3 rfl) rfl 13 rfl ?_
    obtain ⟨u3, hu3, hf⟩ := zb hf
    refine v_gcallVv h (rest := []) dX1_remember_13 (tX0_become l G ca (fun i => ad (9 + i)) (fun i => ad (3 + i)) (v.2.2.2.1 0) v.2.2.1  hu3) gX1_remember_X0_become rfl rfl ⟨rfl, rfl⟩ nX0_become ⟨Nat.le_of_ble_eq_true rfl, Nat.le_of_ble_eq_true rfl⟩ (List.range' 9 5 ++ List.range' 3 5) (seg2_at 9 5 3 5 rfl rfl rfl rfl) (nd_2 (by decide)) 0 rfl rfl rfl rfl (Nat.le_of_ble_eq_true rfl) ⟨Nat.zero_le _, Nat.zero_le _⟩ (wH ca ad (v.1, v.2.1, v.2.2.1, (va_up v.2.2.2.1 0 u3), v.2.2.2.2)) (seg2_get (k1 := 9) (n1 := 5) (k2 := 3) (n2 := 5) rfl rfl (Nat.le_of_ble_eq_true rfl) rfl rfl (Nat.le_of_ble_eq_true rfl)) (wH_adr _ _ _ _) 16 rfl ?_
    refine v_aload_n h dX1_remember_16 0 rfl 17 rfl ?_
    refine v_aload_n h dX1_remember_17 0 rfl 18 rfl ?_
    refine v_get h (v := .int v.2.2.2.2.2) dX1_remember_18 iX1_remember_X1 0 rfl rfl 5 (by decide) (zwi 2 rfl) rfl 21 rfl ?_
    refine v_iconst h dX1_remember_21 1 rfl 22 rfl ?_
    refine v_iadd h dX1_remember_22 23 rfl ?_
    refine v_bipush h dX1_remember_23 8 rfl 25 rfl ?_
    refine v_irem h dX1_remember_25 (by decide) 26 rfl ?_
    refine v_put h dX1_remember_26 iX1_remember_X1 tyX1 tyX1_ok nmX1 0 rfl rfl 5 (by decide) (zwi 2 rfl) rfl rfl rfl (Nat.le_of_ble_eq_true rfl) (wH ca ad (v.1, v.2.1, v.2.2.1, (va_up v.2.2.2.1 0 u3), v.2.2.2.2.1, ((v.2.2.2.2.2 + 1) - (v.2.2.2.2.2 + 1) / 8 * 8))) rfl 29 rfl ?_
    refine v_aload_n h dX1_remember_29 0 rfl 30 rfl ?_
    refine v_bipush h dX1_remember_30 8 rfl 32 rfl ?_
    refine v_aload_n h dX1_remember_32 0 rfl 33 rfl ?_
    refine v_get h (v := .int v.2.2.2.2.1) dX1_remember_33 iX1_remember_X1 0 rfl rfl 4 (by decide) (zwi 4 rfl) rfl 36 rfl ?_
    refine v_iconst h dX1_remember_36 1 rfl 37 rfl ?_
    refine v_iadd h dX1_remember_37 38 rfl ?_
    refine v_mmin h dX1_remember_38 (zwi 5 rfl) (zwi 6 rfl) (zwi 7 rfl) (zwi 8 rfl) (Nat.le_of_ble_eq_true rfl) (Nat.le_of_ble_eq_true rfl) (Nat.zero_le _) (Nat.zero_le _) 41 rfl ?_
    refine v_put h dX1_remember_41 iX1_remember_X1 tyX1 tyX1_ok nmX1 0 rfl rfl 4 (by decide) (zwi 4 rfl) rfl rfl rfl (Nat.le_of_ble_eq_true rfl) (wH ca ad (v.1, v.2.1, v.2.2.1, (va_up v.2.2.2.1 0 u3), (if (v.2.2.2.2.1 + 1) < (8 : Int32) then (v.2.2.2.2.1 + 1) else 8), ((v.2.2.2.2.2 + 1) - (v.2.2.2.2.2 + 1) / 8 * 8))) rfl 44 rfl ?_
    cases (Option.some.inj hf)
    exact hE 44 _ dX1_remember_44
  · try rw [e2] at hf
    refine v_aald h dX1_remember_8 8 3 rfl rfl (zix_in g1) (b := (ad 14)) (by rw [e2] <;> rfl) 9 rfl ?_
    refine v_aload_n h dX1_remember_9 0 rfl 10 rfl ?_
    refine v_get h (v := .ref (ad 3)) dX1_remember_10 iX1_remember_X1 0 rfl rfl 2 (by decide) (zwi 3 rfl) rfl 13 rfl ?_
    obtain ⟨u3, hu3, hf⟩ := zb hf
    refine v_gcallVv h (rest := []) dX1_remember_13 (tX0_become l G ca (fun i => ad (14 + i)) (fun i => ad (3 + i)) (v.2.2.2.1 1) v.2.2.1  hu3) gX1_remember_X0_become rfl rfl ⟨rfl, rfl⟩ nX0_become ⟨Nat.le_of_ble_eq_true rfl, Nat.le_of_ble_eq_true rfl⟩ (List.range' 14 5 ++ List.range' 3 5) (seg2_at 14 5 3 5 rfl rfl rfl rfl) (nd_2 (by decide)) 0 rfl rfl rfl rfl (Nat.le_of_ble_eq_true rfl) ⟨Nat.zero_le _, Nat.zero_le _⟩ (wH ca ad (v.1, v.2.1, v.2.2.1, (va_up v.2.2.2.1 1 u3), v.2.2.2.2)) (seg2_get (k1 := 14) (n1 := 5) (k2 := 3) (n2 := 5) rfl rfl (Nat.le_of_ble_eq_true rfl) rfl rfl (Nat.le_of_ble_eq_true rfl)) (wH_adr _ _ _ _) 16 rfl ?_
    refine v_aload_n h dX1_remember_16 0 rfl 17 rfl ?_
    refine v_aload_n h dX1_remember_17 0 rfl 18 rfl ?_
    refine v_get h (v := .int v.2.2.2.2.2) dX1_remember_18 iX1_remember_X1 0 rfl rfl 5 (by decide) (zwi 2 rfl) rfl 21 rfl ?_
    refine v_iconst h dX1_remember_21 1 rfl 22 rfl ?_
    refine v_iadd h dX1_remember_22 23 rfl ?_
    refine v_bipush h dX1_remember_23 8 rfl 25 rfl ?_
    refine v_irem h dX1_remember_25 (by decide) 26 rfl ?_
    refine v_put h dX1_remember_26 iX1_remember_X1 tyX1 tyX1_ok nmX1 0 rfl rfl 5 (by decide) (zwi 2 rfl) rfl rfl rfl (Nat.le_of_ble_eq_true rfl) (wH ca ad (v.1, v.2.1, v.2.2.1, (va_up v.2.2.2.1 1 u3), v.2.2.2.2.1, ((v.2.2.2.2.2 + 1) - (v.2.2.2.2.2 + 1) / 8 * 8))) rfl 29 rfl ?_
    refine v_aload_n h dX1_remember_29 0 rfl 30 rfl ?_
    refine v_bipush h dX1_remember_30 8 rfl 32 rfl ?_
    refine v_aload_n h dX1_remember_32 0 rfl 33 rfl ?_
    refine v_get h (v := .int v.2.2.2.2.1) dX1_remember_33 iX1_remember_X1 0 rfl rfl 4 (by decide) (zwi 4 rfl) rfl 36 rfl ?_
    refine v_iconst h dX1_remember_36 1 rfl 37 rfl ?_
    refine v_iadd h dX1_remember_37 38 rfl ?_
    refine v_mmin h dX1_remember_38 (zwi 5 rfl) (zwi 6 rfl) (zwi 7 rfl) (zwi 8 rfl) (Nat.le_of_ble_eq_true rfl) (Nat.le_of_ble_eq_true rfl) (Nat.zero_le _) (Nat.zero_le _) 41 rfl ?_
    refine v_put h dX1_remember_41 iX1_remember_X1 tyX1 tyX1_ok nmX1 0 rfl rfl 4 (by decide) (zwi 4 rfl) rfl rfl rfl (Nat.le_of_ble_eq_true rfl) (wH ca ad (v.1, v.2.1, v.2.2.1, (va_up v.2.2.2.1 1 u3), (if (v.2.2.2.2.1 + 1) < (8 : Int32) then (v.2.2.2.2.1 + 1) else 8), ((v.2.2.2.2.2 + 1) - (v.2.2.2.2.2 + 1) / 8 * 8))) rfl 44 rfl ?_
    cases (Option.some.inj hf)
    exact hE 44 _ dX1_remember_44
  · try rw [e2] at hf
    refine v_aald h dX1_remember_8 8 3 rfl rfl (zix_in g1) (b := (ad 19)) (by rw [e2] <;> rfl) 9 rfl ?_
    refine v_aload_n h dX1_remember_9 0 rfl 10 rfl ?_
    refine v_get h (v := .ref (ad 3)) dX1_remember_10 iX1_remember_X1 0 rfl rfl 2 (by decide) (zwi 3 rfl) rfl 13 rfl ?_
    obtain ⟨u3, hu3, hf⟩ := zb hf
    refine v_gcallVv h (rest := []) dX1_remember_13 (tX0_become l G ca (fun i => ad (19 + i)) (fun i => ad (3 + i)) (v.2.2.2.1 2) v.2.2.1  hu3) gX1_remember_X0_become rfl rfl ⟨rfl, rfl⟩ nX0_become ⟨Nat.le_of_ble_eq_true rfl, Nat.le_of_ble_eq_true rfl⟩ (List.range' 19 5 ++ List.range' 3 5) (seg2_at 19 5 3 5 rfl rfl rfl rfl) (nd_2 (by decide)) 0 rfl rfl rfl rfl (Nat.le_of_ble_eq_true rfl) ⟨Nat.zero_le _, Nat.zero_le _⟩ (wH ca ad (v.1, v.2.1, v.2.2.1, (va_up v.2.2.2.1 2 u3), v.2.2.2.2)) (seg2_get (k1 := 19) (n1 := 5) (k2 := 3) (n2 := 5) rfl rfl (Nat.le_of_ble_eq_true rfl) rfl rfl (Nat.le_of_ble_eq_true rfl)) (wH_adr _ _ _ _) 16 rfl ?_
    refine v_aload_n h dX1_remember_16 0 rfl 17 rfl ?_
    refine v_aload_n h dX1_remember_17 0 rfl 18 rfl ?_
    refine v_get h (v := .int v.2.2.2.2.2) dX1_remember_18 iX1_remember_X1 0 rfl rfl 5 (by decide) (zwi 2 rfl) rfl 21 rfl ?_
    refine v_iconst h dX1_remember_21 1 rfl 22 rfl ?_
    refine v_iadd h dX1_remember_22 23 rfl ?_
    refine v_bipush h dX1_remember_23 8 rfl 25 rfl ?_
    refine v_irem h dX1_remember_25 (by decide) 26 rfl ?_
    refine v_put h dX1_remember_26 iX1_remember_X1 tyX1 tyX1_ok nmX1 0 rfl rfl 5 (by decide) (zwi 2 rfl) rfl rfl rfl (Nat.le_of_ble_eq_true rfl) (wH ca ad (v.1, v.2.1, v.2.2.1, (va_up v.2.2.2.1 2 u3), v.2.2.2.2.1, ((v.2.2.2.2.2 + 1) - (v.2.2.2.2.2 + 1) / 8 * 8))) rfl 29 rfl ?_
    refine v_aload_n h dX1_remember_29 0 rfl 30 rfl ?_
    refine v_bipush h dX1_remember_30 8 rfl 32 rfl ?_
    refine v_aload_n h dX1_remember_32 0 rfl 33 rfl ?_
    refine v_get h (v := .int v.2.2.2.2.1) dX1_remember_33 iX1_remember_X1 0 rfl rfl 4 (by decide) (zwi 4 rfl) rfl 36 rfl ?_
    refine v_iconst h dX1_remember_36 1 rfl 37 rfl ?_
    refine v_iadd h dX1_remember_37 38 rfl ?_
    refine v_mmin h dX1_remember_38 (zwi 5 rfl) (zwi 6 rfl) (zwi 7 rfl) (zwi 8 rfl) (Nat.le_of_ble_eq_true rfl) (Nat.le_of_ble_eq_true rfl) (Nat.zero_le _) (Nat.zero_le _) 41 rfl ?_
    refine v_put h dX1_remember_41 iX1_remember_X1 tyX1 tyX1_ok nmX1 0 rfl rfl 4 (by decide) (zwi 4 rfl) rfl rfl rfl (Nat.le_of_ble_eq_true rfl) (wH ca ad (v.1, v.2.1, v.2.2.1, (va_up v.2.2.2.1 2 u3), (if (v.2.2.2.2.1 + 1) < (8 : Int32) then (v.2.2.2.2.1 + 1) else 8), ((v.2.2.2.2.2 + 1) - (v.2.2.2.2.2 + 1) / 8 * 8))) rfl 44 rfl ?_
    cases (Option.some.inj hf)
    exact hE 44 _ dX1_remember_44
  · try rw [e2] at hf
    refine v_aald h dX1_remember_8 8 3 rfl rfl (zix_in g1) (b := (ad 24)) (by rw [e2] <;> rfl) 9 rfl ?_
    refine v_aload_n h dX1_remember_9 0 rfl 10 rfl ?_
    refine v_get h (v := .ref (ad 3)) dX1_remember_10 iX1_remember_X1 0 rfl rfl 2 (by decide) (zwi 3 rfl) rfl 13 rfl ?_
    obtain ⟨u3, hu3, hf⟩ := zb hf
    refine v_gcallVv h (rest := []) dX1_remember_13 (tX0_become l G ca (fun i => ad (24 + i)) (fun i => ad (3 + i)) (v.2.2.2.1 3) v.2.2.1  hu3) gX1_remember_X0_become rfl rfl ⟨rfl, rfl⟩ nX0_become ⟨Nat.le_of_ble_eq_true rfl, Nat.le_of_ble_eq_true rfl⟩ (List.range' 24 5 ++ List.range' 3 5) (seg2_at 24 5 3 5 rfl rfl rfl rfl) (nd_2 (by decide)) 0 rfl rfl rfl rfl (Nat.le_of_ble_eq_true rfl) ⟨Nat.zero_le _, Nat.zero_le _⟩ (wH ca ad (v.1, v.2.1, v.2.2.1, (va_up v.2.2.2.1 3 u3), v.2.2.2.2)) (seg2_get (k1 := 24) (n1 := 5) (k2 := 3) (n2 := 5) rfl rfl (Nat.le_of_ble_eq_true rfl) rfl rfl (Nat.le_of_ble_eq_true rfl)) (wH_adr _ _ _ _) 16 rfl ?_
    refine v_aload_n h dX1_remember_16 0 rfl 17 rfl ?_
    refine v_aload_n h dX1_remember_17 0 rfl 18 rfl ?_
    refine v_get h (v := .int v.2.2.2.2.2) dX1_remember_18 iX1_remember_X1 0 rfl rfl 5 (by decide) (zwi 2 rfl) rfl 21 rfl ?_
    refine v_iconst h dX1_remember_21 1 rfl 22 rfl ?_
    refine v_iadd h dX1_remember_22 23 rfl ?_
    refine v_bipush h dX1_remember_23 8 rfl 25 rfl ?_
    refine v_irem h dX1_remember_25 (by decide) 26 rfl ?_
    refine v_put h dX1_remember_26 iX1_remember_X1 tyX1 tyX1_ok nmX1 0 rfl rfl 5 (by decide) (zwi 2 rfl) rfl rfl rfl (Nat.le_of_ble_eq_true rfl) (wH ca ad (v.1, v.2.1, v.2.2.1, (va_up v.2.2.2.1 3 u3), v.2.2.2.2.1, ((v.2.2.2.2.2 + 1) - (v.2.2.2.2.2 + 1) / 8 * 8))) rfl 29 rfl ?_
    refine v_aload_n h dX1_remember_29 0 rfl 30 rfl ?_
    refine v_bipush h dX1_remember_30 8 rfl 32 rfl ?_
    refine v_aload_n h dX1_remember_32 0 rfl 33 rfl ?_
    refine v_get h (v := .int v.2.2.2.2.1) dX1_remember_33 iX1_remember_X1 0 rfl rfl 4 (by decide) (zwi 4 rfl) rfl 36 rfl ?_
    refine v_iconst h dX1_remember_36 1 rfl 37 rfl ?_
    refine v_iadd h dX1_remember_37 38 rfl ?_
    refine v_mmin h dX1_remember_38 (zwi 5 rfl) (zwi 6 rfl) (zwi 7 rfl) (zwi 8 rfl) (Nat.le_of_ble_eq_true rfl) (Nat.le_of_ble_eq_true rfl) (Nat.zero_le _) (Nat.zero_le _) 41 rfl ?_
    refine v_put h dX1_remember_41 iX1_remember_X1 tyX1 tyX1_ok nmX1 0 rfl rfl 4 (by decide) (zwi 4 rfl) rfl rfl rfl (Nat.le_of_ble_eq_true rfl) (wH ca ad (v.1, v.2.1, v.2.2.1, (va_up v.2.2.2.1 3 u3), (if (v.2.2.2.2.1 + 1) < (8 : Int32) then (v.2.2.2.2.1 + 1) else 8), ((v.2.2.2.2.2 + 1) - (v.2.2.2.2.2 + 1) / 8 * 8))) rfl 44 rfl ?_
    cases (Option.some.inj hf)
    exact hE 44 _ dX1_remember_44
  · try rw [e2] at hf
    refine v_aald h dX1_remember_8 8 3 rfl rfl (zix_in g1) (b := (ad 29)) (by rw [e2] <;> rfl) 9 rfl ?_
    refine v_aload_n h dX1_remember_9 0 rfl 10 rfl ?_
    refine v_get h (v := .ref (ad 3)) dX1_remember_10 iX1_remember_X1 0 rfl rfl 2 (by decide) (zwi 3 rfl) rfl 13 rfl ?_
    obtain ⟨u3, hu3, hf⟩ := zb hf
    refine v_gcallVv h (rest := []) dX1_remember_13 (tX0_become l G ca (fun i => ad (29 + i)) (fun i => ad (3 + i)) (v.2.2.2.1 4) v.2.2.1  hu3) gX1_remember_X0_become rfl rfl ⟨rfl, rfl⟩ nX0_become ⟨Nat.le_of_ble_eq_true rfl, Nat.le_of_ble_eq_true rfl⟩ (List.range' 29 5 ++ List.range' 3 5) (seg2_at 29 5 3 5 rfl rfl rfl rfl) (nd_2 (by decide)) 0 rfl rfl rfl rfl (Nat.le_of_ble_eq_true rfl) ⟨Nat.zero_le _, Nat.zero_le _⟩ (wH ca ad (v.1, v.2.1, v.2.2.1, (va_up v.2.2.2.1 4 u3), v.2.2.2.2)) (seg2_get (k1 := 29) (n1 := 5) (k2 := 3) (n2 := 5) rfl rfl (Nat.le_of_ble_eq_true rfl) rfl rfl (Nat.le_of_ble_eq_true rfl)) (wH_adr _ _ _ _) 16 rfl ?_
    refine v_aload_n h dX1_remember_16 0 rfl 17 rfl ?_
    refine v_aload_n h dX1_remember_17 0 rfl 18 rfl ?_
    refine v_get h (v := .int v.2.2.2.2.2) dX1_remember_18 iX1_remember_X1 0 rfl rfl 5 (by decide) (zwi 2 rfl) rfl 21 rfl ?_
    refine v_iconst h dX1_remember_21 1 rfl 22 rfl ?_
    refine v_iadd h dX1_remember_22 23 rfl ?_
    refine v_bipush h dX1_remember_23 8 rfl 25 rfl ?_
    refine v_irem h dX1_remember_25 (by decide) 26 rfl ?_
    refine v_put h dX1_remember_26 iX1_remember_X1 tyX1 tyX1_ok nmX1 0 rfl rfl 5 (by decide) (zwi 2 rfl) rfl rfl rfl (Nat.le_of_ble_eq_true rfl) (wH ca ad (v.1, v.2.1, v.2.2.1, (va_up v.2.2.2.1 4 u3), v.2.2.2.2.1, ((v.2.2.2.2.2 + 1) - (v.2.2.2.2.2 + 1) / 8 * 8))) rfl 29 rfl ?_
    refine v_aload_n h dX1_remember_29 0 rfl 30 rfl ?_
    refine v_bipush h dX1_remember_30 8 rfl 32 rfl ?_
    refine v_aload_n h dX1_remember_32 0 rfl 33 rfl ?_
    refine v_get h (v := .int v.2.2.2.2.1) dX1_remember_33 iX1_remember_X1 0 rfl rfl 4 (by decide) (zwi 4 rfl) rfl 36 rfl ?_
    refine v_iconst h dX1_remember_36 1 rfl 37 rfl ?_
    refine v_iadd h dX1_remember_37 38 rfl ?_
    refine v_mmin h dX1_remember_38 (zwi 5 rfl) (zwi 6 rfl) (zwi 7 rfl) (zwi 8 rfl) (Nat.le_of_ble_eq_true rfl) (Nat.le_of_ble_eq_true rfl) (Nat.zero_le _) (Nat.zero_le _) 41 rfl ?_
    refine v_put h dX1_remember_41 iX1_remember_X1 tyX1 tyX1_ok nmX1 0 rfl rfl 4 (by decide) (zwi 4 rfl) rfl rfl rfl (Nat.le_of_ble_eq_true rfl) (wH ca ad (v.1, v.2.1, v.2.2.1, (va_up v.2.2.2.1 4 u3), (if (v.2.2.2.2.1 + 1) < (8 : Int32) then (v.2.2.2.2.1 + 1) else 8), ((v.2.2.2.2.2 + 1) - (v.2.2.2.2.2 + 1) / 8 * 8))) rfl 44 rfl ?_
    cases (Option.some.inj hf)
    exact hE 44 _ dX1_remember_44
  · try rw [e2] at hf
    refine v_aald h dX1_remember_8 8 3 rfl rfl (zix_in g1) (b := (ad 34)) (by rw [e2] <;> rfl) 9 rfl ?_
    refine v_aload_n h dX1_remember_9 0 rfl 10 rfl ?_
    refine v_get h (v := .ref (ad 3)) dX1_remember_10 iX1_remember_X1 0 rfl rfl 2 (by decide) (zwi 3 rfl) rfl 13 rfl ?_
    obtain ⟨u3, hu3, hf⟩ := zb hf
    refine v_gcallVv h (rest := []) dX1_remember_13 (tX0_become l G ca (fun i => ad (34 + i)) (fun i => ad (3 + i)) (v.2.2.2.1 5) v.2.2.1  hu3) gX1_remember_X0_become rfl rfl ⟨rfl, rfl⟩ nX0_become ⟨Nat.le_of_ble_eq_true rfl, Nat.le_of_ble_eq_true rfl⟩ (List.range' 34 5 ++ List.range' 3 5) (seg2_at 34 5 3 5 rfl rfl rfl rfl) (nd_2 (by decide)) 0 rfl rfl rfl rfl (Nat.le_of_ble_eq_true rfl) ⟨Nat.zero_le _, Nat.zero_le _⟩ (wH ca ad (v.1, v.2.1, v.2.2.1, (va_up v.2.2.2.1 5 u3), v.2.2.2.2)) (seg2_get (k1 := 34) (n1 := 5) (k2 := 3) (n2 := 5) rfl rfl (Nat.le_of_ble_eq_true rfl) rfl rfl (Nat.le_of_ble_eq_true rfl)) (wH_adr _ _ _ _) 16 rfl ?_
    refine v_aload_n h dX1_remember_16 0 rfl 17 rfl ?_
    refine v_aload_n h dX1_remember_17 0 rfl 18 rfl ?_
    refine v_get h (v := .int v.2.2.2.2.2) dX1_remember_18 iX1_remember_X1 0 rfl rfl 5 (by decide) (zwi 2 rfl) rfl 21 rfl ?_
    refine v_iconst h dX1_remember_21 1 rfl 22 rfl ?_
    refine v_iadd h dX1_remember_22 23 rfl ?_
    refine v_bipush h dX1_remember_23 8 rfl 25 rfl ?_
    refine v_irem h dX1_remember_25 (by decide) 26 rfl ?_
    refine v_put h dX1_remember_26 iX1_remember_X1 tyX1 tyX1_ok nmX1 0 rfl rfl 5 (by decide) (zwi 2 rfl) rfl rfl rfl (Nat.le_of_ble_eq_true rfl) (wH ca ad (v.1, v.2.1, v.2.2.1, (va_up v.2.2.2.1 5 u3), v.2.2.2.2.1, ((v.2.2.2.2.2 + 1) - (v.2.2.2.2.2 + 1) / 8 * 8))) rfl 29 rfl ?_
    refine v_aload_n h dX1_remember_29 0 rfl 30 rfl ?_
    refine v_bipush h dX1_remember_30 8 rfl 32 rfl ?_
    refine v_aload_n h dX1_remember_32 0 rfl 33 rfl ?_
    refine v_get h (v := .int v.2.2.2.2.1) dX1_remember_33 iX1_remember_X1 0 rfl rfl 4 (by decide) (zwi 4 rfl) rfl 36 rfl ?_
    refine v_iconst h dX1_remember_36 1 rfl 37 rfl ?_
    refine v_iadd h dX1_remember_37 38 rfl ?_
    refine v_mmin h dX1_remember_38 (zwi 5 rfl) (zwi 6 rfl) (zwi 7 rfl) (zwi 8 rfl) (Nat.le_of_ble_eq_true rfl) (Nat.le_of_ble_eq_true rfl) (Nat.zero_le _) (Nat.zero_le _) 41 rfl ?_
    refine v_put h dX1_remember_41 iX1_remember_X1 tyX1 tyX1_ok nmX1 0 rfl rfl 4 (by decide) (zwi 4 rfl) rfl rfl rfl (Nat.le_of_ble_eq_true rfl) (wH ca ad (v.1, v.2.1, v.2.2.1, (va_up v.2.2.2.1 5 u3), (if (v.2.2.2.2.1 + 1) < (8 : Int32) then (v.2.2.2.2.1 + 1) else 8), ((v.2.2.2.2.2 + 1) - (v.2.2.2.2.2 + 1) / 8 * 8))) rfl 44 rfl ?_
    cases (Option.some.inj hf)
    exact hE 44 _ dX1_remember_44
  · try rw [e2] at hf
    refine v_aald h dX1_remember_8 8 3 rfl rfl (zix_in g1) (b := (ad 39)) (by rw [e2] <;> rfl) 9 rfl ?_
    refine v_aload_n h dX1_remember_9 0 rfl 10 rfl ?_
    refine v_get h (v := .ref (ad 3)) dX1_remember_10 iX1_remember_X1 0 rfl rfl 2 (by decide) (zwi 3 rfl) rfl 13 rfl ?_
    obtain ⟨u3, hu3, hf⟩ := zb hf
    refine v_gcallVv h (rest := []) dX1_remember_13 (tX0_become l G ca (fun i => ad (39 + i)) (fun i => ad (3 + i)) (v.2.2.2.1 6) v.2.2.1  hu3) gX1_remember_X0_become rfl rfl ⟨rfl, rfl⟩ nX0_become ⟨Nat.le_of_ble_eq_true rfl, Nat.le_of_ble_eq_true rfl⟩ (List.range' 39 5 ++ List.range' 3 5) (seg2_at 39 5 3 5 rfl rfl rfl rfl) (nd_2 (by decide)) 0 rfl rfl rfl rfl (Nat.le_of_ble_eq_true rfl) ⟨Nat.zero_le _, Nat.zero_le _⟩ (wH ca ad (v.1, v.2.1, v.2.2.1, (va_up v.2.2.2.1 6 u3), v.2.2.2.2)) (seg2_get (k1 := 39) (n1 := 5) (k2 := 3) (n2 := 5) rfl rfl (Nat.le_of_ble_eq_true rfl) rfl rfl (Nat.le_of_ble_eq_true rfl)) (wH_adr _ _ _ _) 16 rfl ?_
    refine v_aload_n h dX1_remember_16 0 rfl 17 rfl ?_
    refine v_aload_n h dX1_remember_17 0 rfl 18 rfl ?_
    refine v_get h (v := .int v.2.2.2.2.2) dX1_remember_18 iX1_remember_X1 0 rfl rfl 5 (by decide) (zwi 2 rfl) rfl 21 rfl ?_
    refine v_iconst h dX1_remember_21 1 rfl 22 rfl ?_
    refine v_iadd h dX1_remember_22 23 rfl ?_
    refine v_bipush h dX1_remember_23 8 rfl 25 rfl ?_
    refine v_irem h dX1_remember_25 (by decide) 26 rfl ?_
    refine v_put h dX1_remember_26 iX1_remember_X1 tyX1 tyX1_ok nmX1 0 rfl rfl 5 (by decide) (zwi 2 rfl) rfl rfl rfl (Nat.le_of_ble_eq_true rfl) (wH ca ad (v.1, v.2.1, v.2.2.1, (va_up v.2.2.2.1 6 u3), v.2.2.2.2.1, ((v.2.2.2.2.2 + 1) - (v.2.2.2.2.2 + 1) / 8 * 8))) rfl 29 rfl ?_
    refine v_aload_n h dX1_remember_29 0 rfl 30 rfl ?_
    refine v_bipush h dX1_remember_30 8 rfl 32 rfl ?_
    refine v_aload_n h dX1_remember_32 0 rfl 33 rfl ?_
    refine v_get h (v := .int v.2.2.2.2.1) dX1_remember_33 iX1_remember_X1 0 rfl rfl 4 (by decide) (zwi 4 rfl) rfl 36 rfl ?_
    refine v_iconst h dX1_remember_36 1 rfl 37 rfl ?_
    refine v_iadd h dX1_remember_37 38 rfl ?_
    refine v_mmin h dX1_remember_38 (zwi 5 rfl) (zwi 6 rfl) (zwi 7 rfl) (zwi 8 rfl) (Nat.le_of_ble_eq_true rfl) (Nat.le_of_ble_eq_true rfl) (Nat.zero_le _) (Nat.zero_le _) 41 rfl ?_
    refine v_put h dX1_remember_41 iX1_remember_X1 tyX1 tyX1_ok nmX1 0 rfl rfl 4 (by decide) (zwi 4 rfl) rfl rfl rfl (Nat.le_of_ble_eq_true rfl) (wH ca ad (v.1, v.2.1, v.2.2.1, (va_up v.2.2.2.1 6 u3), (if (v.2.2.2.2.1 + 1) < (8 : Int32) then (v.2.2.2.2.1 + 1) else 8), ((v.2.2.2.2.2 + 1) - (v.2.2.2.2.2 + 1) / 8 * 8))) rfl 44 rfl ?_
    cases (Option.some.inj hf)
    exact hE 44 _ dX1_remember_44
  · try rw [e2] at hf
    refine v_aald h dX1_remember_8 8 3 rfl rfl (zix_in g1) (b := (ad 44)) (by rw [e2] <;> rfl) 9 rfl ?_
    refine v_aload_n h dX1_remember_9 0 rfl 10 rfl ?_
    refine v_get h (v := .ref (ad 3)) dX1_remember_10 iX1_remember_X1 0 rfl rfl 2 (by decide) (zwi 3 rfl) rfl 13 rfl ?_
    obtain ⟨u3, hu3, hf⟩ := zb hf
    refine v_gcallVv h (rest := []) dX1_remember_13 (tX0_become l G ca (fun i => ad (44 + i)) (fun i => ad (3 + i)) (v.2.2.2.1 7) v.2.2.1  hu3) gX1_remember_X0_become rfl rfl ⟨rfl, rfl⟩ nX0_become ⟨Nat.le_of_ble_eq_true rfl, Nat.le_of_ble_eq_true rfl⟩ (List.range' 44 5 ++ List.range' 3 5) (seg2_at 44 5 3 5 rfl rfl rfl rfl) (nd_2 (by decide)) 0 rfl rfl rfl rfl (Nat.le_of_ble_eq_true rfl) ⟨Nat.zero_le _, Nat.zero_le _⟩ (wH ca ad (v.1, v.2.1, v.2.2.1, (va_up v.2.2.2.1 7 u3), v.2.2.2.2)) (seg2_get (k1 := 44) (n1 := 5) (k2 := 3) (n2 := 5) rfl rfl (Nat.le_of_ble_eq_true rfl) rfl rfl (Nat.le_of_ble_eq_true rfl)) (wH_adr _ _ _ _) 16 rfl ?_
    refine v_aload_n h dX1_remember_16 0 rfl 17 rfl ?_
    refine v_aload_n h dX1_remember_17 0 rfl 18 rfl ?_
    refine v_get h (v := .int v.2.2.2.2.2) dX1_remember_18 iX1_remember_X1 0 rfl rfl 5 (by decide) (zwi 2 rfl) rfl 21 rfl ?_
    refine v_iconst h dX1_remember_21 1 rfl 22 rfl ?_
    refine v_iadd h dX1_remember_22 23 rfl ?_
    refine v_bipush h dX1_remember_23 8 rfl 25 rfl ?_
    refine v_irem h dX1_remember_25 (by decide) 26 rfl ?_
    refine v_put h dX1_remember_26 iX1_remember_X1 tyX1 tyX1_ok nmX1 0 rfl rfl 5 (by decide) (zwi 2 rfl) rfl rfl rfl (Nat.le_of_ble_eq_true rfl) (wH ca ad (v.1, v.2.1, v.2.2.1, (va_up v.2.2.2.1 7 u3), v.2.2.2.2.1, ((v.2.2.2.2.2 + 1) - (v.2.2.2.2.2 + 1) / 8 * 8))) rfl 29 rfl ?_
    refine v_aload_n h dX1_remember_29 0 rfl 30 rfl ?_
    refine v_bipush h dX1_remember_30 8 rfl 32 rfl ?_
    refine v_aload_n h dX1_remember_32 0 rfl 33 rfl ?_
    refine v_get h (v := .int v.2.2.2.2.1) dX1_remember_33 iX1_remember_X1 0 rfl rfl 4 (by decide) (zwi 4 rfl) rfl 36 rfl ?_
    refine v_iconst h dX1_remember_36 1 rfl 37 rfl ?_
    refine v_iadd h dX1_remember_37 38 rfl ?_
    refine v_mmin h dX1_remember_38 (zwi 5 rfl) (zwi 6 rfl) (zwi 7 rfl) (zwi 8 rfl) (Nat.le_of_ble_eq_true rfl) (Nat.le_of_ble_eq_true rfl) (Nat.zero_le _) (Nat.zero_le _) 41 rfl ?_
    refine v_put h dX1_remember_41 iX1_remember_X1 tyX1 tyX1_ok nmX1 0 rfl rfl 4 (by decide) (zwi 4 rfl) rfl rfl rfl (Nat.le_of_ble_eq_true rfl) (wH ca ad (v.1, v.2.1, v.2.2.1, (va_up v.2.2.2.1 7 u3), (if (v.2.2.2.2.1 + 1) < (8 : Int32) then (v.2.2.2.2.1 + 1) else 8), ((v.2.2.2.2.2 + 1) - (v.2.2.2.2.2 + 1) / 8 * 8))) rfl 44 rfl ?_
    cases (Option.some.inj hf)
    exact hE 44 _ dX1_remember_44
abbrev rX1_goBack : Room := { frames := 3, cells := 0, slots := 0, locals := 60 }
theorem nX1_goBack : zNoMH yX1_goBack 0 := ⟨by decide +kernel, by decide +kernel, by decide +kernel⟩
theorem iX1_goBack_X1 : ∀ w ∈ wsX10, w ∈ wsX1_goBack := fun _ h => (List.mem_cons_of_mem _ (List.mem_append_left _ (List.mem_append_right _ h)))
theorem iX1_goBack_X0 : ∀ w ∈ wsX00, w ∈ wsX1_goBack := fun _ h => (List.mem_cons_of_mem _ (List.mem_append_right _ h))
def fX1_goBack (v : HV) : Option HV := if v.2.2.2.2.1 = 0 then (some v) else (zgrd (zix (((v.2.2.2.2.2 + 8) - 1) - ((v.2.2.2.2.2 + 8) - 1) / 8 * 8) 8) (((fX0_become v.2.2.1 (v.2.2.2.1 (((v.2.2.2.2.2 + 8) - 1) - ((v.2.2.2.2.2 + 8) - 1) / 8 * 8).toNatClampNeg)) : Option CV).bind (fun u4 => some (v.1, v.2.1, u4, v.2.2.2.1, (v.2.2.2.2.1 - 1), (((v.2.2.2.2.2 + 8) - 1) - ((v.2.2.2.2.2 + 8) - 1) / 8 * 8)))))
set_option maxRecDepth 100000 in
set_option maxHeartbeats 4000000 in
theorem tX1_goBack (l : Launch) (G : va_G) (ca : Nat → ClassId) (ad : Nat → Nat) (v : HV)  {o : HV} (hf : fX1_goBack v = some o) : zMv l yX1_goBack wsX1_goBack rX1_goBack G ca [.ref (ad 0)] (wH ca ad v) (wH ca ad o) := by
  refine zMv.of (cc := cX1_goBack) (nL := 1) (own := RX1) (by decide) rfl rfl (Nat.le_of_ble_eq_true rfl) (fun X h hE => ?_)
  show V X G 1 0 0 (wH ca ad v) 0 [(0, .ref (ad 0))] []
  unfold fX1_goBack at hf
  refine v_aload_n h dX1_goBack_0 0 rfl 1 rfl ?_
  refine v_get h (v := .int v.2.2.2.2.1) dX1_goBack_1 iX1_goBack_X1 0 rfl rfl 4 (by decide) (zwi 1 rfl) rfl 4 rfl ?_
  refine v_if_ne h dX1_goBack_4 8 (by decide) 7 rfl (fun c1 => ?_) (fun c1 => ?_)
  · replace hf := zf c1 hf
    refine v_aload_n h dX1_goBack_8 0 rfl 9 rfl ?_
    refine v_aload_n h dX1_goBack_9 0 rfl 10 rfl ?_
    refine v_get h (v := .int v.2.2.2.2.2) dX1_goBack_10 iX1_goBack_X1 0 rfl rfl 5 (by decide) (zwi 2 rfl) rfl 13 rfl ?_
    refine v_bipush h dX1_goBack_13 8 rfl 15 rfl ?_
    refine v_iadd h dX1_goBack_15 16 rfl ?_
    refine v_iconst h dX1_goBack_16 1 rfl 17 rfl ?_
    refine v_isub h dX1_goBack_17 18 rfl ?_
    refine v_bipush h dX1_goBack_18 8 rfl 20 rfl ?_
    refine v_irem h dX1_goBack_20 (by decide) 21 rfl ?_
    refine v_put h dX1_goBack_21 iX1_goBack_X1 tyX1 tyX1_ok nmX1 0 rfl rfl 5 (by decide) (zwi 2 rfl) rfl rfl rfl (Nat.le_of_ble_eq_true rfl) (wH ca ad (v.1, v.2.1, v.2.2.1, v.2.2.2.1, v.2.2.2.2.1, (((v.2.2.2.2.2 + 8) - 1) - ((v.2.2.2.2.2 + 8) - 1) / 8 * 8))) rfl 24 rfl ?_
    refine v_aload_n h dX1_goBack_24 0 rfl 25 rfl ?_
    refine v_get h (v := .ref (ad 3)) dX1_goBack_25 iX1_goBack_X1 0 rfl rfl 2 (by decide) (zwi 3 rfl) rfl 28 rfl ?_
    refine v_aload_n h dX1_goBack_28 0 rfl 29 rfl ?_
    refine v_get h (v := .ref (ad 8)) dX1_goBack_29 iX1_goBack_X1 0 rfl rfl 3 (by decide) (zwi 4 rfl) rfl 32 rfl ?_
    refine v_aload_n h dX1_goBack_32 0 rfl 33 rfl ?_
    refine v_get h (v := .int (((v.2.2.2.2.2 + 8) - 1) - ((v.2.2.2.2.2 + 8) - 1) / 8 * 8)) dX1_goBack_33 iX1_goBack_X1 0 rfl rfl 5 (by decide) (zwi 2 rfl) rfl 36 rfl ?_
    obtain ⟨g2, hf⟩ := zg hf
    rcases zix8 g2 with e3 | e3 | e3 | e3 | e3 | e3 | e3 | e3
    · try rw [e3] at hf
      refine v_aald h dX1_goBack_36 8 3 rfl rfl (zix_in g2) (b := (ad 9)) (by rw [e3] <;> rfl) 37 rfl ?_
      obtain ⟨u4, hu4, hf⟩ := zb hf
      refine v_gcallVv h (rest := []) dX1_goBack_37 (tX0_become l G ca (fun i => ad (3 + i)) (fun i => ad (9 + i)) v.2.2.1 (v.2.2.2.1 0)  hu4) gX1_goBack_X0_become rfl rfl ⟨rfl, rfl⟩ nX0_become ⟨Nat.le_of_ble_eq_true rfl, Nat.le_of_ble_eq_true rfl⟩ (List.range' 3 5 ++ List.range' 9 5) (seg2_at 3 5 9 5 rfl rfl rfl rfl) (nd_2 (by decide)) 0 rfl rfl rfl rfl (Nat.le_of_ble_eq_true rfl) ⟨Nat.zero_le _, Nat.zero_le _⟩ (wH ca ad (v.1, v.2.1, u4, v.2.2.2.1, v.2.2.2.2.1, (((v.2.2.2.2.2 + 8) - 1) - ((v.2.2.2.2.2 + 8) - 1) / 8 * 8))) (seg2_get (k1 := 3) (n1 := 5) (k2 := 9) (n2 := 5) rfl rfl (Nat.le_of_ble_eq_true rfl) rfl rfl (Nat.le_of_ble_eq_true rfl)) (wH_adr _ _ _ _) 40 rfl ?_
      refine v_aload_n h dX1_goBack_40 0 rfl 41 rfl ?_
      refine v_dup h dX1_goBack_41 rfl 42 rfl ?_
      refine v_get h (v := .int v.2.2.2.2.1) dX1_goBack_42 iX1_goBack_X1 0 rfl rfl 4 (by decide) (zwi 1 rfl) rfl 45 rfl ?_
      refine v_iconst h dX1_goBack_45 1 rfl 46 rfl ?_
      refine v_isub h dX1_goBack_46 47 rfl ?_
      refine v_put h dX1_goBack_47 iX1_goBack_X1 tyX1 tyX1_ok nmX1 0 rfl rfl 4 (by decide) (zwi 1 rfl) rfl rfl rfl (Nat.le_of_ble_eq_true rfl) (wH ca ad (v.1, v.2.1, u4, v.2.2.2.1, (v.2.2.2.2.1 - 1), (((v.2.2.2.2.2 + 8) - 1) - ((v.2.2.2.2.2 + 8) - 1) / 8 * 8))) rfl 50 rfl ?_
      cases (Option.some.inj hf)
      exact hE 50 _ dX1_goBack_50
    · try rw [e3] at hf
      refine v_aald h dX1_goBack_36 8 3 rfl rfl (zix_in g2) (b := (ad 14)) (by rw [e3] <;> rfl) 37 rfl ?_
      obtain ⟨u4, hu4, hf⟩ := zb hf
      refine v_gcallVv h (rest := []) dX1_goBack_37 (tX0_become l G ca (fun i => ad (3 + i)) (fun i => ad (14 + i)) v.2.2.1 (v.2.2.2.1 1)  hu4) gX1_goBack_X0_become rfl rfl ⟨rfl, rfl⟩ nX0_become ⟨Nat.le_of_ble_eq_true rfl, Nat.le_of_ble_eq_true rfl⟩ (List.range' 3 5 ++ List.range' 14 5) (seg2_at 3 5 14 5 rfl rfl rfl rfl) (nd_2 (by decide)) 0 rfl rfl rfl rfl (Nat.le_of_ble_eq_true rfl) ⟨Nat.zero_le _, Nat.zero_le _⟩ (wH ca ad (v.1, v.2.1, u4, v.2.2.2.1, v.2.2.2.2.1, (((v.2.2.2.2.2 + 8) - 1) - ((v.2.2.2.2.2 + 8) - 1) / 8 * 8))) (seg2_get (k1 := 3) (n1 := 5) (k2 := 14) (n2 := 5) rfl rfl (Nat.le_of_ble_eq_true rfl) rfl rfl (Nat.le_of_ble_eq_true rfl)) (wH_adr _ _ _ _) 40 rfl ?_
      refine v_aload_n h dX1_goBack_40 0 rfl 41 rfl ?_
      refine v_dup h dX1_goBack_41 rfl 42 rfl ?_
      refine v_get h (v := .int v.2.2.2.2.1) dX1_goBack_42 iX1_goBack_X1 0 rfl rfl 4 (by decide) (zwi 1 rfl) rfl 45 rfl ?_
      refine v_iconst h dX1_goBack_45 1 rfl 46 rfl ?_
      refine v_isub h dX1_goBack_46 47 rfl ?_
      refine v_put h dX1_goBack_47 iX1_goBack_X1 tyX1 tyX1_ok nmX1 0 rfl rfl 4 (by decide) (zwi 1 rfl) rfl rfl rfl (Nat.le_of_ble_eq_true rfl) (wH ca ad (v.1, v.2.1, u4, v.2.2.2.1, (v.2.2.2.2.1 - 1), (((v.2.2.2.2.2 + 8) - 1) - ((v.2.2.2.2.2 + 8) - 1) / 8 * 8))) rfl 50 rfl ?_
      cases (Option.some.inj hf)
      exact hE 50 _ dX1_goBack_50
    · try rw [e3] at hf
      refine v_aald h dX1_goBack_36 8 3 rfl rfl (zix_in g2) (b := (ad 19)) (by rw [e3] <;> rfl) 37 rfl ?_
      obtain ⟨u4, hu4, hf⟩ := zb hf
      refine v_gcallVv h (rest := []) dX1_goBack_37 (tX0_become l G ca (fun i => ad (3 + i)) (fun i => ad (19 + i)) v.2.2.1 (v.2.2.2.1 2)  hu4) gX1_goBack_X0_become rfl rfl ⟨rfl, rfl⟩ nX0_become ⟨Nat.le_of_ble_eq_true rfl, Nat.le_of_ble_eq_true rfl⟩ (List.range' 3 5 ++ List.range' 19 5) (seg2_at 3 5 19 5 rfl rfl rfl rfl) (nd_2 (by decide)) 0 rfl rfl rfl rfl (Nat.le_of_ble_eq_true rfl) ⟨Nat.zero_le _, Nat.zero_le _⟩ (wH ca ad (v.1, v.2.1, u4, v.2.2.2.1, v.2.2.2.2.1, (((v.2.2.2.2.2 + 8) - 1) - ((v.2.2.2.2.2 + 8) - 1) / 8 * 8))) (seg2_get (k1 := 3) (n1 := 5) (k2 := 19) (n2 := 5) rfl rfl (Nat.le_of_ble_eq_true rfl) rfl rfl (Nat.le_of_ble_eq_true rfl)) (wH_adr _ _ _ _) 40 rfl ?_
      refine v_aload_n h dX1_goBack_40 0 rfl 41 rfl ?_
      refine v_dup h dX1_goBack_41 rfl 42 rfl ?_
      refine v_get h (v := .int v.2.2.2.2.1) dX1_goBack_42 iX1_goBack_X1 0 rfl rfl 4 (by decide) (zwi 1 rfl) rfl 45 rfl ?_
      refine v_iconst h dX1_goBack_45 1 rfl 46 rfl ?_
      refine v_isub h dX1_goBack_46 47 rfl ?_
      refine v_put h dX1_goBack_47 iX1_goBack_X1 tyX1 tyX1_ok nmX1 0 rfl rfl 4 (by decide) (zwi 1 rfl) rfl rfl rfl (Nat.le_of_ble_eq_true rfl) (wH ca ad (v.1, v.2.1, u4, v.2.2.2.1, (v.2.2.2.2.1 - 1), (((v.2.2.2.2.2 + 8) - 1) - ((v.2.2.2.2.2 + 8) - 1) / 8 * 8))) rfl 50 rfl ?_
      cases (Option.some.inj hf)
      exact hE 50 _ dX1_goBack_50
    · try rw [e3] at hf
      refine v_aald h dX1_goBack_36 8 3 rfl rfl (zix_in g2) (b := (ad 24)) (by rw [e3] <;> rfl) 37 rfl ?_
      obtain ⟨u4, hu4, hf⟩ := zb hf
      refine v_gcallVv h (rest := []) dX1_goBack_37 (tX0_become l G ca (fun i => ad (3 + i)) (fun i => ad (24 + i)) v.2.2.1 (v.2.2.2.1 3)  hu4) gX1_goBack_X0_become rfl rfl ⟨rfl, rfl⟩ nX0_become ⟨Nat.le_of_ble_eq_true rfl, Nat.le_of_ble_eq_true rfl⟩ (List.range' 3 5 ++ List.range' 24 5) (seg2_at 3 5 24 5 rfl rfl rfl rfl) (nd_2 (by decide)) 0 rfl rfl rfl rfl (Nat.le_of_ble_eq_true rfl) ⟨Nat.zero_le _, Nat.zero_le _⟩ (wH ca ad (v.1, v.2.1, u4, v.2.2.2.1, v.2.2.2.2.1, (((v.2.2.2.2.2 + 8) - 1) - ((v.2.2.2.2.2 + 8) - 1) / 8 * 8))) (seg2_get (k1 := 3) (n1 := 5) (k2 := 24) (n2 := 5) rfl rfl (Nat.le_of_ble_eq_true rfl) rfl rfl (Nat.le_of_ble_eq_true rfl)) (wH_adr _ _ _ _) 40 rfl ?_
      refine v_aload_n h dX1_goBack_40 0 rfl 41 rfl ?_
      refine v_dup h dX1_goBack_41 rfl 42 rfl ?_
      refine v_get h (v := .int v.2.2.2.2.1) dX1_goBack_42 iX1_goBack_X1 0 rfl rfl 4 (by decide) (zwi 1 rfl) rfl 45 rfl ?_
      refine v_iconst h dX1_goBack_45 1 rfl 46 rfl ?_
      refine v_isub h dX1_goBack_46 47 rfl ?_
      refine v_put h dX1_goBack_47 iX1_goBack_X1 tyX1 tyX1_ok nmX1 0 rfl rfl 4 (by decide) (zwi 1 rfl) rfl rfl rfl (Nat.le_of_ble_eq_true rfl) (wH ca ad (v.1, v.2.1, u4, v.2.2.2.1, (v.2.2.2.2.1 - 1), (((v.2.2.2.2.2 + 8) - 1) - ((v.2.2.2.2.2 + 8) - 1) / 8 * 8))) rfl 50 rfl ?_
      cases (Option.some.inj hf)
      exact hE 50 _ dX1_goBack_50
    · try rw [e3] at hf
      refine v_aald h dX1_goBack_36 8 3 rfl rfl (zix_in g2) (b := (ad 29)) (by rw [e3] <;> rfl) 37 rfl ?_
      obtain ⟨u4, hu4, hf⟩ := zb hf
      refine v_gcallVv h (rest := []) dX1_goBack_37 (tX0_become l G ca (fun i => ad (3 + i)) (fun i => ad (29 + i)) v.2.2.1 (v.2.2.2.1 4)  hu4) gX1_goBack_X0_become rfl rfl ⟨rfl, rfl⟩ nX0_become ⟨Nat.le_of_ble_eq_true rfl, Nat.le_of_ble_eq_true rfl⟩ (List.range' 3 5 ++ List.range' 29 5) (seg2_at 3 5 29 5 rfl rfl rfl rfl) (nd_2 (by decide)) 0 rfl rfl rfl rfl (Nat.le_of_ble_eq_true rfl) ⟨Nat.zero_le _, Nat.zero_le _⟩ (wH ca ad (v.1, v.2.1, u4, v.2.2.2.1, v.2.2.2.2.1, (((v.2.2.2.2.2 + 8) - 1) - ((v.2.2.2.2.2 + 8) - 1) / 8 * 8))) (seg2_get (k1 := 3) (n1 := 5) (k2 := 29) (n2 := 5) rfl rfl (Nat.le_of_ble_eq_true rfl) rfl rfl (Nat.le_of_ble_eq_true rfl)) (wH_adr _ _ _ _) 40 rfl ?_
      refine v_aload_n h dX1_goBack_40 0 rfl 41 rfl ?_
      refine v_dup h dX1_goBack_41 rfl 42 rfl ?_
      refine v_get h (v := .int v.2.2.2.2.1) dX1_goBack_42 iX1_goBack_X1 0 rfl rfl 4 (by decide) (zwi 1 rfl) rfl 45 rfl ?_
      refine v_iconst h dX1_goBack_45 1 rfl 46 rfl ?_
      refine v_isub h dX1_goBack_46 47 rfl ?_
      refine v_put h dX1_goBack_47 iX1_goBack_X1 tyX1 tyX1_ok nmX1 0 rfl rfl 4 (by decide) (zwi 1 rfl) rfl rfl rfl (Nat.le_of_ble_eq_true rfl) (wH ca ad (v.1, v.2.1, u4, v.2.2.2.1, (v.2.2.2.2.1 - 1), (((v.2.2.2.2.2 + 8) - 1) - ((v.2.2.2.2.2 + 8) - 1) / 8 * 8))) rfl 50 rfl ?_
      cases (Option.some.inj hf)
      exact hE 50 _ dX1_goBack_50
    · try rw [e3] at hf
      refine v_aald h dX1_goBack_36 8 3 rfl rfl (zix_in g2) (b := (ad 34)) (by rw [e3] <;> rfl) 37 rfl ?_
      obtain ⟨u4, hu4, hf⟩ := zb hf
      refine v_gcallVv h (rest := []) dX1_goBack_37 (tX0_become l G ca (fun i => ad (3 + i)) (fun i => ad (34 + i)) v.2.2.1 (v.2.2.2.1 5)  hu4) gX1_goBack_X0_become rfl rfl ⟨rfl, rfl⟩ nX0_become ⟨Nat.le_of_ble_eq_true rfl, Nat.le_of_ble_eq_true rfl⟩ (List.range' 3 5 ++ List.range' 34 5) (seg2_at 3 5 34 5 rfl rfl rfl rfl) (nd_2 (by decide)) 0 rfl rfl rfl rfl (Nat.le_of_ble_eq_true rfl) ⟨Nat.zero_le _, Nat.zero_le _⟩ (wH ca ad (v.1, v.2.1, u4, v.2.2.2.1, v.2.2.2.2.1, (((v.2.2.2.2.2 + 8) - 1) - ((v.2.2.2.2.2 + 8) - 1) / 8 * 8))) (seg2_get (k1 := 3) (n1 := 5) (k2 := 34) (n2 := 5) rfl rfl (Nat.le_of_ble_eq_true rfl) rfl rfl (Nat.le_of_ble_eq_true rfl)) (wH_adr _ _ _ _) 40 rfl ?_
      refine v_aload_n h dX1_goBack_40 0 rfl 41 rfl ?_
      refine v_dup h dX1_goBack_41 rfl 42 rfl ?_
      refine v_get h (v := .int v.2.2.2.2.1) dX1_goBack_42 iX1_goBack_X1 0 rfl rfl 4 (by decide) (zwi 1 rfl) rfl 45 rfl ?_
      refine v_iconst h dX1_goBack_45 1 rfl 46 rfl ?_
      refine v_isub h dX1_goBack_46 47 rfl ?_
      refine v_put h dX1_goBack_47 iX1_goBack_X1 tyX1 tyX1_ok nmX1 0 rfl rfl 4 (by decide) (zwi 1 rfl) rfl rfl rfl (Nat.le_of_ble_eq_true rfl) (wH ca ad (v.1, v.2.1, u4, v.2.2.2.1, (v.2.2.2.2.1 - 1), (((v.2.2.2.2.2 + 8) - 1) - ((v.2.2.2.2.2 + 8) - 1) / 8 * 8))) rfl 50 rfl ?_
      cases (Option.some.inj hf)
      exact hE 50 _ dX1_goBack_50
    · try rw [e3] at hf
      refine v_aald h dX1_goBack_36 8 3 rfl rfl (zix_in g2) (b := (ad 39)) (by rw [e3] <;> rfl) 37 rfl ?_
      obtain ⟨u4, hu4, hf⟩ := zb hf
      refine v_gcallVv h (rest := []) dX1_goBack_37 (tX0_become l G ca (fun i => ad (3 + i)) (fun i => ad (39 + i)) v.2.2.1 (v.2.2.2.1 6)  hu4) gX1_goBack_X0_become rfl rfl ⟨rfl, rfl⟩ nX0_become ⟨Nat.le_of_ble_eq_true rfl, Nat.le_of_ble_eq_true rfl⟩ (List.range' 3 5 ++ List.range' 39 5) (seg2_at 3 5 39 5 rfl rfl rfl rfl) (nd_2 (by decide)) 0 rfl rfl rfl rfl (Nat.le_of_ble_eq_true rfl) ⟨Nat.zero_le _, Nat.zero_le _⟩ (wH ca ad (v.1, v.2.1, u4, v.2.2.2.1, v.2.2.2.2.1, (((v.2.2.2.2.2 + 8) - 1) - ((v.2.2.2.2.2 + 8) - 1) / 8 * 8))) (seg2_get (k1 := 3) (n1 := 5) (k2 := 39) (n2 := 5) rfl rfl (Nat.le_of_ble_eq_true rfl) rfl rfl (Nat.le_of_ble_eq_true rfl)) (wH_adr _ _ _ _) 40 rfl ?_
      refine v_aload_n h dX1_goBack_40 0 rfl 41 rfl ?_
      refine v_dup h dX1_goBack_41 rfl 42 rfl ?_
      refine v_get h (v := .int v.2.2.2.2.1) dX1_goBack_42 iX1_goBack_X1 0 rfl rfl 4 (by decide) (zwi 1 rfl) rfl 45 rfl ?_
      refine v_iconst h dX1_goBack_45 1 rfl 46 rfl ?_
      refine v_isub h dX1_goBack_46 47 rfl ?_
      refine v_put h dX1_goBack_47 iX1_goBack_X1 tyX1 tyX1_ok nmX1 0 rfl rfl 4 (by decide) (zwi 1 rfl) rfl rfl rfl (Nat.le_of_ble_eq_true rfl) (wH ca ad (v.1, v.2.1, u4, v.2.2.2.1, (v.2.2.2.2.1 - 1), (((v.2.2.2.2.2 + 8) - 1) - ((v.2.2.2.2.2 + 8) - 1) / 8 * 8))) rfl 50 rfl ?_
      cases (Option.some.inj hf)
      exact hE 50 _ dX1_goBack_50
    · try rw [e3] at hf
      refine v_aald h dX1_goBack_36 8 3 rfl rfl (zix_in g2) (b := (ad 44)) (by rw [e3] <;> rfl) 37 rfl ?_
      obtain ⟨u4, hu4, hf⟩ := zb hf
      refine v_gcallVv h (rest := []) dX1_goBack_37 (tX0_become l G ca (fun i => ad (3 + i)) (fun i => ad (44 + i)) v.2.2.1 (v.2.2.2.1 7)  hu4) gX1_goBack_X0_become rfl rfl ⟨rfl, rfl⟩ nX0_become ⟨Nat.le_of_ble_eq_true rfl, Nat.le_of_ble_eq_true rfl⟩ (List.range' 3 5 ++ List.range' 44 5) (seg2_at 3 5 44 5 rfl rfl rfl rfl) (nd_2 (by decide)) 0 rfl rfl rfl rfl (Nat.le_of_ble_eq_true rfl) ⟨Nat.zero_le _, Nat.zero_le _⟩ (wH ca ad (v.1, v.2.1, u4, v.2.2.2.1, v.2.2.2.2.1, (((v.2.2.2.2.2 + 8) - 1) - ((v.2.2.2.2.2 + 8) - 1) / 8 * 8))) (seg2_get (k1 := 3) (n1 := 5) (k2 := 44) (n2 := 5) rfl rfl (Nat.le_of_ble_eq_true rfl) rfl rfl (Nat.le_of_ble_eq_true rfl)) (wH_adr _ _ _ _) 40 rfl ?_
      refine v_aload_n h dX1_goBack_40 0 rfl 41 rfl ?_
      refine v_dup h dX1_goBack_41 rfl 42 rfl ?_
      refine v_get h (v := .int v.2.2.2.2.1) dX1_goBack_42 iX1_goBack_X1 0 rfl rfl 4 (by decide) (zwi 1 rfl) rfl 45 rfl ?_
      refine v_iconst h dX1_goBack_45 1 rfl 46 rfl ?_
      refine v_isub h dX1_goBack_46 47 rfl ?_
      refine v_put h dX1_goBack_47 iX1_goBack_X1 tyX1 tyX1_ok nmX1 0 rfl rfl 4 (by decide) (zwi 1 rfl) rfl rfl rfl (Nat.le_of_ble_eq_true rfl) (wH ca ad (v.1, v.2.1, u4, v.2.2.2.1, (v.2.2.2.2.1 - 1), (((v.2.2.2.2.2 + 8) - 1) - ((v.2.2.2.2.2 + 8) - 1) / 8 * 8))) rfl 50 rfl ?_
      cases (Option.some.inj hf)
      exact hE 50 _ dX1_goBack_50
  · replace hf := zt c1 hf
    cases (Option.some.inj hf)
    exact hE 7 _ dX1_goBack_7
abbrev rX1_takeOver : Room := { frames := 2, cells := 0, slots := 0, locals := 39 }
theorem nX1_takeOver : zNoMH yX1_takeOver 1 := ⟨by decide +kernel, by decide +kernel, by decide +kernel⟩
theorem iX1_takeOver_X4 : ∀ w ∈ wsX40, w ∈ wsX1_takeOver := fun _ h => (List.mem_cons_of_mem _ (List.mem_append_left _ (List.mem_append_left _ (List.mem_append_left _ (List.mem_append_right _ h)))))
theorem iX1_takeOver_X1 : ∀ w ∈ wsX10, w ∈ wsX1_takeOver := fun _ h => (List.mem_cons_of_mem _ (List.mem_append_left _ (List.mem_append_left _ (List.mem_append_right _ h))))
theorem iX1_takeOver_X0 : ∀ w ∈ wsX00, w ∈ wsX1_takeOver := fun _ h => (List.mem_cons_of_mem _ (List.mem_append_left _ (List.mem_append_right _ h)))
theorem iX1_takeOver_X5 : ∀ w ∈ wsX50, w ∈ wsX1_takeOver := fun _ h => (List.mem_cons_of_mem _ (List.mem_append_right _ h))
def fX1_takeOver (v : HV) (w : TV) : Option HV := ((fX5_become v.2.1 w.2.1) : Option WV).bind (fun u1 => ((fX0_becomeCoatsOf v.2.2.1 w.2.2.1) : Option CV).bind (fun u2 => some (w.2.2.2.2.1, u1, (u2.1, u2.2.1, u2.2.2.1, u2.2.2.2.1, u2.2.2.2.2.1, 0, 0, u2.2.2.2.2.2.2.2), v.2.2.2.1, 0, v.2.2.2.2.2)))
set_option maxRecDepth 100000 in
set_option maxHeartbeats 4000000 in
theorem tX1_takeOver (l : Launch) (G : va_G) (ca : Nat → ClassId) (ad : Nat → Nat) (ad2 : Nat → Nat) (v : HV) (w : TV)  {o : HV} (hf : fX1_takeOver v w = some o) : zMv l yX1_takeOver wsX1_takeOver rX1_takeOver G ca [.ref (ad 0), .ref (ad2 0)] (wH ca ad v ++ wT ca ad2 w) (wH ca ad o ++ wT ca ad2 w) := by
  refine zMv.of (cc := cX1_takeOver) (nL := 2) (own := RX1) (by decide) rfl rfl (Nat.le_of_ble_eq_true rfl) (fun X h hE => ?_)
  show V X G 2 0 0 (wH ca ad v ++ wT ca ad2 w) 0 [(0, .ref (ad 0)), (1, .ref (ad2 0))] []
  unfold fX1_takeOver at hf
  refine v_aload_n h dX1_takeOver_0 0 rfl 1 rfl ?_
  refine v_aload_n h dX1_takeOver_1 1 rfl 2 rfl ?_
  refine v_get h (v := .int w.2.2.2.2.1) dX1_takeOver_2 iX1_takeOver_X4 49 rfl rfl 4 (by decide) (zwi 1 rfl) rfl 5 rfl ?_
  refine v_put h dX1_takeOver_5 iX1_takeOver_X1 tyX1 tyX1_ok nmX1 0 rfl rfl 0 (by decide) (zwi 2 rfl) rfl rfl rfl (Nat.le_of_ble_eq_true rfl) (wH ca ad (w.2.2.2.2.1, v.2) ++ wT ca ad2 w) rfl 8 rfl ?_
  refine v_aload_n h dX1_takeOver_8 0 rfl 9 rfl ?_
  refine v_get h (v := .ref (ad 1)) dX1_takeOver_9 iX1_takeOver_X1 0 rfl rfl 1 (by decide) (zwi 3 rfl) rfl 12 rfl ?_
  refine v_aload_n h dX1_takeOver_12 1 rfl 13 rfl ?_
  refine v_get h (v := .ref (ad2 2)) dX1_takeOver_13 iX1_takeOver_X4 49 rfl rfl 1 (by decide) (zwi 4 rfl) rfl 16 rfl ?_
  obtain ⟨u1, hu1, hf⟩ := zb hf
  refine v_callVv h (rest := []) dX1_takeOver_16 (tX5_become l G ca (fun i => ad (1 + i)) (fun i => ad2 (2 + i)) v.2.1 w.2.1  hu1) gX1_takeOver_X5_become rfl rfl ⟨rfl, rfl⟩ nX5_become ⟨Nat.le_of_ble_eq_true rfl, Nat.le_of_ble_eq_true rfl⟩ [1, 2, 51, 52] rfl rfl 0 rfl rfl rfl rfl (Nat.le_of_ble_eq_true rfl) ⟨Nat.zero_le _, Nat.zero_le _⟩ rfl (wH ca ad (w.2.2.2.2.1, u1, v.2.2) ++ wT ca ad2 w) rfl rfl 19 rfl ?_
  refine v_aload_n h dX1_takeOver_19 0 rfl 20 rfl ?_
  refine v_get h (v := .ref (ad 3)) dX1_takeOver_20 iX1_takeOver_X1 0 rfl rfl 2 (by decide) (zwi 5 rfl) rfl 23 rfl ?_
  refine v_aload_n h dX1_takeOver_23 1 rfl 24 rfl ?_
  refine v_get h (v := .ref (ad2 4)) dX1_takeOver_24 iX1_takeOver_X4 49 rfl rfl 2 (by decide) (zwi 6 rfl) rfl 27 rfl ?_
  obtain ⟨u2, hu2, hf⟩ := zb hf
  refine v_gcallVv h (rest := []) dX1_takeOver_27 (tX0_becomeCoatsOf l G ca (fun i => ad (3 + i)) (fun i => ad2 (4 + i)) v.2.2.1 w.2.2.1  hu2) gX1_takeOver_X0_becomeCoatsOf rfl rfl ⟨rfl, rfl⟩ nX0_becomeCoatsOf ⟨Nat.le_of_ble_eq_true rfl, Nat.le_of_ble_eq_true rfl⟩ (List.range' 3 5 ++ List.range' 53 5) (seg2_at 3 5 53 5 rfl rfl rfl rfl) (nd_2 (by decide)) 0 rfl rfl rfl rfl (Nat.le_of_ble_eq_true rfl) ⟨Nat.zero_le _, Nat.zero_le _⟩ (wH ca ad (w.2.2.2.2.1, u1, u2, v.2.2.2) ++ wT ca ad2 w) (seg2_get (k1 := 3) (n1 := 5) (k2 := 53) (n2 := 5) rfl rfl (Nat.le_of_ble_eq_true rfl) rfl rfl (Nat.le_of_ble_eq_true rfl)) rfl 30 rfl ?_
  refine v_aload_n h dX1_takeOver_30 0 rfl 31 rfl ?_
  refine v_get h (v := .ref (ad 3)) dX1_takeOver_31 iX1_takeOver_X1 0 rfl rfl 2 (by decide) (zwi 5 rfl) rfl 34 rfl ?_
  refine v_iconst h dX1_takeOver_34 0 rfl 35 rfl ?_
  refine v_put h dX1_takeOver_35 iX1_takeOver_X0 tyX0 tyX0_ok nmX0 3 rfl rfl 5 (by decide) (zwi 7 rfl) rfl rfl rfl (Nat.le_of_ble_eq_true rfl) (wH ca ad (w.2.2.2.2.1, u1, (u2.1, u2.2.1, u2.2.2.1, u2.2.2.2.1, u2.2.2.2.2.1, 0, u2.2.2.2.2.2.2), v.2.2.2) ++ wT ca ad2 w) rfl 38 rfl ?_
  refine v_aload_n h dX1_takeOver_38 0 rfl 39 rfl ?_
  refine v_get h (v := .ref (ad 3)) dX1_takeOver_39 iX1_takeOver_X1 0 rfl rfl 2 (by decide) (zwi 5 rfl) rfl 42 rfl ?_
  refine v_iconst h dX1_takeOver_42 0 rfl 43 rfl ?_
  refine v_put h dX1_takeOver_43 iX1_takeOver_X0 tyX0 tyX0_ok nmX0 3 rfl rfl 6 (by decide) (zwi 8 rfl) rfl rfl rfl (Nat.le_of_ble_eq_true rfl) (wH ca ad (w.2.2.2.2.1, u1, (u2.1, u2.2.1, u2.2.2.1, u2.2.2.2.1, u2.2.2.2.2.1, 0, 0, u2.2.2.2.2.2.2.2), v.2.2.2) ++ wT ca ad2 w) rfl 46 rfl ?_
  refine v_aload_n h dX1_takeOver_46 0 rfl 47 rfl ?_
  refine v_iconst h dX1_takeOver_47 0 rfl 48 rfl ?_
  refine v_put h dX1_takeOver_48 iX1_takeOver_X1 tyX1 tyX1_ok nmX1 0 rfl rfl 4 (by decide) (zwi 9 rfl) rfl rfl rfl (Nat.le_of_ble_eq_true rfl) (wH ca ad (w.2.2.2.2.1, u1, (u2.1, u2.2.1, u2.2.2.1, u2.2.2.2.1, u2.2.2.2.2.1, 0, 0, u2.2.2.2.2.2.2.2), v.2.2.2.1, 0, v.2.2.2.2.2) ++ wT ca ad2 w) rfl 51 rfl ?_
  cases (Option.some.inj hf)
  exact hE 51 _ dX1_takeOver_51
