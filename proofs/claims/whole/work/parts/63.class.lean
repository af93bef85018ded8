/-! the class -/
abbrev rX6_init : Room := { frames := 3, cells := 124, slots := 1256, locals := 53 }
theorem nX6_init : zNoMH yX6_init 0 := ⟨by decide +kernel, by decide +kernel, by decide +kernel⟩
theorem iX6_init_X1 : ∀ w ∈ wsX10, w ∈ wsX6_init := fun _ h => (List.mem_cons_of_mem _ (List.mem_append_left _ (List.mem_append_left _ (List.mem_append_left _ (List.mem_append_left _ (List.mem_append_left _ (List.mem_append_left _ (List.mem_append_right _ h))))))))
theorem iX6_init_X6 : ∀ w ∈ wsX60, w ∈ wsX6_init := fun _ h => (List.mem_cons_of_mem _ (List.mem_append_left _ (List.mem_append_left _ (List.mem_append_left _ (List.mem_append_left _ (List.mem_append_left _ (List.mem_append_right _ h)))))))
theorem iX6_init_X0 : ∀ w ∈ wsX00, w ∈ wsX6_init := fun _ h => (List.mem_cons_of_mem _ (List.mem_append_left _ (List.mem_append_left _ (List.mem_append_left _ (List.mem_append_left _ (List.mem_append_right _ h))))))
theorem iX6_init_X2 : ∀ w ∈ wsX20, w ∈ wsX6_init := fun _ h => (List.mem_cons_of_mem _ (List.mem_append_left _ (List.mem_append_left _ (List.mem_append_left _ (List.mem_append_right _ h)))))
theorem iX6_init_X4 : ∀ w ∈ wsX40, w ∈ wsX6_init := fun _ h => (List.mem_cons_of_mem _ (List.mem_append_left _ (List.mem_append_left _ (List.mem_append_right _ h))))
theorem iX6_init_X3 : ∀ w ∈ wsX30, w ∈ wsX6_init := fun _ h => (List.mem_cons_of_mem _ (List.mem_append_left _ (List.mem_append_right _ h)))
theorem iX6_init_X5 : ∀ w ∈ wsX50, w ∈ wsX6_init := fun _ h => (List.mem_cons_of_mem _ (List.mem_append_right _ h))
set_option maxRecDepth 100000 in
set_option maxHeartbeats 4000000 in
theorem kX6_init (l : Launch) (G : va_G) (ca : Nat → ClassId) : zMc l yX6_init wsX6_init rX6_init G ca 6 dfX6 124 1256 (fun ad => wX ca ad xv0) := by
  refine zMc.of (cc := cX6_init) (nL := 2) (own := RX6) (by decide) rfl rfl rfl (Nat.le_of_ble_eq_true rfl) (fun X a h hI hE => ?_)
  refine v_aload_n h dX6_init_0 0 rfl 1 rfl ?_
  refine v_objInit h dX6_init_1 (zwi 1 rfl) (zwi 2 rfl) (zwi 3 rfl) (Nat.le_of_ble_eq_true rfl) (Nat.le_of_ble_eq_true rfl) 4 rfl ?_
  refine v_aload_n h dX6_init_4 0 rfl 5 rfl ?_
  refine v_new (ci := 1) h dfX1 dX6_init_5 iX6_init_X1 tyX1 tyX1_ok (zwi 4 rfl) (zwi 5 rfl) (zwi 6 rfl) rfl dfX1_ok (Nat.le_of_ble_eq_true rfl) (Nat.le_of_ble_eq_true rfl) 1 6 rfl rfl 8 rfl (fun q1 => ?_)
  refine v_dup h dX6_init_8 rfl 9 rfl ?_
  refine v_ctor h dX6_init_9 (kX1_init l G ca) gX6_init_X1_init (zwi 26 rfl) (zwi 27 rfl) (zwi 6 rfl) rfl rfl ⟨rfl, rfl⟩ nX1_init ⟨(Nat.le_of_ble_eq_true rfl), (Nat.le_of_ble_eq_true rfl)⟩ (Nat.le_of_ble_eq_true rfl) ⟨(Nat.le_of_ble_eq_true rfl), (Nat.le_of_ble_eq_true rfl)⟩ 49 456 rfl rfl 12 rfl (fun ad2 hb2 => ?_)
  subst hb2
  refine v_putF h hI dX6_init_12 iX6_init_X6 tyX6 tyX6_ok nmX6 0 rfl rfl 0 (by decide) (zwi 7 rfl) rfl rfl rfl rfl (Nat.le_of_ble_eq_true rfl) ([(a, .inr (6, [.ref (ad2 0), .null, .null, .null, .null, .null, .int 0]))] ++ wH ca ad2 hv0) rfl 15 rfl ?_
  refine v_aload_n h dX6_init_15 0 rfl 16 rfl ?_
  refine v_new (ci := 1) h dfX1 dX6_init_16 iX6_init_X1 tyX1 tyX1_ok (zwi 4 rfl) (zwi 5 rfl) (zwi 6 rfl) rfl dfX1_ok (Nat.le_of_ble_eq_true rfl) (Nat.le_of_ble_eq_true rfl) 50 462 rfl rfl 19 rfl (fun q3 => ?_)
  refine v_dup h dX6_init_19 rfl 20 rfl ?_
  refine v_ctor h dX6_init_20 (kX1_init l G ca) gX6_init_X1_init (zwi 26 rfl) (zwi 27 rfl) (zwi 6 rfl) rfl rfl ⟨rfl, rfl⟩ nX1_init ⟨(Nat.le_of_ble_eq_true rfl), (Nat.le_of_ble_eq_true rfl)⟩ (Nat.le_of_ble_eq_true rfl) ⟨(Nat.le_of_ble_eq_true rfl), (Nat.le_of_ble_eq_true rfl)⟩ 98 912 rfl rfl 23 rfl (fun ad4 hb4 => ?_)
  subst hb4
  refine v_putF h hI dX6_init_23 iX6_init_X6 tyX6 tyX6_ok nmX6 0 rfl rfl 1 (by decide) (zwi 8 rfl) rfl rfl rfl rfl (Nat.le_of_ble_eq_true rfl) ([(a, .inr (6, [.ref (ad2 0), .ref (ad4 0), .null, .null, .null, .null, .int 0]))] ++ wH ca ad2 hv0 ++ wH ca ad4 hv0) rfl 26 rfl ?_
  refine v_aload_n h dX6_init_26 0 rfl 27 rfl ?_
  refine v_new (ci := 0) h dfX0 dX6_init_27 iX6_init_X0 tyX0 tyX0_ok (zwi 9 rfl) (zwi 10 rfl) (zwi 11 rfl) rfl dfX0_ok (Nat.le_of_ble_eq_true rfl) (Nat.le_of_ble_eq_true rfl) 99 920 rfl rfl 30 rfl (fun q5 => ?_)
  refine v_dup h dX6_init_30 rfl 31 rfl ?_
  refine v_ctorN h dX6_init_31 (kX0_init l G ca) gX6_init_X0_init_n21 (List.mem_of_getElem? (i := 2) rfl) (zwi 46 rfl) (zwi 11 rfl) rfl rfl ⟨rfl, rfl⟩ nX0_init ⟨(Nat.le_of_ble_eq_true rfl), (Nat.le_of_ble_eq_true rfl)⟩ (Nat.le_of_ble_eq_true rfl) ⟨(Nat.le_of_ble_eq_true rfl), (Nat.le_of_ble_eq_true rfl)⟩ 103 960 rfl rfl 34 rfl (fun ad6 hb6 => ?_)
  subst hb6
  refine v_putF h hI dX6_init_34 iX6_init_X6 tyX6 tyX6_ok nmX6 0 rfl rfl 2 (by decide) (zwi 12 rfl) rfl rfl rfl rfl (Nat.le_of_ble_eq_true rfl) ([(a, .inr (6, [.ref (ad2 0), .ref (ad4 0), .ref (ad6 0), .null, .null, .null, .int 0]))] ++ wH ca ad2 hv0 ++ wH ca ad4 hv0 ++ wC ca ad6 cv0) rfl 37 rfl ?_
  refine v_aload_n h dX6_init_37 0 rfl 38 rfl ?_
  refine v_new (ci := 2) h dfX2 dX6_init_38 iX6_init_X2 tyX2 tyX2_ok (zwi 13 rfl) (zwi 14 rfl) (zwi 15 rfl) rfl dfX2_ok (Nat.le_of_ble_eq_true rfl) (Nat.le_of_ble_eq_true rfl) 104 965 rfl rfl 41 rfl (fun q7 => ?_)
  refine v_dup h dX6_init_41 rfl 42 rfl ?_
  refine v_ctorN h dX6_init_42 (kX2_init l G ca) gX6_init_X2_init_n28 (List.mem_of_getElem? (i := 3) rfl) (zwi 57 rfl) (zwi 15 rfl) rfl rfl ⟨rfl, rfl⟩ nX2_init ⟨(Nat.le_of_ble_eq_true rfl), (Nat.le_of_ble_eq_true rfl)⟩ (Nat.le_of_ble_eq_true rfl) ⟨(Nat.le_of_ble_eq_true rfl), (Nat.le_of_ble_eq_true rfl)⟩ 106 985 rfl rfl 45 rfl (fun ad8 hb8 => ?_)
  subst hb8
  refine v_putF h hI dX6_init_45 iX6_init_X6 tyX6 tyX6_ok nmX6 0 rfl rfl 3 (by decide) (zwi 16 rfl) rfl rfl rfl rfl (Nat.le_of_ble_eq_true rfl) ([(a, .inr (6, [.ref (ad2 0), .ref (ad4 0), .ref (ad6 0), .ref (ad8 0), .null, .null, .int 0]))] ++ wH ca ad2 hv0 ++ wH ca ad4 hv0 ++ wC ca ad6 cv0 ++ wP ca ad8 pv0) rfl 48 rfl ?_
  refine v_aload_n h dX6_init_48 0 rfl 49 rfl ?_
  refine v_new (ci := 4) h dfX4 dX6_init_49 iX6_init_X4 tyX4 tyX4_ok (zwi 17 rfl) (zwi 18 rfl) (zwi 19 rfl) rfl dfX4_ok (Nat.le_of_ble_eq_true rfl) (Nat.le_of_ble_eq_true rfl) 107 992 rfl rfl 52 rfl (fun q9 => ?_)
  refine v_dup h dX6_init_52 rfl 53 rfl ?_
  refine v_ctorN h dX6_init_53 (kX4_init l G ca) gX6_init_X4_init_n35 (List.mem_of_getElem? (i := 4) rfl) (zwi 65 rfl) (zwi 19 rfl) rfl rfl ⟨rfl, rfl⟩ nX4_init ⟨(Nat.le_of_ble_eq_true rfl), (Nat.le_of_ble_eq_true rfl)⟩ (Nat.le_of_ble_eq_true rfl) ⟨(Nat.le_of_ble_eq_true rfl), (Nat.le_of_ble_eq_true rfl)⟩ 115 1140 rfl rfl 56 rfl (fun ad10 hb10 => ?_)
  subst hb10
  refine v_putF h hI dX6_init_56 iX6_init_X6 tyX6 tyX6_ok nmX6 0 rfl rfl 4 (by decide) (zwi 20 rfl) rfl rfl rfl rfl (Nat.le_of_ble_eq_true rfl) ([(a, .inr (6, [.ref (ad2 0), .ref (ad4 0), .ref (ad6 0), .ref (ad8 0), .ref (ad10 0), .null, .int 0]))] ++ wH ca ad2 hv0 ++ wH ca ad4 hv0 ++ wC ca ad6 cv0 ++ wP ca ad8 pv0 ++ wT ca ad10 tv0) rfl 59 rfl ?_
  refine v_aload_n h dX6_init_59 0 rfl 60 rfl ?_
  refine v_iconst h dX6_init_60 4 rfl 61 rfl ?_
  refine v_newq h dX6_init_61 (zwi 21 rfl) zAOs 4 _ rfl (by decide) rfl (Nat.le_of_ble_eq_true rfl) (Nat.le_of_ble_eq_true rfl) (Nat.le_of_ble_eq_true rfl) 116 1144 rfl rfl 64 rfl (fun q11 => ?_)
  refine v_putF h hI dX6_init_64 iX6_init_X6 tyX6 tyX6_ok nmX6 0 rfl rfl 5 (by decide) (zwi 22 rfl) rfl rfl rfl rfl (Nat.le_of_ble_eq_true rfl) ([(a, .inr (6, [.ref (ad2 0), .ref (ad4 0), .ref (ad6 0), .ref (ad8 0), .ref (ad10 0), .ref q11, .int 0]))] ++ wH ca ad2 hv0 ++ wH ca ad4 hv0 ++ wC ca ad6 cv0 ++ wP ca ad8 pv0 ++ wT ca ad10 tv0 ++ [(q11, .inl (ca 4, 4, .inr (.inr (.inr (.inr (fun k => ([] : List Nat)[k]?))))))]) rfl 67 rfl ?_
  refine v_aload_n h dX6_init_67 0 rfl 68 rfl ?_
  refine v_iconst h dX6_init_68 0 rfl 69 rfl ?_
  refine v_put h dX6_init_69 iX6_init_X6 tyX6 tyX6_ok nmX6 0 rfl rfl 6 (by decide) (zwi 23 rfl) rfl rfl rfl (Nat.le_of_ble_eq_true rfl) ([(a, .inr (6, [.ref (ad2 0), .ref (ad4 0), .ref (ad6 0), .ref (ad8 0), .ref (ad10 0), .ref q11, .int 0]))] ++ wH ca ad2 hv0 ++ wH ca ad4 hv0 ++ wC ca ad6 cv0 ++ wP ca ad8 pv0 ++ wT ca ad10 tv0 ++ [(q11, .inl (ca 4, 4, .inr (.inr (.inr (.inr (fun k => ([] : List Nat)[k]?))))))]) rfl 72 rfl ?_
  refine v_iconst h dX6_init_72 0 rfl 73 rfl ?_
  refine v_istore_n h dX6_init_73 (Nat.le_of_ble_eq_true rfl) rfl rfl [(0, .ref a), (1, .int 0)] rfl 74 rfl ?_
  refine v_iload_n h dX6_init_74 1 rfl 75 rfl ?_
  refine v_iconst h dX6_init_75 4 rfl 76 rfl ?_
  refine v_icmp_ge h dX6_init_76 98 (by decide) 79 rfl (fun c => absurd c (by decide)) (fun _ => ?_)
  refine v_aload_n h dX6_init_79 0 rfl 80 rfl ?_
  refine v_get h (v := .ref q11) dX6_init_80 iX6_init_X6 0 rfl rfl 5 (by decide) (zwi 22 rfl) rfl 83 rfl ?_
  refine v_iload_n h dX6_init_83 1 rfl 84 rfl ?_
  refine v_new (ci := 3) h dfX3 dX6_init_84 iX6_init_X3 tyX3 tyX3_ok (zwi 21 rfl) (zwi 24 rfl) (zwi 25 rfl) rfl dfX3_ok (Nat.le_of_ble_eq_true rfl) (Nat.le_of_ble_eq_true rfl) 117 1148 rfl rfl 87 rfl (fun q12 => ?_)
  refine v_dup h dX6_init_87 rfl 88 rfl ?_
  refine v_ctorN h dX6_init_88 (kX3_init l G ca) gX6_init_X3_init_n50 (List.mem_of_getElem? (i := 5) rfl) (zwi 78 rfl) (zwi 25 rfl) rfl rfl ⟨rfl, rfl⟩ nX3_init ⟨(Nat.le_of_ble_eq_true rfl), (Nat.le_of_ble_eq_true rfl)⟩ (Nat.le_of_ble_eq_true rfl) ⟨(Nat.le_of_ble_eq_true rfl), (Nat.le_of_ble_eq_true rfl)⟩ 118 1172 rfl rfl 91 rfl (fun ad13 hb13 => ?_)
  subst hb13
  refine v_astq h dX6_init_91 116 4 117 rfl rfl rfl rfl zj_0_4 (fun k => ([ad13 0] : List Nat)[k]?) (zup [] (ad13 0) rfl) ([(a, .inr (6, [.ref (ad2 0), .ref (ad4 0), .ref (ad6 0), .ref (ad8 0), .ref (ad10 0), .ref q11, .int 0]))] ++ wH ca ad2 hv0 ++ wH ca ad4 hv0 ++ wC ca ad6 cv0 ++ wP ca ad8 pv0 ++ wT ca ad10 tv0 ++ [(q11, .inl (ca 4, 4, .inr (.inr (.inr (.inr (fun k => ([ad13 0] : List Nat)[k]?))))))] ++ wS ca ad13 sv0) rfl 92 rfl ?_
  refine v_iinc h dX6_init_92 1 rfl 1 rfl (Nat.le_of_ble_eq_true rfl) rfl rfl [(0, .ref a), (1, .int 1)] rfl 95 rfl ?_
  refine v_goto h dX6_init_95 74 (by decide) ?_
  refine v_iload_n h dX6_init_74 1 rfl 75 rfl ?_
  refine v_iconst h dX6_init_75 4 rfl 76 rfl ?_
  refine v_icmp_ge h dX6_init_76 98 (by decide) 79 rfl (fun c => absurd c (by decide)) (fun _ => ?_)
  refine v_aload_n h dX6_init_79 0 rfl 80 rfl ?_
  refine v_get h (v := .ref q11) dX6_init_80 iX6_init_X6 0 rfl rfl 5 (by decide) (zwi 22 rfl) rfl 83 rfl ?_
  refine v_iload_n h dX6_init_83 1 rfl 84 rfl ?_
  refine v_new (ci := 3) h dfX3 dX6_init_84 iX6_init_X3 tyX3 tyX3_ok (zwi 21 rfl) (zwi 24 rfl) (zwi 25 rfl) rfl dfX3_ok (Nat.le_of_ble_eq_true rfl) (Nat.le_of_ble_eq_true rfl) 119 1176 rfl rfl 87 rfl (fun q14 => ?_)
  refine v_dup h dX6_init_87 rfl 88 rfl ?_
  refine v_ctorN h dX6_init_88 (kX3_init l G ca) gX6_init_X3_init_n50 (List.mem_of_getElem? (i := 5) rfl) (zwi 78 rfl) (zwi 25 rfl) rfl rfl ⟨rfl, rfl⟩ nX3_init ⟨(Nat.le_of_ble_eq_true rfl), (Nat.le_of_ble_eq_true rfl)⟩ (Nat.le_of_ble_eq_true rfl) ⟨(Nat.le_of_ble_eq_true rfl), (Nat.le_of_ble_eq_true rfl)⟩ 120 1200 rfl rfl 91 rfl (fun ad15 hb15 => ?_)
  subst hb15
  refine v_astq h dX6_init_91 116 4 119 rfl rfl rfl rfl zj_1_4 (fun k => ([ad13 0, ad15 0] : List Nat)[k]?) (zup [ad13 0] (ad15 0) rfl) ([(a, .inr (6, [.ref (ad2 0), .ref (ad4 0), .ref (ad6 0), .ref (ad8 0), .ref (ad10 0), .ref q11, .int 0]))] ++ wH ca ad2 hv0 ++ wH ca ad4 hv0 ++ wC ca ad6 cv0 ++ wP ca ad8 pv0 ++ wT ca ad10 tv0 ++ [(q11, .inl (ca 4, 4, .inr (.inr (.inr (.inr (fun k => ([ad13 0, ad15 0] : List Nat)[k]?))))))] ++ wS ca ad13 sv0 ++ wS ca ad15 sv0) rfl 92 rfl ?_
  refine v_iinc h dX6_init_92 1 rfl 2 rfl (Nat.le_of_ble_eq_true rfl) rfl rfl [(0, .ref a), (1, .int 2)] rfl 95 rfl ?_
  refine v_goto h dX6_init_95 74 (by decide) ?_
  refine v_iload_n h dX6_init_74 1 rfl 75 rfl ?_
  refine v_iconst h dX6_init_75 4 rfl 76 rfl ?_
  refine v_icmp_ge h dX6_init_76 98 (by decide) 79 rfl (fun c => absurd c (by decide)) (fun _ => ?_)
  refine v_aload_n h dX6_init_79 0 rfl 80 rfl ?_
  refine v_get h (v := .ref q11) dX6_init_80 iX6_init_X6 0 rfl rfl 5 (by decide) (zwi 22 rfl) rfl 83 rfl ?_
  refine v_iload_n h dX6_init_83 1 rfl 84 rfl ?_
  refine v_new (ci := 3) h dfX3 dX6_init_84 iX6_init_X3 tyX3 tyX3_ok (zwi 21 rfl) (zwi 24 rfl) (zwi 25 rfl) rfl dfX3_ok (Nat.le_of_ble_eq_true rfl) (Nat.le_of_ble_eq_true rfl) 121 1204 rfl rfl 87 rfl (fun q16 => ?_)
  refine v_dup h dX6_init_87 rfl 88 rfl ?_
  refine v_ctorN h dX6_init_88 (kX3_init l G ca) gX6_init_X3_init_n50 (List.mem_of_getElem? (i := 5) rfl) (zwi 78 rfl) (zwi 25 rfl) rfl rfl ⟨rfl, rfl⟩ nX3_init ⟨(Nat.le_of_ble_eq_true rfl), (Nat.le_of_ble_eq_true rfl)⟩ (Nat.le_of_ble_eq_true rfl) ⟨(Nat.le_of_ble_eq_true rfl), (Nat.le_of_ble_eq_true rfl)⟩ 122 1228 rfl rfl 91 rfl (fun ad17 hb17 => ?_)
  subst hb17
  refine v_astq h dX6_init_91 116 4 121 rfl rfl rfl rfl zj_2_4 (fun k => ([ad13 0, ad15 0, ad17 0] : List Nat)[k]?) (zup [ad13 0, ad15 0] (ad17 0) rfl) ([(a, .inr (6, [.ref (ad2 0), .ref (ad4 0), .ref (ad6 0), .ref (ad8 0), .ref (ad10 0), .ref q11, .int 0]))] ++ wH ca ad2 hv0 ++ wH ca ad4 hv0 ++ wC ca ad6 cv0 ++ wP ca ad8 pv0 ++ wT ca ad10 tv0 ++ [(q11, .inl (ca 4, 4, .inr (.inr (.inr (.inr (fun k => ([ad13 0, ad15 0, ad17 0] : List Nat)[k]?))))))] ++ wS ca ad13 sv0 ++ wS ca ad15 sv0 ++ wS ca ad17 sv0) rfl 92 rfl ?_
  refine v_iinc h dX6_init_92 1 rfl 3 rfl (Nat.le_of_ble_eq_true rfl) rfl rfl [(0, .ref a), (1, .int 3)] rfl 95 rfl ?_
  refine v_goto h dX6_init_95 74 (by decide) ?_
  refine v_iload_n h dX6_init_74 1 rfl 75 rfl ?_
  refine v_iconst h dX6_init_75 4 rfl 76 rfl ?_
  refine v_icmp_ge h dX6_init_76 98 (by decide) 79 rfl (fun c => absurd c (by decide)) (fun _ => ?_)
  refine v_aload_n h dX6_init_79 0 rfl 80 rfl ?_
  refine v_get h (v := .ref q11) dX6_init_80 iX6_init_X6 0 rfl rfl 5 (by decide) (zwi 22 rfl) rfl 83 rfl ?_
  refine v_iload_n h dX6_init_83 1 rfl 84 rfl ?_
  refine v_new (ci := 3) h dfX3 dX6_init_84 iX6_init_X3 tyX3 tyX3_ok (zwi 21 rfl) (zwi 24 rfl) (zwi 25 rfl) rfl dfX3_ok (Nat.le_of_ble_eq_true rfl) (Nat.le_of_ble_eq_true rfl) 123 1232 rfl rfl 87 rfl (fun q18 => ?_)
  refine v_dup h dX6_init_87 rfl 88 rfl ?_
  refine v_ctorN h dX6_init_88 (kX3_init l G ca) gX6_init_X3_init_n50 (List.mem_of_getElem? (i := 5) rfl) (zwi 78 rfl) (zwi 25 rfl) rfl rfl ⟨rfl, rfl⟩ nX3_init ⟨(Nat.le_of_ble_eq_true rfl), (Nat.le_of_ble_eq_true rfl)⟩ (Nat.le_of_ble_eq_true rfl) ⟨(Nat.le_of_ble_eq_true rfl), (Nat.le_of_ble_eq_true rfl)⟩ 124 1256 rfl rfl 91 rfl (fun ad19 hb19 => ?_)
  subst hb19
  refine v_astq h dX6_init_91 116 4 123 rfl rfl rfl rfl zj_3_4 (fun k => ([ad13 0, ad15 0, ad17 0, ad19 0] : List Nat)[k]?) (zup [ad13 0, ad15 0, ad17 0] (ad19 0) rfl) ([(a, .inr (6, [.ref (ad2 0), .ref (ad4 0), .ref (ad6 0), .ref (ad8 0), .ref (ad10 0), .ref q11, .int 0]))] ++ wH ca ad2 hv0 ++ wH ca ad4 hv0 ++ wC ca ad6 cv0 ++ wP ca ad8 pv0 ++ wT ca ad10 tv0 ++ [(q11, .inl (ca 4, 4, .inr (.inr (.inr (.inr (fun k => ([ad13 0, ad15 0, ad17 0, ad19 0] : List Nat)[k]?))))))] ++ wS ca ad13 sv0 ++ wS ca ad15 sv0 ++ wS ca ad17 sv0 ++ wS ca ad19 sv0) rfl 92 rfl ?_
  refine v_iinc h dX6_init_92 1 rfl 4 rfl (Nat.le_of_ble_eq_true rfl) rfl rfl [(0, .ref a), (1, .int 4)] rfl 95 rfl ?_
  refine v_goto h dX6_init_95 74 (by decide) ?_
  refine v_iload_n h dX6_init_74 1 rfl 75 rfl ?_
  refine v_iconst h dX6_init_75 4 rfl 76 rfl ?_
  refine v_icmp_ge h dX6_init_76 98 (by decide) 79 rfl (fun _ => ?_) (fun c => absurd (show (4 : Int32) ≤ 4 by decide) c)
  exact v_w (w' := wX ca (fun k => ([a, ad2 0, ad2 1, ad2 2, ad2 3, ad2 4, ad2 5, ad2 6, ad2 7, ad2 8, ad2 9, ad2 10, ad2 11, ad2 12, ad2 13, ad2 14, ad2 15, ad2 16, ad2 17, ad2 18, ad2 19, ad2 20, ad2 21, ad2 22, ad2 23, ad2 24, ad2 25, ad2 26, ad2 27, ad2 28, ad2 29, ad2 30, ad2 31, ad2 32, ad2 33, ad2 34, ad2 35, ad2 36, ad2 37, ad2 38, ad2 39, ad2 40, ad2 41, ad2 42, ad2 43, ad2 44, ad2 45, ad2 46, ad2 47, ad2 48, ad4 0, ad4 1, ad4 2, ad4 3, ad4 4, ad4 5, ad4 6, ad4 7, ad4 8, ad4 9, ad4 10, ad4 11, ad4 12, ad4 13, ad4 14, ad4 15, ad4 16, ad4 17, ad4 18, ad4 19, ad4 20, ad4 21, ad4 22, ad4 23, ad4 24, ad4 25, ad4 26, ad4 27, ad4 28, ad4 29, ad4 30, ad4 31, ad4 32, ad4 33, ad4 34, ad4 35, ad4 36, ad4 37, ad4 38, ad4 39, ad4 40, ad4 41, ad4 42, ad4 43, ad4 44, ad4 45, ad4 46, ad4 47, ad4 48, ad6 0, ad6 1, ad6 2, ad6 3, ad6 4, ad8 0, ad8 1, ad8 2, ad10 0, ad10 1, ad10 2, ad10 3, ad10 4, ad10 5, ad10 6, ad10 7, ad10 8, q11, ad13 0, ad13 1, ad15 0, ad15 1, ad17 0, ad17 1, ad19 0, ad19 1] : List Nat).getD k 0) xv0) rfl (hE 98 _ (fun k => ([a, ad2 0, ad2 1, ad2 2, ad2 3, ad2 4, ad2 5, ad2 6, ad2 7, ad2 8, ad2 9, ad2 10, ad2 11, ad2 12, ad2 13, ad2 14, ad2 15, ad2 16, ad2 17, ad2 18, ad2 19, ad2 20, ad2 21, ad2 22, ad2 23, ad2 24, ad2 25, ad2 26, ad2 27, ad2 28, ad2 29, ad2 30, ad2 31, ad2 32, ad2 33, ad2 34, ad2 35, ad2 36, ad2 37, ad2 38, ad2 39, ad2 40, ad2 41, ad2 42, ad2 43, ad2 44, ad2 45, ad2 46, ad2 47, ad2 48, ad4 0, ad4 1, ad4 2, ad4 3, ad4 4, ad4 5, ad4 6, ad4 7, ad4 8, ad4 9, ad4 10, ad4 11, ad4 12, ad4 13, ad4 14, ad4 15, ad4 16, ad4 17, ad4 18, ad4 19, ad4 20, ad4 21, ad4 22, ad4 23, ad4 24, ad4 25, ad4 26, ad4 27, ad4 28, ad4 29, ad4 30, ad4 31, ad4 32, ad4 33, ad4 34, ad4 35, ad4 36, ad4 37, ad4 38, ad4 39, ad4 40, ad4 41, ad4 42, ad4 43, ad4 44, ad4 45, ad4 46, ad4 47, ad4 48, ad6 0, ad6 1, ad6 2, ad6 3, ad6 4, ad8 0, ad8 1, ad8 2, ad10 0, ad10 1, ad10 2, ad10 3, ad10 4, ad10 5, ad10 6, ad10 7, ad10 8, q11, ad13 0, ad13 1, ad15 0, ad15 1, ad17 0, ad17 1, ad19 0, ad19 1] : List Nat).getD k 0) rfl dX6_init_98)
