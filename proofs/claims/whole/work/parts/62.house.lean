/-! constructors of constructors -/
abbrev rX1_init : Room := { frames := 2, cells := 48, slots := 450, locals := 32 }
theorem nX1_init : zNoMH yX1_init 0 := ⟨by decide +kernel, by decide +kernel, by decide +kernel⟩
theorem iX1_init_X1 : ∀ w ∈ wsX10, w ∈ wsX1_init := fun _ h => (List.mem_cons_of_mem _ (List.mem_append_left _ (List.mem_append_left _ (List.mem_append_right _ h))))
theorem iX1_init_X5 : ∀ w ∈ wsX50, w ∈ wsX1_init := fun _ h => (List.mem_cons_of_mem _ (List.mem_append_left _ (List.mem_append_right _ h)))
theorem iX1_init_X0 : ∀ w ∈ wsX00, w ∈ wsX1_init := fun _ h => (List.mem_cons_of_mem _ (List.mem_append_right _ h))
set_option maxRecDepth 100000 in
set_option maxHeartbeats 4000000 in
theorem kX1_init (l : Launch) (G : va_G) (ca : Nat → ClassId) : zMc l yX1_init wsX1_init rX1_init G ca 1 dfX1 48 450 (fun ad => wH ca ad hv0) := by
  refine zMc.of (cc := cX1_init) (nL := 2) (own := RX1) (by decide) rfl rfl rfl (Nat.le_of_ble_eq_true rfl) (fun X a h hI hE => ?_)
  refine v_aload_n h dX1_init_0 0 rfl 1 rfl ?_
  refine v_objInit h dX1_init_1 (zwi 1 rfl) (zwi 2 rfl) (zwi 3 rfl) (Nat.le_of_ble_eq_true rfl) (Nat.le_of_ble_eq_true rfl) 4 rfl ?_
  refine v_aload_n h dX1_init_4 0 rfl 5 rfl ?_
  refine v_bipush h dX1_init_5 80 rfl 7 rfl ?_
  refine v_put h dX1_init_7 iX1_init_X1 tyX1 tyX1_ok nmX1 0 rfl rfl 0 (by decide) (zwi 4 rfl) rfl rfl rfl (Nat.le_of_ble_eq_true rfl) ([(a, .inr (1, [.int 80, .null, .null, .null, .int 0, .int 0]))]) rfl 10 rfl ?_
  refine v_aload_n h dX1_init_10 0 rfl 11 rfl ?_
  refine v_new (ci := 5) h dfX5 dX1_init_11 iX1_init_X5 tyX5 tyX5_ok (zwi 5 rfl) (zwi 6 rfl) (zwi 7 rfl) rfl dfX5_ok (Nat.le_of_ble_eq_true rfl) (Nat.le_of_ble_eq_true rfl) 1 2 rfl rfl 14 rfl (fun q1 => ?_)
  refine v_dup h dX1_init_14 rfl 15 rfl ?_
  refine v_ctorN h dX1_init_15 (kX5_init l G ca) gX1_init_X5_init_n17 (List.mem_of_getElem? (i := 0) rfl) (zwi 16 rfl) (zwi 7 rfl) rfl rfl ⟨rfl, rfl⟩ nX5_init ⟨(Nat.le_of_ble_eq_true rfl), (Nat.le_of_ble_eq_true rfl)⟩ (Nat.le_of_ble_eq_true rfl) ⟨(Nat.le_of_ble_eq_true rfl), (Nat.le_of_ble_eq_true rfl)⟩ 2 10 rfl rfl 18 rfl (fun ad2 hb2 => ?_)
  subst hb2
  refine v_putF h hI dX1_init_18 iX1_init_X1 tyX1 tyX1_ok nmX1 0 rfl rfl 1 (by decide) (zwi 8 rfl) rfl rfl rfl rfl (Nat.le_of_ble_eq_true rfl) ([(a, .inr (1, [.int 80, .ref (ad2 0), .null, .null, .int 0, .int 0]))] ++ wW ca ad2 wv0) rfl 21 rfl ?_
  refine v_aload_n h dX1_init_21 0 rfl 22 rfl ?_
  refine v_new (ci := 0) h dfX0 dX1_init_22 iX1_init_X0 tyX0 tyX0_ok (zwi 9 rfl) (zwi 10 rfl) (zwi 11 rfl) rfl dfX0_ok (Nat.le_of_ble_eq_true rfl) (Nat.le_of_ble_eq_true rfl) 3 18 rfl rfl 25 rfl (fun q3 => ?_)
  refine v_dup h dX1_init_25 rfl 26 rfl ?_
  refine v_ctorN h dX1_init_26 (kX0_init l G ca) gX1_init_X0_init_n24 (List.mem_of_getElem? (i := 1) rfl) (zwi 22 rfl) (zwi 11 rfl) rfl rfl ⟨rfl, rfl⟩ nX0_init ⟨(Nat.le_of_ble_eq_true rfl), (Nat.le_of_ble_eq_true rfl)⟩ (Nat.le_of_ble_eq_true rfl) ⟨(Nat.le_of_ble_eq_true rfl), (Nat.le_of_ble_eq_true rfl)⟩ 7 58 rfl rfl 29 rfl (fun ad4 hb4 => ?_)
  subst hb4
  refine v_putF h hI dX1_init_29 iX1_init_X1 tyX1 tyX1_ok nmX1 0 rfl rfl 2 (by decide) (zwi 12 rfl) rfl rfl rfl rfl (Nat.le_of_ble_eq_true rfl) ([(a, .inr (1, [.int 80, .ref (ad2 0), .ref (ad4 0), .null, .int 0, .int 0]))] ++ wW ca ad2 wv0 ++ wC ca ad4 cv0) rfl 32 rfl ?_
  refine v_aload_n h dX1_init_32 0 rfl 33 rfl ?_
  refine v_bipush h dX1_init_33 8 rfl 35 rfl ?_
  refine v_newq h dX1_init_35 (zwi 9 rfl) zAOc 3 _ rfl (by decide) rfl (Nat.le_of_ble_eq_true rfl) (Nat.le_of_ble_eq_true rfl) (Nat.le_of_ble_eq_true rfl) 8 66 rfl rfl 38 rfl (fun q5 => ?_)
  refine v_putF h hI dX1_init_38 iX1_init_X1 tyX1 tyX1_ok nmX1 0 rfl rfl 3 (by decide) (zwi 13 rfl) rfl rfl rfl rfl (Nat.le_of_ble_eq_true rfl) ([(a, .inr (1, [.int 80, .ref (ad2 0), .ref (ad4 0), .ref q5, .int 0, .int 0]))] ++ wW ca ad2 wv0 ++ wC ca ad4 cv0 ++ [(q5, .inl (ca 3, 8, .inr (.inr (.inr (.inr (fun k => ([] : List Nat)[k]?))))))]) rfl 41 rfl ?_
  refine v_aload_n h dX1_init_41 0 rfl 42 rfl ?_
  refine v_iconst h dX1_init_42 0 rfl 43 rfl ?_
  refine v_put h dX1_init_43 iX1_init_X1 tyX1 tyX1_ok nmX1 0 rfl rfl 4 (by decide) (zwi 14 rfl) rfl rfl rfl (Nat.le_of_ble_eq_true rfl) ([(a, .inr (1, [.int 80, .ref (ad2 0), .ref (ad4 0), .ref q5, .int 0, .int 0]))] ++ wW ca ad2 wv0 ++ wC ca ad4 cv0 ++ [(q5, .inl (ca 3, 8, .inr (.inr (.inr (.inr (fun k => ([] : List Nat)[k]?))))))]) rfl 46 rfl ?_
  refine v_aload_n h dX1_init_46 0 rfl 47 rfl ?_
  refine v_iconst h dX1_init_47 0 rfl 48 rfl ?_
  refine v_put h dX1_init_48 iX1_init_X1 tyX1 tyX1_ok nmX1 0 rfl rfl 5 (by decide) (zwi 15 rfl) rfl rfl rfl (Nat.le_of_ble_eq_true rfl) ([(a, .inr (1, [.int 80, .ref (ad2 0), .ref (ad4 0), .ref q5, .int 0, .int 0]))] ++ wW ca ad2 wv0 ++ wC ca ad4 cv0 ++ [(q5, .inl (ca 3, 8, .inr (.inr (.inr (.inr (fun k => ([] : List Nat)[k]?))))))]) rfl 51 rfl ?_
  refine v_iconst h dX1_init_51 0 rfl 52 rfl ?_
  refine v_istore_n h dX1_init_52 (Nat.le_of_ble_eq_true rfl) rfl rfl [(0, .ref a), (1, .int 0)] rfl 53 rfl ?_
  refine v_iload_n h dX1_init_53 1 rfl 54 rfl ?_
  refine v_bipush h dX1_init_54 8 rfl 56 rfl ?_
  refine v_icmp_ge h dX1_init_56 78 (by decide) 59 rfl (fun c => absurd c (by decide)) (fun _ => ?_)
  refine v_aload_n h dX1_init_59 0 rfl 60 rfl ?_
  refine v_get h (v := .ref q5) dX1_init_60 iX1_init_X1 0 rfl rfl 3 (by decide) (zwi 13 rfl) rfl 63 rfl ?_
  refine v_iload_n h dX1_init_63 1 rfl 64 rfl ?_
  refine v_new (ci := 0) h dfX0 dX1_init_64 iX1_init_X0 tyX0 tyX0_ok (zwi 9 rfl) (zwi 10 rfl) (zwi 11 rfl) rfl dfX0_ok (Nat.le_of_ble_eq_true rfl) (Nat.le_of_ble_eq_true rfl) 9 74 rfl rfl 67 rfl (fun q6 => ?_)
  refine v_dup h dX1_init_67 rfl 68 rfl ?_
  refine v_ctorN h dX1_init_68 (kX0_init l G ca) gX1_init_X0_init_n24 (List.mem_of_getElem? (i := 1) rfl) (zwi 22 rfl) (zwi 11 rfl) rfl rfl ⟨rfl, rfl⟩ nX0_init ⟨(Nat.le_of_ble_eq_true rfl), (Nat.le_of_ble_eq_true rfl)⟩ (Nat.le_of_ble_eq_true rfl) ⟨(Nat.le_of_ble_eq_true rfl), (Nat.le_of_ble_eq_true rfl)⟩ 13 114 rfl rfl 71 rfl (fun ad7 hb7 => ?_)
  subst hb7
  refine v_astq h dX1_init_71 8 3 9 rfl rfl rfl rfl zj_0_8 (fun k => ([ad7 0] : List Nat)[k]?) (zup [] (ad7 0) rfl) ([(a, .inr (1, [.int 80, .ref (ad2 0), .ref (ad4 0), .ref q5, .int 0, .int 0]))] ++ wW ca ad2 wv0 ++ wC ca ad4 cv0 ++ [(q5, .inl (ca 3, 8, .inr (.inr (.inr (.inr (fun k => ([ad7 0] : List Nat)[k]?))))))] ++ wC ca ad7 cv0) rfl 72 rfl ?_
  refine v_iinc h dX1_init_72 1 rfl 1 rfl (Nat.le_of_ble_eq_true rfl) rfl rfl [(0, .ref a), (1, .int 1)] rfl 75 rfl ?_
  refine v_goto h dX1_init_75 53 (by decide) ?_
  refine v_iload_n h dX1_init_53 1 rfl 54 rfl ?_
  refine v_bipush h dX1_init_54 8 rfl 56 rfl ?_
  refine v_icmp_ge h dX1_init_56 78 (by decide) 59 rfl (fun c => absurd c (by decide)) (fun _ => ?_)
  refine v_aload_n h dX1_init_59 0 rfl 60 rfl ?_
  refine v_get h (v := .ref q5) dX1_init_60 iX1_init_X1 0 rfl rfl 3 (by decide) (zwi 13 rfl) rfl 63 rfl ?_
  refine v_iload_n h dX1_init_63 1 rfl 64 rfl ?_
  refine v_new (ci := 0) h dfX0 dX1_init_64 iX1_init_X0 tyX0 tyX0_ok (zwi 9 rfl) (zwi 10 rfl) (zwi 11 rfl) rfl dfX0_ok (Nat.le_of_ble_eq_true rfl) (Nat.le_of_ble_eq_true rfl) 14 122 rfl rfl 67 rfl (fun q8 => ?_)
  refine v_dup h dX1_init_67 rfl 68 rfl ?_
  refine v_ctorN h dX1_init_68 (kX0_init l G ca) gX1_init_X0_init_n24 (List.mem_of_getElem? (i := 1) rfl) (zwi 22 rfl) (zwi 11 rfl) rfl rfl ⟨rfl, rfl⟩ nX0_init ⟨(Nat.le_of_ble_eq_true rfl), (Nat.le_of_ble_eq_true rfl)⟩ (Nat.le_of_ble_eq_true rfl) ⟨(Nat.le_of_ble_eq_true rfl), (Nat.le_of_ble_eq_true rfl)⟩ 18 162 rfl rfl 71 rfl (fun ad9 hb9 => ?_)
  subst hb9
  refine v_astq h dX1_init_71 8 3 14 rfl rfl rfl rfl zj_1_8 (fun k => ([ad7 0, ad9 0] : List Nat)[k]?) (zup [ad7 0] (ad9 0) rfl) ([(a, .inr (1, [.int 80, .ref (ad2 0), .ref (ad4 0), .ref q5, .int 0, .int 0]))] ++ wW ca ad2 wv0 ++ wC ca ad4 cv0 ++ [(q5, .inl (ca 3, 8, .inr (.inr (.inr (.inr (fun k => ([ad7 0, ad9 0] : List Nat)[k]?))))))] ++ wC ca ad7 cv0 ++ wC ca ad9 cv0) rfl 72 rfl ?_
  refine v_iinc h dX1_init_72 1 rfl 2 rfl (Nat.le_of_ble_eq_true rfl) rfl rfl [(0, .ref a), (1, .int 2)] rfl 75 rfl ?_
  refine v_goto h dX1_init_75 53 (by decide) ?_
  refine v_iload_n h dX1_init_53 1 rfl 54 rfl ?_
  refine v_bipush h dX1_init_54 8 rfl 56 rfl ?_
  refine v_icmp_ge h dX1_init_56 78 (by decide) 59 rfl (fun c => absurd c (by decide)) (fun _ => ?_)
  refine v_aload_n h dX1_init_59 0 rfl 60 rfl ?_
  refine v_get h (v := .ref q5) dX1_init_60 iX1_init_X1 0 rfl rfl 3 (by decide) (zwi 13 rfl) rfl 63 rfl ?_
  refine v_iload_n h dX1_init_63 1 rfl 64 rfl ?_
  refine v_new (ci := 0) h dfX0 dX1_init_64 iX1_init_X0 tyX0 tyX0_ok (zwi 9 rfl) (zwi 10 rfl) (zwi 11 rfl) rfl dfX0_ok (Nat.le_of_ble_eq_true rfl) (Nat.le_of_ble_eq_true rfl) 19 170 rfl rfl 67 rfl (fun q10 => ?_)
  refine v_dup h dX1_init_67 rfl 68 rfl ?_
  refine v_ctorN h dX1_init_68 (kX0_init l G ca) gX1_init_X0_init_n24 (List.mem_of_getElem? (i := 1) rfl) (zwi 22 rfl) (zwi 11 rfl) rfl rfl ⟨rfl, rfl⟩ nX0_init ⟨(Nat.le_of_ble_eq_true rfl), (Nat.le_of_ble_eq_true rfl)⟩ (Nat.le_of_ble_eq_true rfl) ⟨(Nat.le_of_ble_eq_true rfl), (Nat.le_of_ble_eq_true rfl)⟩ 23 210 rfl rfl 71 rfl (fun ad11 hb11 => ?_)
  subst hb11
  refine v_astq h dX1_init_71 8 3 19 rfl rfl rfl rfl zj_2_8 (fun k => ([ad7 0, ad9 0, ad11 0] : List Nat)[k]?) (zup [ad7 0, ad9 0] (ad11 0) rfl) ([(a, .inr (1, [.int 80, .ref (ad2 0), .ref (ad4 0), .ref q5, .int 0, .int 0]))] ++ wW ca ad2 wv0 ++ wC ca ad4 cv0 ++ [(q5, .inl (ca 3, 8, .inr (.inr (.inr (.inr (fun k => ([ad7 0, ad9 0, ad11 0] : List Nat)[k]?))))))] ++ wC ca ad7 cv0 ++ wC ca ad9 cv0 ++ wC ca ad11 cv0) rfl 72 rfl ?_
  refine v_iinc h dX1_init_72 1 rfl 3 rfl (Nat.le_of_ble_eq_true rfl) rfl rfl [(0, .ref a), (1, .int 3)] rfl 75 rfl ?_
  refine v_goto h dX1_init_75 53 (by decide) ?_
  refine v_iload_n h dX1_init_53 1 rfl 54 rfl ?_
  refine v_bipush h dX1_init_54 8 rfl 56 rfl ?_
  refine v_icmp_ge h dX1_init_56 78 (by decide) 59 rfl (fun c => absurd c (by decide)) (fun _ => ?_)
  refine v_aload_n h dX1_init_59 0 rfl 60 rfl ?_
  refine v_get h (v := .ref q5) dX1_init_60 iX1_init_X1 0 rfl rfl 3 (by decide) (zwi 13 rfl) rfl 63 rfl ?_
  refine v_iload_n h dX1_init_63 1 rfl 64 rfl ?_
  refine v_new (ci := 0) h dfX0 dX1_init_64 iX1_init_X0 tyX0 tyX0_ok (zwi 9 rfl) (zwi 10 rfl) (zwi 11 rfl) rfl dfX0_ok (Nat.le_of_ble_eq_true rfl) (Nat.le_of_ble_eq_true rfl) 24 218 rfl rfl 67 rfl (fun q12 => ?_)
  refine v_dup h dX1_init_67 rfl 68 rfl ?_
  refine v_ctorN h dX1_init_68 (kX0_init l G ca) gX1_init_X0_init_n24 (List.mem_of_getElem? (i := 1) rfl) (zwi 22 rfl) (zwi 11 rfl) rfl rfl ⟨rfl, rfl⟩ nX0_init ⟨(Nat.le_of_ble_eq_true rfl), (Nat.le_of_ble_eq_true rfl)⟩ (Nat.le_of_ble_eq_true rfl) ⟨(Nat.le_of_ble_eq_true rfl), (Nat.le_of_ble_eq_true rfl)⟩ 28 258 rfl rfl 71 rfl (fun ad13 hb13 => ?_)
  subst hb13
  refine v_astq h dX1_init_71 8 3 24 rfl rfl rfl rfl zj_3_8 (fun k => ([ad7 0, ad9 0, ad11 0, ad13 0] : List Nat)[k]?) (zup [ad7 0, ad9 0, ad11 0] (ad13 0) rfl) ([(a, .inr (1, [.int 80, .ref (ad2 0), .ref (ad4 0), .ref q5, .int 0, .int 0]))] ++ wW ca ad2 wv0 ++ wC ca ad4 cv0 ++ [(q5, .inl (ca 3, 8, .inr (.inr (.inr (.inr (fun k => ([ad7 0, ad9 0, ad11 0, ad13 0] : List Nat)[k]?))))))] ++ wC ca ad7 cv0 ++ wC ca ad9 cv0 ++ wC ca ad11 cv0 ++ wC ca ad13 cv0) rfl 72 rfl ?_
  refine v_iinc h dX1_init_72 1 rfl 4 rfl (Nat.le_of_ble_eq_true rfl) rfl rfl [(0, .ref a), (1, .int 4)] rfl 75 rfl ?_
  refine v_goto h dX1_init_75 53 (by decide) ?_
  refine v_iload_n h dX1_init_53 1 rfl 54 rfl ?_
  refine v_bipush h dX1_init_54 8 rfl 56 rfl ?_
  refine v_icmp_ge h dX1_init_56 78 (by decide) 59 rfl (fun c => absurd c (by decide)) (fun _ => ?_)
  refine v_aload_n h dX1_init_59 0 rfl 60 rfl ?_
  refine v_get h (v := .ref q5) dX1_init_60 iX1_init_X1 0 rfl rfl 3 (by decide) (zwi 13 rfl) rfl 63 rfl ?_
  refine v_iload_n h dX1_init_63 1 rfl 64 rfl ?_
  refine v_new (ci := 0) h dfX0 dX1_init_64 iX1_init_X0 tyX0 tyX0_ok (zwi 9 rfl) (zwi 10 rfl) (zwi 11 rfl) rfl dfX0_ok (Nat.le_of_ble_eq_true rfl) (Nat.le_of_ble_eq_true rfl) 29 266 rfl rfl 67 rfl (fun q14 => ?_)
  refine v_dup h dX1_init_67 rfl 68 rfl ?_
  refine v_ctorN h dX1_init_68 (kX0_init l G ca) gX1_init_X0_init_n24 (List.mem_of_getElem? (i := 1) rfl) (zwi 22 rfl) (zwi 11 rfl) rfl rfl ⟨rfl, rfl⟩ nX0_init ⟨(Nat.le_of_ble_eq_true rfl), (Nat.le_of_ble_eq_true rfl)⟩ (Nat.le_of_ble_eq_true rfl) ⟨(Nat.le_of_ble_eq_true rfl), (Nat.le_of_ble_eq_true rfl)⟩ 33 306 rfl rfl 71 rfl (fun ad15 hb15 => ?_)
  subst hb15
  refine v_astq h dX1_init_71 8 3 29 rfl rfl rfl rfl zj_4_8 (fun k => ([ad7 0, ad9 0, ad11 0, ad13 0, ad15 0] : List Nat)[k]?) (zup [ad7 0, ad9 0, ad11 0, ad13 0] (ad15 0) rfl) ([(a, .inr (1, [.int 80, .ref (ad2 0), .ref (ad4 0), .ref q5, .int 0, .int 0]))] ++ wW ca ad2 wv0 ++ wC ca ad4 cv0 ++ [(q5, .inl (ca 3, 8, .inr (.inr (.inr (.inr (fun k => ([ad7 0, ad9 0, ad11 0, ad13 0, ad15 0] : List Nat)[k]?))))))] ++ wC ca ad7 cv0 ++ wC ca ad9 cv0 ++ wC ca ad11 cv0 ++ wC ca ad13 cv0 ++ wC ca ad15 cv0) rfl 72 rfl ?_
  refine v_iinc h dX1_init_72 1 rfl 5 rfl (Nat.le_of_ble_eq_true rfl) rfl rfl [(0, .ref a), (1, .int 5)] rfl 75 rfl ?_
  refine v_goto h dX1_init_75 53 (by decide) ?_
  refine v_iload_n h dX1_init_53 1 rfl 54 rfl ?_
  refine v_bipush h dX1_init_54 8 rfl 56 rfl ?_
  refine v_icmp_ge h dX1_init_56 78 (by decide) 59 rfl (fun c => absurd c (by decide)) (fun _ => ?_)
  refine v_aload_n h dX1_init_59 0 rfl 60 rfl ?_
  refine v_get h (v := .ref q5) dX1_init_60 iX1_init_X1 0 rfl rfl 3 (by decide) (zwi 13 rfl) rfl 63 rfl ?_
  refine v_iload_n h dX1_init_63 1 rfl 64 rfl ?_
  refine v_new (ci := 0) h dfX0 dX1_init_64 iX1_init_X0 tyX0 tyX0_ok (zwi 9 rfl) (zwi 10 rfl) (zwi 11 rfl) rfl dfX0_ok (Nat.le_of_ble_eq_true rfl) (Nat.le_of_ble_eq_true rfl) 34 314 rfl rfl 67 rfl (fun q16 => ?_)
  refine v_dup h dX1_init_67 rfl 68 rfl ?_
  refine v_ctorN h dX1_init_68 (kX0_init l G ca) gX1_init_X0_init_n24 (List.mem_of_getElem? (i := 1) rfl) (zwi 22 rfl) (zwi 11 rfl) rfl rfl ⟨rfl, rfl⟩ nX0_init ⟨(Nat.le_of_ble_eq_true rfl), (Nat.le_of_ble_eq_true rfl)⟩ (Nat.le_of_ble_eq_true rfl) ⟨(Nat.le_of_ble_eq_true rfl), (Nat.le_of_ble_eq_true rfl)⟩ 38 354 rfl rfl 71 rfl (fun ad17 hb17 => ?_)
  subst hb17
  refine v_astq h dX1_init_71 8 3 34 rfl rfl rfl rfl zj_5_8 (fun k => ([ad7 0, ad9 0, ad11 0, ad13 0, ad15 0, ad17 0] : List Nat)[k]?) (zup [ad7 0, ad9 0, ad11 0, ad13 0, ad15 0] (ad17 0) rfl) ([(a, .inr (1, [.int 80, .ref (ad2 0), .ref (ad4 0), .ref q5, .int 0, .int 0]))] ++ wW ca ad2 wv0 ++ wC ca ad4 cv0 ++ [(q5, .inl (ca 3, 8, .inr (.inr (.inr (.inr (fun k => ([ad7 0, ad9 0, ad11 0, ad13 0, ad15 0, ad17 0] : List Nat)[k]?))))))] ++ wC ca ad7 cv0 ++ wC ca ad9 cv0 ++ wC ca ad11 cv0 ++ wC ca ad13 cv0 ++ wC ca ad15 cv0 ++ wC ca ad17 cv0) rfl 72 rfl ?_
  refine v_iinc h dX1_init_72 1 rfl 6 rfl (Nat.le_of_ble_eq_true rfl) rfl rfl [(0, .ref a), (1, .int 6)] rfl 75 rfl ?_
  refine v_goto h dX1_init_75 53 (by decide) ?_
  refine v_iload_n h dX1_init_53 1 rfl 54 rfl ?_
  refine v_bipush h dX1_init_54 8 rfl 56 rfl ?_
  refine v_icmp_ge h dX1_init_56 78 (by decide) 59 rfl (fun c => absurd c (by decide)) (fun _ => ?_)
  refine v_aload_n h dX1_init_59 0 rfl 60 rfl ?_
  refine v_get h (v := .ref q5) dX1_init_60 iX1_init_X1 0 rfl rfl 3 (by decide) (zwi 13 rfl) rfl 63 rfl ?_
  refine v_iload_n h dX1_init_63 1 rfl 64 rfl ?_
  refine v_new (ci := 0) h dfX0 dX1_init_64 iX1_init_X0 tyX0 tyX0_ok (zwi 9 rfl) (zwi 10 rfl) (zwi 11 rfl) rfl dfX0_ok (Nat.le_of_ble_eq_true rfl) (Nat.le_of_ble_eq_true rfl) 39 362 rfl rfl 67 rfl (fun q18 => ?_)
  refine v_dup h dX1_init_67 rfl 68 rfl ?_
  refine v_ctorN h dX1_init_68 (kX0_init l G ca) gX1_init_X0_init_n24 (List.mem_of_getElem? (i := 1) rfl) (zwi 22 rfl) (zwi 11 rfl) rfl rfl ⟨rfl, rfl⟩ nX0_init ⟨(Nat.le_of_ble_eq_true rfl), (Nat.le_of_ble_eq_true rfl)⟩ (Nat.le_of_ble_eq_true rfl) ⟨(Nat.le_of_ble_eq_true rfl), (Nat.le_of_ble_eq_true rfl)⟩ 43 402 rfl rfl 71 rfl (fun ad19 hb19 => ?_)
  subst hb19
  refine v_astq h dX1_init_71 8 3 39 rfl rfl rfl rfl zj_6_8 (fun k => ([ad7 0, ad9 0, ad11 0, ad13 0, ad15 0, ad17 0, ad19 0] : List Nat)[k]?) (zup [ad7 0, ad9 0, ad11 0, ad13 0, ad15 0, ad17 0] (ad19 0) rfl) ([(a, .inr (1, [.int 80, .ref (ad2 0), .ref (ad4 0), .ref q5, .int 0, .int 0]))] ++ wW ca ad2 wv0 ++ wC ca ad4 cv0 ++ [(q5, .inl (ca 3, 8, .inr (.inr (.inr (.inr (fun k => ([ad7 0, ad9 0, ad11 0, ad13 0, ad15 0, ad17 0, ad19 0] : List Nat)[k]?))))))] ++ wC ca ad7 cv0 ++ wC ca ad9 cv0 ++ wC ca ad11 cv0 ++ wC ca ad13 cv0 ++ wC ca ad15 cv0 ++ wC ca ad17 cv0 ++ wC ca ad19 cv0) rfl 72 rfl ?_
  refine v_iinc h dX1_init_72 1 rfl 7 rfl (Nat.le_of_ble_eq_true rfl) rfl rfl [(0, .ref a), (1, .int 7)] rfl 75 rfl ?_
  refine v_goto h dX1_init_75 53 (by decide) ?_
  refine v_iload_n h dX1_init_53 1 rfl 54 rfl ?_
  refine v_bipush h dX1_init_54 8 rfl 56 rfl ?_
  refine v_icmp_ge h dX1_init_56 78 (by decide) 59 rfl (fun c => absurd c (by decide)) (fun _ => ?_)
  refine v_aload_n h dX1_init_59 0 rfl 60 rfl ?_
  refine v_get h (v := .ref q5) dX1_init_60 iX1_init_X1 0 rfl rfl 3 (by decide) (zwi 13 rfl) rfl 63 rfl ?_
  refine v_iload_n h dX1_init_63 1 rfl 64 rfl ?_
  refine v_new (ci := 0) h dfX0 dX1_init_64 iX1_init_X0 tyX0 tyX0_ok (zwi 9 rfl) (zwi 10 rfl) (zwi 11 rfl) rfl dfX0_ok (Nat.le_of_ble_eq_true rfl) (Nat.le_of_ble_eq_true rfl) 44 410 rfl rfl 67 rfl (fun q20 => ?_)
  refine v_dup h dX1_init_67 rfl 68 rfl ?_
  refine v_ctorN h dX1_init_68 (kX0_init l G ca) gX1_init_X0_init_n24 (List.mem_of_getElem? (i := 1) rfl) (zwi 22 rfl) (zwi 11 rfl) rfl rfl ⟨rfl, rfl⟩ nX0_init ⟨(Nat.le_of_ble_eq_true rfl), (Nat.le_of_ble_eq_true rfl)⟩ (Nat.le_of_ble_eq_true rfl) ⟨(Nat.le_of_ble_eq_true rfl), (Nat.le_of_ble_eq_true rfl)⟩ 48 450 rfl rfl 71 rfl (fun ad21 hb21 => ?_)
  subst hb21
  refine v_astq h dX1_init_71 8 3 44 rfl rfl rfl rfl zj_7_8 (fun k => ([ad7 0, ad9 0, ad11 0, ad13 0, ad15 0, ad17 0, ad19 0, ad21 0] : List Nat)[k]?) (zup [ad7 0, ad9 0, ad11 0, ad13 0, ad15 0, ad17 0, ad19 0] (ad21 0) rfl) ([(a, .inr (1, [.int 80, .ref (ad2 0), .ref (ad4 0), .ref q5, .int 0, .int 0]))] ++ wW ca ad2 wv0 ++ wC ca ad4 cv0 ++ [(q5, .inl (ca 3, 8, .inr (.inr (.inr (.inr (fun k => ([ad7 0, ad9 0, ad11 0, ad13 0, ad15 0, ad17 0, ad19 0, ad21 0] : List Nat)[k]?))))))] ++ wC ca ad7 cv0 ++ wC ca ad9 cv0 ++ wC ca ad11 cv0 ++ wC ca ad13 cv0 ++ wC ca ad15 cv0 ++ wC ca ad17 cv0 ++ wC ca ad19 cv0 ++ wC ca ad21 cv0) rfl 72 rfl ?_
  refine v_iinc h dX1_init_72 1 rfl 8 rfl (Nat.le_of_ble_eq_true rfl) rfl rfl [(0, .ref a), (1, .int 8)] rfl 75 rfl ?_
  refine v_goto h dX1_init_75 53 (by decide) ?_
  refine v_iload_n h dX1_init_53 1 rfl 54 rfl ?_
  refine v_bipush h dX1_init_54 8 rfl 56 rfl ?_
  refine v_icmp_ge h dX1_init_56 78 (by decide) 59 rfl (fun _ => ?_) (fun c => absurd (show (8 : Int32) ≤ 8 by decide) c)
  exact v_w (w' := wH ca (fun k => ([a, ad2 0, ad2 1, ad4 0, ad4 1, ad4 2, ad4 3, ad4 4, q5, ad7 0, ad7 1, ad7 2, ad7 3, ad7 4, ad9 0, ad9 1, ad9 2, ad9 3, ad9 4, ad11 0, ad11 1, ad11 2, ad11 3, ad11 4, ad13 0, ad13 1, ad13 2, ad13 3, ad13 4, ad15 0, ad15 1, ad15 2, ad15 3, ad15 4, ad17 0, ad17 1, ad17 2, ad17 3, ad17 4, ad19 0, ad19 1, ad19 2, ad19 3, ad19 4, ad21 0, ad21 1, ad21 2, ad21 3, ad21 4] : List Nat).getD k 0) hv0) rfl (hE 78 _ (fun k => ([a, ad2 0, ad2 1, ad4 0, ad4 1, ad4 2, ad4 3, ad4 4, q5, ad7 0, ad7 1, ad7 2, ad7 3, ad7 4, ad9 0, ad9 1, ad9 2, ad9 3, ad9 4, ad11 0, ad11 1, ad11 2, ad11 3, ad11 4, ad13 0, ad13 1, ad13 2, ad13 3, ad13 4, ad15 0, ad15 1, ad15 2, ad15 3, ad15 4, ad17 0, ad17 1, ad17 2, ad17 3, ad17 4, ad19 0, ad19 1, ad19 2, ad19 3, ad19 4, ad21 0, ad21 1, ad21 2, ad21 3, ad21 4] : List Nat).getD k 0) rfl dX1_init_78)
