/-! the law from its entry -/
set_option maxRecDepth 100000 in
set_option maxHeartbeats 4000000 in
theorem ll_start {X : zX} {l : Launch} {G : va_G} {ca : Nat → ClassId} {b L : Nat} {xs : Nat → Int32} (h : zOk X l G ca cL_law RL wsL_law 4 room_1) (hX : zScr X b L xs) (hL : L ≤ 448) (hE : ∀ (ws : va_W) (lv : List (Nat × Value)), V X G 4 137 3130 ws 1205 lv [.int 1]) : V X G 4 0 0 [] 0 [(0, .ref b)] [] := by
  refine v_new (ci := 6) h dfX6 dL_law_0 inlX6 tyX6 tyX6_ok (zwi 0 rfl) (zwi 1 rfl) (zwi 2 rfl) rfl dfX6_ok (Nat.le_of_ble_eq_true rfl) (Nat.le_of_ble_eq_true rfl) 1 7 rfl rfl 3 rfl (fun q1 => ?_)
  refine v_dup h dL_law_3 rfl 4 rfl ?_
  refine v_ctor h dL_law_4 (kX6_init l G ca) gL_law_X6_init (zwi 7 rfl) (zwi 8 rfl) (zwi 2 rfl) rfl rfl ⟨rfl, rfl⟩ nX6_init ⟨(Nat.le_of_ble_eq_true rfl), (Nat.le_of_ble_eq_true rfl)⟩ (Nat.le_of_ble_eq_true rfl) ⟨(Nat.le_of_ble_eq_true rfl), (Nat.le_of_ble_eq_true rfl)⟩ 125 1263 rfl rfl 7 rfl (fun ad hb1 => ?_)
  subst hb1
  refine v_astore_n h dL_law_7 (Nat.le_of_ble_eq_true rfl) rfl rfl [(0, .ref b), (1, .ref (ad 0))] rfl 8 rfl ?_
  refine v_new (ci := 7) h dfX7 dL_law_8 inlX7 tyX7 tyX7_ok (zwi 3 rfl) (zwi 4 rfl) (zwi 5 rfl) rfl dfX7_ok (Nat.le_of_ble_eq_true rfl) (Nat.le_of_ble_eq_true rfl) 126 1278 rfl rfl 11 rfl (fun q2 => ?_)
  refine v_dup h dL_law_11 rfl 12 rfl ?_
  refine v_ctor h dL_law_12 (kX7_init l G ca) gL_law_X7_init (zwi 95 rfl) (zwi 96 rfl) (zwi 5 rfl) rfl rfl ⟨rfl, rfl⟩ nX7_init ⟨(Nat.le_of_ble_eq_true rfl), (Nat.le_of_ble_eq_true rfl)⟩ (Nat.le_of_ble_eq_true rfl) ⟨(Nat.le_of_ble_eq_true rfl), (Nat.le_of_ble_eq_true rfl)⟩ 137 3130 rfl rfl 15 rfl (fun ae hb2 => ?_)
  subst hb2
  refine v_astore_n h dL_law_15 (Nat.le_of_ble_eq_true rfl) rfl rfl [(0, .ref b), (1, .ref (ad 0)), (2, .ref (ae 0))] rfl 16 rfl ?_
  refine v_iconst h dL_law_16 0 rfl 17 rfl ?_
  refine v_istore_n h dL_law_17 (Nat.le_of_ble_eq_true rfl) rfl rfl [(0, .ref b), (1, .ref (ad 0)), (2, .ref (ae 0)), (3, .int (nI 0))] rfl 18 rfl ?_
  refine v_w (w' := wX ca ad xv0 ++ wM ca ae mv0) rfl ?_
  exact ll_loop h hX hL hE (L + 1) 0 xv0 mv0 (by omega) (by omega) rel0
