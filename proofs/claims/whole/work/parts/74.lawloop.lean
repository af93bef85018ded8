/-! the law's loop -/
set_option maxRecDepth 100000 in
set_option maxHeartbeats 4000000 in
theorem ll_body {X : zX} {l : Launch} {G : va_G} {ca : Nat → ClassId} {ad ae : Nat → Nat} {b L : Nat} {xs : Nat → Int32} {c : Nat} {xv : XV} {mv : MV} (h : zOk X l G ca cL_law RL wsL_law 4 room_1) (hX : zScr X b L xs) (hL : L ≤ 448) (hc : c + 7 ≤ L) (hR : Rel xv mv) (k : ∀ xv' mv', Rel xv' mv' → V X G 4 137 3130 (wX ca ad xv' ++ wM ca ae mv') 1198 [(0, .ref b), (1, .ref (ad 0)), (2, .ref (ae 0)), (3, .int (nI c))] []) : V X G 4 137 3130 (wX ca ad xv ++ wM ca ae mv) 27 [(0, .ref b), (1, .ref (ad 0)), (2, .ref (ae 0)), (3, .int (nI c))] [] := by
  have h0 : vp_in (nI c) L := vp_in_nI (by omega) (by omega)
  have hj : ∀ j : Nat, j < 7 → vp_in (nI c + nI j) L := fun j hj => by
    rw [nI_add]
    exact vp_in_nI (by omega) (by omega)
  have h1 : vp_in (nI c + 1) L := hj 1 (by omega)
  have h2 : vp_in (nI c + 2) L := hj 2 (by omega)
  have h3 : vp_in (nI c + 3) L := hj 3 (by omega)
  have h4 : vp_in (nI c + 4) L := hj 4 (by omega)
  have h5 : vp_in (nI c + 5) L := hj 5 (by omega)
  have h6 : vp_in (nI c + 6) L := hj 6 (by omega)
  refine v_aload_n h dL_law_27 0 rfl 28 rfl ?_
  refine v_iload_n h dL_law_28 3 rfl 29 rfl ?_
  refine v_sld h hX h0 dL_law_29 30 rfl ?_
  refine v_bipush h dL_law_30 63 rfl 32 rfl ?_
  refine v_iand h dL_law_32 33 rfl ?_
  obtain ⟨y, hy⟩ : ∃ y : Int32, y = xs (nI c).toNatClampNeg &&& 63 := ⟨_, rfl⟩
  refine v_topi hy ?_
  by_cases hq : y.toInt < 0 ∨ 33 < y.toInt
  · exact v_tsOut h dL_law_33 hq 1198 (by decide) (k xv mv hR)
  obtain ⟨n, hn, hk⟩ : ∃ n : Nat, n ≤ 33 ∧ y = nI n := by
    refine ⟨y.toInt.toNat, by omega, Int32.toInt_inj.mp ?_⟩
    rw [nI_toInt (by omega)]
    omega
  rcases (show n = 0 ∨ n = 1 ∨ n = 2 ∨ n = 3 ∨ n = 4 ∨ n = 5 ∨ n = 6 ∨ n = 7 ∨ n = 8 ∨ n = 9 ∨ n = 10 ∨ n = 11 ∨ n = 12 ∨ n = 13 ∨ n = 14 ∨ n = 15 ∨ n = 16 ∨ n = 17 ∨ n = 18 ∨ n = 19 ∨ n = 20 ∨ n = 21 ∨ n = 22 ∨ n = 23 ∨ n = 24 ∨ n = 25 ∨ n = 26 ∨ n = 27 ∨ n = 28 ∨ n = 29 ∨ n = 30 ∨ n = 31 ∨ n = 32 ∨ n = 33 by omega) with rfl | rfl | rfl | rfl | rfl | rfl | rfl | rfl | rfl | rfl | rfl | rfl | rfl | rfl | rfl | rfl | rfl | rfl | rfl | rfl | rfl | rfl | rfl | rfl | rfl | rfl | rfl | rfl | rfl | rfl | rfl | rfl | rfl | rfl
  · exact v_tsIn h dL_law_33 (show y = 0 from hk) (by decide) (by decide) rfl 184 (by decide) (lc_walls h hX h1 h2 h3 h4 h5 h6 hR k)
  · exact v_tsIn h dL_law_33 (show y = 1 from hk) (by decide) (by decide) rfl 207 (by decide) (lc_rain h hX h1 h2 h3 h4 h5 h6 hR k)
  · exact v_tsIn h dL_law_33 (show y = 2 from hk) (by decide) (by decide) rfl 230 (by decide) (lc_dry h hX h1 h2 h3 h4 h5 h6 hR k)
  · exact v_tsIn h dL_law_33 (show y = 3 from hk) (by decide) (by decide) rfl 243 (by decide) (lc_of h hX h1 h2 h3 h4 h5 h6 hR k)
  · exact v_tsIn h dL_law_33 (show y = 4 from hk) (by decide) (by decide) rfl 276 (by decide) (lc_rains h hX h1 h2 h3 h4 h5 h6 hR k)
  · exact v_tsIn h dL_law_33 (show y = 5 from hk) (by decide) (by decide) rfl 299 (by decide) (lc_type h hX h1 h2 h3 h4 h5 h6 hR k)
  · exact v_tsIn h dL_law_33 (show y = 6 from hk) (by decide) (by decide) rfl 322 (by decide) (lc_roof h hX h1 h2 h3 h4 h5 h6 hR k)
  · exact v_tsIn h dL_law_33 (show y = 7 from hk) (by decide) (by decide) rfl 335 (by decide) (lc_count h hX h1 h2 h3 h4 h5 h6 hR k)
  · exact v_tsIn h dL_law_33 (show y = 8 from hk) (by decide) (by decide) rfl 358 (by decide) (lc_years h hX h1 h2 h3 h4 h5 h6 hR k)
  · exact v_tsIn h dL_law_33 (show y = 9 from hk) (by decide) (by decide) rfl 381 (by decide) (lc_lay h hX h1 h2 h3 h4 h5 h6 hR k)
  · exact v_tsIn h dL_law_33 (show y = 10 from hk) (by decide) (by decide) rfl 414 (by decide) (lc_strip h hX h1 h2 h3 h4 h5 h6 hR k)
  · exact v_tsIn h dL_law_33 (show y = 11 from hk) (by decide) (by decide) rfl 437 (by decide) (lc_pull h hX h1 h2 h3 h4 h5 h6 hR k)
  · exact v_tsIn h dL_law_33 (show y = 12 from hk) (by decide) (by decide) rfl 470 (by decide) (lc_fire h hX h1 h2 h3 h4 h5 h6 hR k)
  · exact v_tsIn h dL_law_33 (show y = 13 from hk) (by decide) (by decide) rfl 493 (by decide) (lc_drift h hX h1 h2 h3 h4 h5 h6 hR k)
  · exact v_tsIn h dL_law_33 (show y = 14 from hk) (by decide) (by decide) rfl 516 (by decide) (lc_undo h hX h1 h2 h3 h4 h5 h6 hR k)
  · exact v_tsIn h dL_law_33 (show y = 15 from hk) (by decide) (by decide) rfl 529 (by decide) (lc_seed h hX h1 h2 h3 h4 h5 h6 hR k)
  · exact v_tsIn h dL_law_33 (show y = 16 from hk) (by decide) (by decide) rfl 552 (by decide) (lc_ahead h hX h1 h2 h3 h4 h5 h6 hR k)
  · exact v_tsIn h dL_law_33 (show y = 17 from hk) (by decide) (by decide) rfl 585 (by decide) (lc_leak h hX h1 h2 h3 h4 h5 h6 hR k)
  · exact v_tsIn h dL_law_33 (show y = 18 from hk) (by decide) (by decide) rfl 598 (by decide) (lc_bare h hX h1 h2 h3 h4 h5 h6 hR k)
  · exact v_tsIn h dL_law_33 (show y = 19 from hk) (by decide) (by decide) rfl 611 (by decide) (lc_reach h hX h1 h2 h3 h4 h5 h6 hR k)
  · exact v_tsIn h dL_law_33 (show y = 20 from hk) (by decide) (by decide) rfl 634 (by decide) (lc_cover h hX h1 h2 h3 h4 h5 h6 hR k)
  · exact v_tsIn h dL_law_33 (show y = 21 from hk) (by decide) (by decide) rfl 667 (by decide) (lc_relief h hX h1 h2 h3 h4 h5 h6 hR k)
  · exact v_tsIn h dL_law_33 (show y = 22 from hk) (by decide) (by decide) rfl 700 (by decide) (lc_share h hX h1 h2 h3 h4 h5 h6 hR k)
  · exact v_tsIn h dL_law_33 (show y = 23 from hk) (by decide) (by decide) rfl 743 (by decide) (lc_worst h hX h1 h2 h3 h4 h5 h6 hR k)
  · exact v_tsIn h dL_law_33 (show y = 24 from hk) (by decide) (by decide) rfl 766 (by decide) (lc_hot h hX h1 h2 h3 h4 h5 h6 hR k)
  · exact v_tsIn h dL_law_33 (show y = 25 from hk) (by decide) (by decide) rfl 789 (by decide) (lc_bursts h hX h1 h2 h3 h4 h5 h6 hR k)
  · exact v_tsIn h dL_law_33 (show y = 26 from hk) (by decide) (by decide) rfl 832 (by decide) (lc_image h hX h1 h2 h3 h4 h5 h6 hR k)
  · exact v_tsIn h dL_law_33 (show y = 27 from hk) (by decide) (by decide) rfl 845 (by decide) (lc_restore h hX h1 h2 h3 h4 h5 h6 hR k)
  · exact v_tsIn h dL_law_33 (show y = 28 from hk) (by decide) (by decide) rfl 858 (by decide) (lc_stains h hX h1 h2 h3 h4 h5 h6 hR k)
  · exact v_tsIn h dL_law_33 (show y = 29 from hk) (by decide) (by decide) rfl 933 (by decide) (lc_film h hX h1 h2 h3 h4 h5 h6 hR k)
  · exact v_tsIn h dL_law_33 (show y = 30 from hk) (by decide) (by decide) rfl 986 (by decide) (lc_sheet h hX h1 h2 h3 h4 h5 h6 hR k)
  · exact v_tsIn h dL_law_33 (show y = 31 from hk) (by decide) (by decide) rfl 1029 (by decide) (lc_drop h hX h1 h2 h3 h4 h5 h6 hR k)
  · exact v_tsIn h dL_law_33 (show y = 32 from hk) (by decide) (by decide) rfl 1052 (by decide) (lc_item h hX h1 h2 h3 h4 h5 h6 hR k)
  · exact v_tsIn h dL_law_33 (show y = 33 from hk) (by decide) (by decide) rfl 1135 (by decide) (lc_copy h hX h1 h2 h3 h4 h5 h6 hR k)
theorem ll_loop {X : zX} {l : Launch} {G : va_G} {ca : Nat → ClassId} {ad ae : Nat → Nat} {b L : Nat} {xs : Nat → Int32} (h : zOk X l G ca cL_law RL wsL_law 4 room_1) (hX : zScr X b L xs) (hL : L ≤ 448) (hE : ∀ (ws : va_W) (lv : List (Nat × Value)), V X G 4 137 3130 ws 1205 lv [.int 1]) : ∀ (n c : Nat) (xv : XV) (mv : MV), L < c + n → c ≤ 1000 → Rel xv mv → V X G 4 137 3130 (wX ca ad xv ++ wM ca ae mv) 18 [(0, .ref b), (1, .ref (ad 0)), (2, .ref (ae 0)), (3, .int (nI c))] [] := by
  intro n
  induction n with
  | zero =>
    intro c xv mv h1 h2 hR
    refine v_iload_n h dL_law_18 3 rfl 19 rfl ?_
    refine v_aload_n h dL_law_19 0 rfl 20 rfl ?_
    refine v_slen h hX dL_law_20 21 rfl ?_
    refine v_bipush h dL_law_21 7 rfl 23 rfl ?_
    refine v_isub h dL_law_23 24 rfl ?_
    refine v_icmp_gt h dL_law_24 1204 (by decide) 27 rfl (fun q => ?_) (fun q => ?_)
    · refine v_iconst h dL_law_1204 1 rfl 1205 rfl ?_
      exact hE _ _
    · refine absurd ?_ q
      show nI L - nI 7 < nI c
      rw [nsub_lt (by omega) (by omega) (by omega)]
      omega
  | succ n ih =>
    intro c xv mv h1 h2 hR
    refine v_iload_n h dL_law_18 3 rfl 19 rfl ?_
    refine v_aload_n h dL_law_19 0 rfl 20 rfl ?_
    refine v_slen h hX dL_law_20 21 rfl ?_
    refine v_bipush h dL_law_21 7 rfl 23 rfl ?_
    refine v_isub h dL_law_23 24 rfl ?_
    refine v_icmp_gt h dL_law_24 1204 (by decide) 27 rfl (fun q => ?_) (fun q => ?_)
    · refine v_iconst h dL_law_1204 1 rfl 1205 rfl ?_
      exact hE _ _
    · have hc : c + 7 ≤ L := by
        rcases Nat.lt_or_ge L (c + 7) with g | g
        · exfalso
          apply q
          show nI L - nI 7 < nI c
          rw [nsub_lt (by omega) (by omega) (by omega)]
          exact g
        · exact g
      refine ll_body h hX hL hc hR (fun xv' mv' hR' => ?_)
      refine v_iinc h dL_law_1198 3 rfl (nI (c + 7)) (by rw [show Int32.ofInt 7 = nI 7 from by decide]; exact nI_add c 7) (Nat.le_of_ble_eq_true rfl) rfl rfl [(0, .ref b), (1, .ref (ad 0)), (2, .ref (ae 0)), (3, .int (nI (c + 7)))] rfl 1201 rfl ?_
      refine v_goto h dL_law_1201 18 (by decide) ?_
      exact ih (c + 7) xv' mv' (by omega) (by omega) hR'
