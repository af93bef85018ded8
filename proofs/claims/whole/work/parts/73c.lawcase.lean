/-! the law's cases -/
set_option maxRecDepth 100000 in
set_option maxHeartbeats 4000000 in
theorem lc_leak {X : zX} {l : Launch} {G : va_G} {ca : Nat → ClassId} {ad ae : Nat → Nat} {b L : Nat} {xs : Nat → Int32} {i : Int32} {xv : XV} {mv : MV} (h : zOk X l G ca cL_law RL wsL_law 4 room_1) (hX : zScr X b L xs) (h1 : vp_in (i + 1) L) (h2 : vp_in (i + 2) L) (h3 : vp_in (i + 3) L) (h4 : vp_in (i + 4) L) (h5 : vp_in (i + 5) L) (h6 : vp_in (i + 6) L) (hR : Rel xv mv) (k : ∀ xv' mv', Rel xv' mv' → V X G 4 137 3130 (wX ca ad xv' ++ wM ca ae mv') 1198 [(0, .ref b), (1, .ref (ad 0)), (2, .ref (ae 0)), (3, .int i)] []) : V X G 4 137 3130 (wX ca ad xv ++ wM ca ae mv) 585 [(0, .ref b), (1, .ref (ad 0)), (2, .ref (ae 0)), (3, .int i)] [] := by
  obtain ⟨a, xv', mv', hR', t6, t7⟩ := e_leak hR
  refine v_aload_n h dL_law_585 1 rfl 586 rfl ?_
  refine v_swap ?_
  refine v_rcall (n := 0) (As := []) (rest := []) (ci := 6) h dL_law_586 (t6 l G ca ad) gL_law_X6_leak rfl rfl ⟨rfl, rfl⟩ nX6_leak ⟨(Nat.le_of_ble_eq_true rfl), (Nat.le_of_ble_eq_true rfl)⟩ rfl rfl rfl rfl (Nat.le_of_ble_eq_true rfl) ⟨(Nat.le_of_ble_eq_true rfl), (Nat.le_of_ble_eq_true rfl)⟩ (wX_adr ca ad xv xv') 589 rfl ?_
  refine v_aload_n h dL_law_589 2 rfl 590 rfl ?_
  refine v_swap ?_
  refine v_rcall (n := 0) (As := []) (rest := [.int a]) (ci := 7) h dL_law_590 (t7 l G ca ae) gL_law_X7_leak rfl rfl ⟨rfl, rfl⟩ nX7_leak ⟨(Nat.le_of_ble_eq_true rfl), (Nat.le_of_ble_eq_true rfl)⟩ rfl rfl rfl rfl (Nat.le_of_ble_eq_true rfl) ⟨(Nat.le_of_ble_eq_true rfl), (Nat.le_of_ble_eq_true rfl)⟩ (wM_adr ca ae mv mv') 593 rfl ?_
  exact v_icmp_eq h dL_law_593 1198 (by decide) 596 rfl (fun _ => k xv' mv' hR') (fun c => absurd rfl c)
set_option maxRecDepth 100000 in
set_option maxHeartbeats 4000000 in
theorem lc_bare {X : zX} {l : Launch} {G : va_G} {ca : Nat → ClassId} {ad ae : Nat → Nat} {b L : Nat} {xs : Nat → Int32} {i : Int32} {xv : XV} {mv : MV} (h : zOk X l G ca cL_law RL wsL_law 4 room_1) (hX : zScr X b L xs) (h1 : vp_in (i + 1) L) (h2 : vp_in (i + 2) L) (h3 : vp_in (i + 3) L) (h4 : vp_in (i + 4) L) (h5 : vp_in (i + 5) L) (h6 : vp_in (i + 6) L) (hR : Rel xv mv) (k : ∀ xv' mv', Rel xv' mv' → V X G 4 137 3130 (wX ca ad xv' ++ wM ca ae mv') 1198 [(0, .ref b), (1, .ref (ad 0)), (2, .ref (ae 0)), (3, .int i)] []) : V X G 4 137 3130 (wX ca ad xv ++ wM ca ae mv) 598 [(0, .ref b), (1, .ref (ad 0)), (2, .ref (ae 0)), (3, .int i)] [] := by
  obtain ⟨a, xv', mv', hR', t6, t7⟩ := e_bare hR
  refine v_aload_n h dL_law_598 1 rfl 599 rfl ?_
  refine v_swap ?_
  refine v_rcall (n := 0) (As := []) (rest := []) (ci := 6) h dL_law_599 (t6 l G ca ad) gL_law_X6_bare rfl rfl ⟨rfl, rfl⟩ nX6_bare ⟨(Nat.le_of_ble_eq_true rfl), (Nat.le_of_ble_eq_true rfl)⟩ rfl rfl rfl rfl (Nat.le_of_ble_eq_true rfl) ⟨(Nat.le_of_ble_eq_true rfl), (Nat.le_of_ble_eq_true rfl)⟩ (wX_adr ca ad xv xv') 602 rfl ?_
  refine v_aload_n h dL_law_602 2 rfl 603 rfl ?_
  refine v_swap ?_
  refine v_rcall (n := 0) (As := []) (rest := [.int a]) (ci := 7) h dL_law_603 (t7 l G ca ae) gL_law_X7_bare rfl rfl ⟨rfl, rfl⟩ nX7_bare ⟨(Nat.le_of_ble_eq_true rfl), (Nat.le_of_ble_eq_true rfl)⟩ rfl rfl rfl rfl (Nat.le_of_ble_eq_true rfl) ⟨(Nat.le_of_ble_eq_true rfl), (Nat.le_of_ble_eq_true rfl)⟩ (wM_adr ca ae mv mv') 606 rfl ?_
  exact v_icmp_eq h dL_law_606 1198 (by decide) 609 rfl (fun _ => k xv' mv' hR') (fun c => absurd rfl c)
set_option maxRecDepth 100000 in
set_option maxHeartbeats 4000000 in
theorem lc_reach {X : zX} {l : Launch} {G : va_G} {ca : Nat → ClassId} {ad ae : Nat → Nat} {b L : Nat} {xs : Nat → Int32} {i : Int32} {xv : XV} {mv : MV} (h : zOk X l G ca cL_law RL wsL_law 4 room_1) (hX : zScr X b L xs) (h1 : vp_in (i + 1) L) (h2 : vp_in (i + 2) L) (h3 : vp_in (i + 3) L) (h4 : vp_in (i + 4) L) (h5 : vp_in (i + 5) L) (h6 : vp_in (i + 6) L) (hR : Rel xv mv) (k : ∀ xv' mv', Rel xv' mv' → V X G 4 137 3130 (wX ca ad xv' ++ wM ca ae mv') 1198 [(0, .ref b), (1, .ref (ad 0)), (2, .ref (ae 0)), (3, .int i)] []) : V X G 4 137 3130 (wX ca ad xv ++ wM ca ae mv) 611 [(0, .ref b), (1, .ref (ad 0)), (2, .ref (ae 0)), (3, .int i)] [] := by
  obtain ⟨a, xv', mv', hR', t6, t7⟩ := e_reach hR (xs (i + 1).toNatClampNeg)
  refine v_aload_n h dL_law_611 1 rfl 612 rfl ?_
  refine v_aload_n h dL_law_612 0 rfl 613 rfl ?_
  refine v_iload_n h dL_law_613 3 rfl 614 rfl ?_
  refine v_iconst h dL_law_614 1 rfl 615 rfl ?_
  refine v_iadd h dL_law_615 616 rfl ?_
  refine v_sld h hX h1 dL_law_616 617 rfl ?_
  refine v_swap ?_
  refine v_rcall (n := 1) (As := [.int (xs (i + 1).toNatClampNeg)]) (rest := []) (ci := 6) h dL_law_617 (t6 l G ca ad) gL_law_X6_reach rfl rfl ⟨rfl, rfl⟩ nX6_reach ⟨(Nat.le_of_ble_eq_true rfl), (Nat.le_of_ble_eq_true rfl)⟩ rfl rfl rfl rfl (Nat.le_of_ble_eq_true rfl) ⟨(Nat.le_of_ble_eq_true rfl), (Nat.le_of_ble_eq_true rfl)⟩ (wX_adr ca ad xv xv') 620 rfl ?_
  refine v_aload_n h dL_law_620 2 rfl 621 rfl ?_
  refine v_aload_n h dL_law_621 0 rfl 622 rfl ?_
  refine v_iload_n h dL_law_622 3 rfl 623 rfl ?_
  refine v_iconst h dL_law_623 1 rfl 624 rfl ?_
  refine v_iadd h dL_law_624 625 rfl ?_
  refine v_sld h hX h1 dL_law_625 626 rfl ?_
  refine v_swap ?_
  refine v_rcall (n := 1) (As := [.int (xs (i + 1).toNatClampNeg)]) (rest := [.int a]) (ci := 7) h dL_law_626 (t7 l G ca ae) gL_law_X7_reach rfl rfl ⟨rfl, rfl⟩ nX7_reach ⟨(Nat.le_of_ble_eq_true rfl), (Nat.le_of_ble_eq_true rfl)⟩ rfl rfl rfl rfl (Nat.le_of_ble_eq_true rfl) ⟨(Nat.le_of_ble_eq_true rfl), (Nat.le_of_ble_eq_true rfl)⟩ (wM_adr ca ae mv mv') 629 rfl ?_
  exact v_icmp_eq h dL_law_629 1198 (by decide) 632 rfl (fun _ => k xv' mv' hR') (fun c => absurd rfl c)
set_option maxRecDepth 100000 in
set_option maxHeartbeats 4000000 in
theorem lc_cover {X : zX} {l : Launch} {G : va_G} {ca : Nat → ClassId} {ad ae : Nat → Nat} {b L : Nat} {xs : Nat → Int32} {i : Int32} {xv : XV} {mv : MV} (h : zOk X l G ca cL_law RL wsL_law 4 room_1) (hX : zScr X b L xs) (h1 : vp_in (i + 1) L) (h2 : vp_in (i + 2) L) (h3 : vp_in (i + 3) L) (h4 : vp_in (i + 4) L) (h5 : vp_in (i + 5) L) (h6 : vp_in (i + 6) L) (hR : Rel xv mv) (k : ∀ xv' mv', Rel xv' mv' → V X G 4 137 3130 (wX ca ad xv' ++ wM ca ae mv') 1198 [(0, .ref b), (1, .ref (ad 0)), (2, .ref (ae 0)), (3, .int i)] []) : V X G 4 137 3130 (wX ca ad xv ++ wM ca ae mv) 634 [(0, .ref b), (1, .ref (ad 0)), (2, .ref (ae 0)), (3, .int i)] [] := by
  obtain ⟨a, xv', mv', hR', t6, t7⟩ := e_cover hR (xs (i + 1).toNatClampNeg) (xs (i + 2).toNatClampNeg)
  refine v_aload_n h dL_law_634 1 rfl 635 rfl ?_
  refine v_aload_n h dL_law_635 0 rfl 636 rfl ?_
  refine v_iload_n h dL_law_636 3 rfl 637 rfl ?_
  refine v_iconst h dL_law_637 1 rfl 638 rfl ?_
  refine v_iadd h dL_law_638 639 rfl ?_
  refine v_sld h hX h1 dL_law_639 640 rfl ?_
  refine v_aload_n h dL_law_640 0 rfl 641 rfl ?_
  refine v_iload_n h dL_law_641 3 rfl 642 rfl ?_
  refine v_iconst h dL_law_642 2 rfl 643 rfl ?_
  refine v_iadd h dL_law_643 644 rfl ?_
  refine v_sld h hX h2 dL_law_644 645 rfl ?_
  refine v_swap ?_
  refine v_rcall (n := 2) (As := [.int (xs (i + 1).toNatClampNeg), .int (xs (i + 2).toNatClampNeg)]) (rest := []) (ci := 6) h dL_law_645 (t6 l G ca ad) gL_law_X6_cover rfl rfl ⟨rfl, rfl⟩ nX6_cover ⟨(Nat.le_of_ble_eq_true rfl), (Nat.le_of_ble_eq_true rfl)⟩ rfl rfl rfl rfl (Nat.le_of_ble_eq_true rfl) ⟨(Nat.le_of_ble_eq_true rfl), (Nat.le_of_ble_eq_true rfl)⟩ (wX_adr ca ad xv xv') 648 rfl ?_
  refine v_aload_n h dL_law_648 2 rfl 649 rfl ?_
  refine v_aload_n h dL_law_649 0 rfl 650 rfl ?_
  refine v_iload_n h dL_law_650 3 rfl 651 rfl ?_
  refine v_iconst h dL_law_651 1 rfl 652 rfl ?_
  refine v_iadd h dL_law_652 653 rfl ?_
  refine v_sld h hX h1 dL_law_653 654 rfl ?_
  refine v_aload_n h dL_law_654 0 rfl 655 rfl ?_
  refine v_iload_n h dL_law_655 3 rfl 656 rfl ?_
  refine v_iconst h dL_law_656 2 rfl 657 rfl ?_
  refine v_iadd h dL_law_657 658 rfl ?_
  refine v_sld h hX h2 dL_law_658 659 rfl ?_
  refine v_swap ?_
  refine v_rcall (n := 2) (As := [.int (xs (i + 1).toNatClampNeg), .int (xs (i + 2).toNatClampNeg)]) (rest := [.int a]) (ci := 7) h dL_law_659 (t7 l G ca ae) gL_law_X7_cover rfl rfl ⟨rfl, rfl⟩ nX7_cover ⟨(Nat.le_of_ble_eq_true rfl), (Nat.le_of_ble_eq_true rfl)⟩ rfl rfl rfl rfl (Nat.le_of_ble_eq_true rfl) ⟨(Nat.le_of_ble_eq_true rfl), (Nat.le_of_ble_eq_true rfl)⟩ (wM_adr ca ae mv mv') 662 rfl ?_
  exact v_icmp_eq h dL_law_662 1198 (by decide) 665 rfl (fun _ => k xv' mv' hR') (fun c => absurd rfl c)
set_option maxRecDepth 100000 in
set_option maxHeartbeats 4000000 in
theorem lc_relief {X : zX} {l : Launch} {G : va_G} {ca : Nat → ClassId} {ad ae : Nat → Nat} {b L : Nat} {xs : Nat → Int32} {i : Int32} {xv : XV} {mv : MV} (h : zOk X l G ca cL_law RL wsL_law 4 room_1) (hX : zScr X b L xs) (h1 : vp_in (i + 1) L) (h2 : vp_in (i + 2) L) (h3 : vp_in (i + 3) L) (h4 : vp_in (i + 4) L) (h5 : vp_in (i + 5) L) (h6 : vp_in (i + 6) L) (hR : Rel xv mv) (k : ∀ xv' mv', Rel xv' mv' → V X G 4 137 3130 (wX ca ad xv' ++ wM ca ae mv') 1198 [(0, .ref b), (1, .ref (ad 0)), (2, .ref (ae 0)), (3, .int i)] []) : V X G 4 137 3130 (wX ca ad xv ++ wM ca ae mv) 667 [(0, .ref b), (1, .ref (ad 0)), (2, .ref (ae 0)), (3, .int i)] [] := by
  obtain ⟨a, xv', mv', hR', t6, t7⟩ := e_relief hR (xs (i + 1).toNatClampNeg) (xs (i + 2).toNatClampNeg)
  refine v_aload_n h dL_law_667 1 rfl 668 rfl ?_
  refine v_aload_n h dL_law_668 0 rfl 669 rfl ?_
  refine v_iload_n h dL_law_669 3 rfl 670 rfl ?_
  refine v_iconst h dL_law_670 1 rfl 671 rfl ?_
  refine v_iadd h dL_law_671 672 rfl ?_
  refine v_sld h hX h1 dL_law_672 673 rfl ?_
  refine v_aload_n h dL_law_673 0 rfl 674 rfl ?_
  refine v_iload_n h dL_law_674 3 rfl 675 rfl ?_
  refine v_iconst h dL_law_675 2 rfl 676 rfl ?_
  refine v_iadd h dL_law_676 677 rfl ?_
  refine v_sld h hX h2 dL_law_677 678 rfl ?_
  refine v_swap ?_
  refine v_rcall (n := 2) (As := [.int (xs (i + 1).toNatClampNeg), .int (xs (i + 2).toNatClampNeg)]) (rest := []) (ci := 6) h dL_law_678 (t6 l G ca ad) gL_law_X6_relief rfl rfl ⟨rfl, rfl⟩ nX6_relief ⟨(Nat.le_of_ble_eq_true rfl), (Nat.le_of_ble_eq_true rfl)⟩ rfl rfl rfl rfl (Nat.le_of_ble_eq_true rfl) ⟨(Nat.le_of_ble_eq_true rfl), (Nat.le_of_ble_eq_true rfl)⟩ (wX_adr ca ad xv xv') 681 rfl ?_
  refine v_aload_n h dL_law_681 2 rfl 682 rfl ?_
  refine v_aload_n h dL_law_682 0 rfl 683 rfl ?_
  refine v_iload_n h dL_law_683 3 rfl 684 rfl ?_
  refine v_iconst h dL_law_684 1 rfl 685 rfl ?_
  refine v_iadd h dL_law_685 686 rfl ?_
  refine v_sld h hX h1 dL_law_686 687 rfl ?_
  refine v_aload_n h dL_law_687 0 rfl 688 rfl ?_
  refine v_iload_n h dL_law_688 3 rfl 689 rfl ?_
  refine v_iconst h dL_law_689 2 rfl 690 rfl ?_
  refine v_iadd h dL_law_690 691 rfl ?_
  refine v_sld h hX h2 dL_law_691 692 rfl ?_
  refine v_swap ?_
  refine v_rcall (n := 2) (As := [.int (xs (i + 1).toNatClampNeg), .int (xs (i + 2).toNatClampNeg)]) (rest := [.int a]) (ci := 7) h dL_law_692 (t7 l G ca ae) gL_law_X7_relief rfl rfl ⟨rfl, rfl⟩ nX7_relief ⟨(Nat.le_of_ble_eq_true rfl), (Nat.le_of_ble_eq_true rfl)⟩ rfl rfl rfl rfl (Nat.le_of_ble_eq_true rfl) ⟨(Nat.le_of_ble_eq_true rfl), (Nat.le_of_ble_eq_true rfl)⟩ (wM_adr ca ae mv mv') 695 rfl ?_
  exact v_icmp_eq h dL_law_695 1198 (by decide) 698 rfl (fun _ => k xv' mv' hR') (fun c => absurd rfl c)
set_option maxRecDepth 100000 in
set_option maxHeartbeats 4000000 in
theorem lc_share {X : zX} {l : Launch} {G : va_G} {ca : Nat → ClassId} {ad ae : Nat → Nat} {b L : Nat} {xs : Nat → Int32} {i : Int32} {xv : XV} {mv : MV} (h : zOk X l G ca cL_law RL wsL_law 4 room_1) (hX : zScr X b L xs) (h1 : vp_in (i + 1) L) (h2 : vp_in (i + 2) L) (h3 : vp_in (i + 3) L) (h4 : vp_in (i + 4) L) (h5 : vp_in (i + 5) L) (h6 : vp_in (i + 6) L) (hR : Rel xv mv) (k : ∀ xv' mv', Rel xv' mv' → V X G 4 137 3130 (wX ca ad xv' ++ wM ca ae mv') 1198 [(0, .ref b), (1, .ref (ad 0)), (2, .ref (ae 0)), (3, .int i)] []) : V X G 4 137 3130 (wX ca ad xv ++ wM ca ae mv) 700 [(0, .ref b), (1, .ref (ad 0)), (2, .ref (ae 0)), (3, .int i)] [] := by
  obtain ⟨a, xv', mv', hR', t6, t7⟩ := e_share hR (xs (i + 1).toNatClampNeg) (xs (i + 2).toNatClampNeg) (xs (i + 3).toNatClampNeg)
  refine v_aload_n h dL_law_700 1 rfl 701 rfl ?_
  refine v_aload_n h dL_law_701 0 rfl 702 rfl ?_
  refine v_iload_n h dL_law_702 3 rfl 703 rfl ?_
  refine v_iconst h dL_law_703 1 rfl 704 rfl ?_
  refine v_iadd h dL_law_704 705 rfl ?_
  refine v_sld h hX h1 dL_law_705 706 rfl ?_
  refine v_aload_n h dL_law_706 0 rfl 707 rfl ?_
  refine v_iload_n h dL_law_707 3 rfl 708 rfl ?_
  refine v_iconst h dL_law_708 2 rfl 709 rfl ?_
  refine v_iadd h dL_law_709 710 rfl ?_
  refine v_sld h hX h2 dL_law_710 711 rfl ?_
  refine v_aload_n h dL_law_711 0 rfl 712 rfl ?_
  refine v_iload_n h dL_law_712 3 rfl 713 rfl ?_
  refine v_iconst h dL_law_713 3 rfl 714 rfl ?_
  refine v_iadd h dL_law_714 715 rfl ?_
  refine v_sld h hX h3 dL_law_715 716 rfl ?_
  refine v_swap ?_
  refine v_rcall (n := 3) (As := [.int (xs (i + 1).toNatClampNeg), .int (xs (i + 2).toNatClampNeg), .int (xs (i + 3).toNatClampNeg)]) (rest := []) (ci := 6) h dL_law_716 (t6 l G ca ad) gL_law_X6_share rfl rfl ⟨rfl, rfl⟩ nX6_share ⟨(Nat.le_of_ble_eq_true rfl), (Nat.le_of_ble_eq_true rfl)⟩ rfl rfl rfl rfl (Nat.le_of_ble_eq_true rfl) ⟨(Nat.le_of_ble_eq_true rfl), (Nat.le_of_ble_eq_true rfl)⟩ (wX_adr ca ad xv xv') 719 rfl ?_
  refine v_aload_n h dL_law_719 2 rfl 720 rfl ?_
  refine v_aload_n h dL_law_720 0 rfl 721 rfl ?_
  refine v_iload_n h dL_law_721 3 rfl 722 rfl ?_
  refine v_iconst h dL_law_722 1 rfl 723 rfl ?_
  refine v_iadd h dL_law_723 724 rfl ?_
  refine v_sld h hX h1 dL_law_724 725 rfl ?_
  refine v_aload_n h dL_law_725 0 rfl 726 rfl ?_
  refine v_iload_n h dL_law_726 3 rfl 727 rfl ?_
  refine v_iconst h dL_law_727 2 rfl 728 rfl ?_
  refine v_iadd h dL_law_728 729 rfl ?_
  refine v_sld h hX h2 dL_law_729 730 rfl ?_
  refine v_aload_n h dL_law_730 0 rfl 731 rfl ?_
  refine v_iload_n h dL_law_731 3 rfl 732 rfl ?_
  refine v_iconst h dL_law_732 3 rfl 733 rfl ?_
  refine v_iadd h dL_law_733 734 rfl ?_
  refine v_sld h hX h3 dL_law_734 735 rfl ?_
  refine v_swap ?_
  refine v_rcall (n := 3) (As := [.int (xs (i + 1).toNatClampNeg), .int (xs (i + 2).toNatClampNeg), .int (xs (i + 3).toNatClampNeg)]) (rest := [.int a]) (ci := 7) h dL_law_735 (t7 l G ca ae) gL_law_X7_share rfl rfl ⟨rfl, rfl⟩ nX7_share ⟨(Nat.le_of_ble_eq_true rfl), (Nat.le_of_ble_eq_true rfl)⟩ rfl rfl rfl rfl (Nat.le_of_ble_eq_true rfl) ⟨(Nat.le_of_ble_eq_true rfl), (Nat.le_of_ble_eq_true rfl)⟩ (wM_adr ca ae mv mv') 738 rfl ?_
  exact v_icmp_eq h dL_law_738 1198 (by decide) 741 rfl (fun _ => k xv' mv' hR') (fun c => absurd rfl c)
set_option maxRecDepth 100000 in
set_option maxHeartbeats 4000000 in
theorem lc_worst {X : zX} {l : Launch} {G : va_G} {ca : Nat → ClassId} {ad ae : Nat → Nat} {b L : Nat} {xs : Nat → Int32} {i : Int32} {xv : XV} {mv : MV} (h : zOk X l G ca cL_law RL wsL_law 4 room_1) (hX : zScr X b L xs) (h1 : vp_in (i + 1) L) (h2 : vp_in (i + 2) L) (h3 : vp_in (i + 3) L) (h4 : vp_in (i + 4) L) (h5 : vp_in (i + 5) L) (h6 : vp_in (i + 6) L) (hR : Rel xv mv) (k : ∀ xv' mv', Rel xv' mv' → V X G 4 137 3130 (wX ca ad xv' ++ wM ca ae mv') 1198 [(0, .ref b), (1, .ref (ad 0)), (2, .ref (ae 0)), (3, .int i)] []) : V X G 4 137 3130 (wX ca ad xv ++ wM ca ae mv) 743 [(0, .ref b), (1, .ref (ad 0)), (2, .ref (ae 0)), (3, .int i)] [] := by
  obtain ⟨a, xv', mv', hR', t6, t7⟩ := e_worst hR (xs (i + 1).toNatClampNeg)
  refine v_aload_n h dL_law_743 1 rfl 744 rfl ?_
  refine v_aload_n h dL_law_744 0 rfl 745 rfl ?_
  refine v_iload_n h dL_law_745 3 rfl 746 rfl ?_
  refine v_iconst h dL_law_746 1 rfl 747 rfl ?_
  refine v_iadd h dL_law_747 748 rfl ?_
  refine v_sld h hX h1 dL_law_748 749 rfl ?_
  refine v_swap ?_
  refine v_rcall (n := 1) (As := [.int (xs (i + 1).toNatClampNeg)]) (rest := []) (ci := 6) h dL_law_749 (t6 l G ca ad) gL_law_X6_worst rfl rfl ⟨rfl, rfl⟩ nX6_worst ⟨(Nat.le_of_ble_eq_true rfl), (Nat.le_of_ble_eq_true rfl)⟩ rfl rfl rfl rfl (Nat.le_of_ble_eq_true rfl) ⟨(Nat.le_of_ble_eq_true rfl), (Nat.le_of_ble_eq_true rfl)⟩ (wX_adr ca ad xv xv') 752 rfl ?_
  refine v_aload_n h dL_law_752 2 rfl 753 rfl ?_
  refine v_aload_n h dL_law_753 0 rfl 754 rfl ?_
  refine v_iload_n h dL_law_754 3 rfl 755 rfl ?_
  refine v_iconst h dL_law_755 1 rfl 756 rfl ?_
  refine v_iadd h dL_law_756 757 rfl ?_
  refine v_sld h hX h1 dL_law_757 758 rfl ?_
  refine v_swap ?_
  refine v_rcall (n := 1) (As := [.int (xs (i + 1).toNatClampNeg)]) (rest := [.int a]) (ci := 7) h dL_law_758 (t7 l G ca ae) gL_law_X7_worst rfl rfl ⟨rfl, rfl⟩ nX7_worst ⟨(Nat.le_of_ble_eq_true rfl), (Nat.le_of_ble_eq_true rfl)⟩ rfl rfl rfl rfl (Nat.le_of_ble_eq_true rfl) ⟨(Nat.le_of_ble_eq_true rfl), (Nat.le_of_ble_eq_true rfl)⟩ (wM_adr ca ae mv mv') 761 rfl ?_
  exact v_icmp_eq h dL_law_761 1198 (by decide) 764 rfl (fun _ => k xv' mv' hR') (fun c => absurd rfl c)
set_option maxRecDepth 100000 in
set_option maxHeartbeats 4000000 in
theorem lc_hot {X : zX} {l : Launch} {G : va_G} {ca : Nat → ClassId} {ad ae : Nat → Nat} {b L : Nat} {xs : Nat → Int32} {i : Int32} {xv : XV} {mv : MV} (h : zOk X l G ca cL_law RL wsL_law 4 room_1) (hX : zScr X b L xs) (h1 : vp_in (i + 1) L) (h2 : vp_in (i + 2) L) (h3 : vp_in (i + 3) L) (h4 : vp_in (i + 4) L) (h5 : vp_in (i + 5) L) (h6 : vp_in (i + 6) L) (hR : Rel xv mv) (k : ∀ xv' mv', Rel xv' mv' → V X G 4 137 3130 (wX ca ad xv' ++ wM ca ae mv') 1198 [(0, .ref b), (1, .ref (ad 0)), (2, .ref (ae 0)), (3, .int i)] []) : V X G 4 137 3130 (wX ca ad xv ++ wM ca ae mv) 766 [(0, .ref b), (1, .ref (ad 0)), (2, .ref (ae 0)), (3, .int i)] [] := by
  obtain ⟨a, xv', mv', hR', t6, t7⟩ := e_hot hR (xs (i + 1).toNatClampNeg)
  refine v_aload_n h dL_law_766 1 rfl 767 rfl ?_
  refine v_aload_n h dL_law_767 0 rfl 768 rfl ?_
  refine v_iload_n h dL_law_768 3 rfl 769 rfl ?_
  refine v_iconst h dL_law_769 1 rfl 770 rfl ?_
  refine v_iadd h dL_law_770 771 rfl ?_
  refine v_sld h hX h1 dL_law_771 772 rfl ?_
  refine v_swap ?_
  refine v_rcall (n := 1) (As := [.int (xs (i + 1).toNatClampNeg)]) (rest := []) (ci := 6) h dL_law_772 (t6 l G ca ad) gL_law_X6_hot rfl rfl ⟨rfl, rfl⟩ nX6_hot ⟨(Nat.le_of_ble_eq_true rfl), (Nat.le_of_ble_eq_true rfl)⟩ rfl rfl rfl rfl (Nat.le_of_ble_eq_true rfl) ⟨(Nat.le_of_ble_eq_true rfl), (Nat.le_of_ble_eq_true rfl)⟩ (wX_adr ca ad xv xv') 775 rfl ?_
  refine v_aload_n h dL_law_775 2 rfl 776 rfl ?_
  refine v_aload_n h dL_law_776 0 rfl 777 rfl ?_
  refine v_iload_n h dL_law_777 3 rfl 778 rfl ?_
  refine v_iconst h dL_law_778 1 rfl 779 rfl ?_
  refine v_iadd h dL_law_779 780 rfl ?_
  refine v_sld h hX h1 dL_law_780 781 rfl ?_
  refine v_swap ?_
  refine v_rcall (n := 1) (As := [.int (xs (i + 1).toNatClampNeg)]) (rest := [.int a]) (ci := 7) h dL_law_781 (t7 l G ca ae) gL_law_X7_hot rfl rfl ⟨rfl, rfl⟩ nX7_hot ⟨(Nat.le_of_ble_eq_true rfl), (Nat.le_of_ble_eq_true rfl)⟩ rfl rfl rfl rfl (Nat.le_of_ble_eq_true rfl) ⟨(Nat.le_of_ble_eq_true rfl), (Nat.le_of_ble_eq_true rfl)⟩ (wM_adr ca ae mv mv') 784 rfl ?_
  exact v_icmp_eq h dL_law_784 1198 (by decide) 787 rfl (fun _ => k xv' mv' hR') (fun c => absurd rfl c)
set_option maxRecDepth 100000 in
set_option maxHeartbeats 4000000 in
theorem lc_bursts {X : zX} {l : Launch} {G : va_G} {ca : Nat → ClassId} {ad ae : Nat → Nat} {b L : Nat} {xs : Nat → Int32} {i : Int32} {xv : XV} {mv : MV} (h : zOk X l G ca cL_law RL wsL_law 4 room_1) (hX : zScr X b L xs) (h1 : vp_in (i + 1) L) (h2 : vp_in (i + 2) L) (h3 : vp_in (i + 3) L) (h4 : vp_in (i + 4) L) (h5 : vp_in (i + 5) L) (h6 : vp_in (i + 6) L) (hR : Rel xv mv) (k : ∀ xv' mv', Rel xv' mv' → V X G 4 137 3130 (wX ca ad xv' ++ wM ca ae mv') 1198 [(0, .ref b), (1, .ref (ad 0)), (2, .ref (ae 0)), (3, .int i)] []) : V X G 4 137 3130 (wX ca ad xv ++ wM ca ae mv) 789 [(0, .ref b), (1, .ref (ad 0)), (2, .ref (ae 0)), (3, .int i)] [] := by
  obtain ⟨a, xv', mv', hR', t6, t7⟩ := e_bursts hR (xs (i + 1).toNatClampNeg) (xs (i + 2).toNatClampNeg) (xs (i + 3).toNatClampNeg)
  refine v_aload_n h dL_law_789 1 rfl 790 rfl ?_
  refine v_aload_n h dL_law_790 0 rfl 791 rfl ?_
  refine v_iload_n h dL_law_791 3 rfl 792 rfl ?_
  refine v_iconst h dL_law_792 1 rfl 793 rfl ?_
  refine v_iadd h dL_law_793 794 rfl ?_
  refine v_sld h hX h1 dL_law_794 795 rfl ?_
  refine v_aload_n h dL_law_795 0 rfl 796 rfl ?_
  refine v_iload_n h dL_law_796 3 rfl 797 rfl ?_
  refine v_iconst h dL_law_797 2 rfl 798 rfl ?_
  refine v_iadd h dL_law_798 799 rfl ?_
  refine v_sld h hX h2 dL_law_799 800 rfl ?_
  refine v_aload_n h dL_law_800 0 rfl 801 rfl ?_
  refine v_iload_n h dL_law_801 3 rfl 802 rfl ?_
  refine v_iconst h dL_law_802 3 rfl 803 rfl ?_
  refine v_iadd h dL_law_803 804 rfl ?_
  refine v_sld h hX h3 dL_law_804 805 rfl ?_
  refine v_swap ?_
  refine v_rcall (n := 3) (As := [.int (xs (i + 1).toNatClampNeg), .int (xs (i + 2).toNatClampNeg), .int (xs (i + 3).toNatClampNeg)]) (rest := []) (ci := 6) h dL_law_805 (t6 l G ca ad) gL_law_X6_bursts rfl rfl ⟨rfl, rfl⟩ nX6_bursts ⟨(Nat.le_of_ble_eq_true rfl), (Nat.le_of_ble_eq_true rfl)⟩ rfl rfl rfl rfl (Nat.le_of_ble_eq_true rfl) ⟨(Nat.le_of_ble_eq_true rfl), (Nat.le_of_ble_eq_true rfl)⟩ (wX_adr ca ad xv xv') 808 rfl ?_
  refine v_aload_n h dL_law_808 2 rfl 809 rfl ?_
  refine v_aload_n h dL_law_809 0 rfl 810 rfl ?_
  refine v_iload_n h dL_law_810 3 rfl 811 rfl ?_
  refine v_iconst h dL_law_811 1 rfl 812 rfl ?_
  refine v_iadd h dL_law_812 813 rfl ?_
  refine v_sld h hX h1 dL_law_813 814 rfl ?_
  refine v_aload_n h dL_law_814 0 rfl 815 rfl ?_
  refine v_iload_n h dL_law_815 3 rfl 816 rfl ?_
  refine v_iconst h dL_law_816 2 rfl 817 rfl ?_
  refine v_iadd h dL_law_817 818 rfl ?_
  refine v_sld h hX h2 dL_law_818 819 rfl ?_
  refine v_aload_n h dL_law_819 0 rfl 820 rfl ?_
  refine v_iload_n h dL_law_820 3 rfl 821 rfl ?_
  refine v_iconst h dL_law_821 3 rfl 822 rfl ?_
  refine v_iadd h dL_law_822 823 rfl ?_
  refine v_sld h hX h3 dL_law_823 824 rfl ?_
  refine v_swap ?_
  refine v_rcall (n := 3) (As := [.int (xs (i + 1).toNatClampNeg), .int (xs (i + 2).toNatClampNeg), .int (xs (i + 3).toNatClampNeg)]) (rest := [.int a]) (ci := 7) h dL_law_824 (t7 l G ca ae) gL_law_X7_bursts rfl rfl ⟨rfl, rfl⟩ nX7_bursts ⟨(Nat.le_of_ble_eq_true rfl), (Nat.le_of_ble_eq_true rfl)⟩ rfl rfl rfl rfl (Nat.le_of_ble_eq_true rfl) ⟨(Nat.le_of_ble_eq_true rfl), (Nat.le_of_ble_eq_true rfl)⟩ (wM_adr ca ae mv mv') 827 rfl ?_
  exact v_icmp_eq h dL_law_827 1198 (by decide) 830 rfl (fun _ => k xv' mv' hR') (fun c => absurd rfl c)
