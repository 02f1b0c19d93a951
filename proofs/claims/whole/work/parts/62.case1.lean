section
variable {x : gm_Cx} {G : Gm} {b L i B : Nat} {xs : Nat → Int32}
theorem gl_c11 (C : gm_X x cL_law 4 RL (some .boolean) 10) (S : gl_S x b L xs) (hi : i + 4 ≤ L) (hB : B + 1000000 < 2147483647) (hW : WI B G) (K : ∀ G2, WI (B + 500000) G2 → gm_V x G2 1155 (gl_lv x b i) []) : gm_V x G 533 (gl_lv x b i) [] := by
  obtain ⟨v, G1, G2, e6, e7, hW2⟩ := w_11 hB hW (xs (i + 1))
  refine gv_aload_n C rfl 2 rfl dL_law_533 534 rfl ?_
  refine gl_arg C S 1 (by decide +kernel) (by omega) dL_law_534 dL_law_535 dL_law_536 dL_law_537 dL_law_538 539 rfl ?_
  refine gv_callVi (v := v) C mc_yX6_offer ⟨mi_yX6_offer, me_yX6_offer⟩ (by decide) mkL_60 gi_6 ⟨_, rfl⟩ rfl rfl (kX6_offer (cx_w x) _  G (v, G1) e6) rfl rfl (Nat.le_of_ble_eq_true rfl) dL_law_539 542 rfl ?_
  refine gv_aload_n C rfl 1 rfl dL_law_542 543 rfl ?_
  refine gl_arg C S 1 (by decide +kernel) (by omega) dL_law_543 dL_law_544 dL_law_545 dL_law_546 dL_law_547 548 rfl ?_
  refine gv_callVi (v := v) C mc_yX7_offer ⟨mi_yX7_offer, me_yX7_offer⟩ (by decide) mkL_63 gi_7 ⟨_, rfl⟩ rfl rfl (kX7_offer (cx_w x) _  G1 (v, G2) e7) rfl rfl (Nat.le_of_ble_eq_true rfl) dL_law_548 551 rfl ?_
  exact gv_icmp_eq C dL_law_551 1155 (by decide) 554 rfl (fun _ => K G2 hW2) (fun c => absurd rfl c)
theorem gl_c12_0 (C : gm_X x cL_law 4 RL (some .boolean) 10) (S : gl_S x b L xs) (hi : i + 4 ≤ L) (hB : B + 1000000 < 2147483647) (hW : WI B G) (K : ∀ G2, WI (B + 500000) G2 → gm_V x G2 1155 (gl_lv x b i) []) (hz : xs (i + 3) = 0) : gm_V x G 556 (gl_lv x b i) [] := by
  obtain ⟨v, G1, G2, e6, e7, hW2⟩ := w_12 hB hW (xs (i + 1)) (xs (i + 2)) 0
  refine gv_aload_n C rfl 2 rfl dL_law_556 557 rfl ?_
  refine gl_arg C S 1 (by decide +kernel) (by omega) dL_law_557 dL_law_558 dL_law_559 dL_law_560 dL_law_561 562 rfl ?_
  refine gl_arg C S 2 (by decide +kernel) (by omega) dL_law_562 dL_law_563 dL_law_564 dL_law_565 dL_law_566 567 rfl ?_
  refine gl_arg C S 3 (by decide +kernel) (by omega) dL_law_567 dL_law_568 dL_law_569 dL_law_570 dL_law_571 572 rfl ?_
  refine gv_if_eq C dL_law_572 579 (by decide) 575 rfl (fun _ => ?_) (fun c => absurd hz c)
  refine gv_iconst C 0 (by decide +kernel) dL_law_579 580 rfl ?_
  refine gv_callVi (v := v) C mc_yX6_answer ⟨mi_yX6_answer, me_yX6_answer⟩ (by decide) mkL_64 gi_6 ⟨_, rfl⟩ rfl rfl (kX6_answer (cx_w x) _ _ _  G (v, G1) e6) rfl rfl (Nat.le_of_ble_eq_true rfl) dL_law_580 583 rfl ?_
  refine gv_aload_n C rfl 1 rfl dL_law_583 584 rfl ?_
  refine gl_arg C S 1 (by decide +kernel) (by omega) dL_law_584 dL_law_585 dL_law_586 dL_law_587 dL_law_588 589 rfl ?_
  refine gl_arg C S 2 (by decide +kernel) (by omega) dL_law_589 dL_law_590 dL_law_591 dL_law_592 dL_law_593 594 rfl ?_
  refine gl_arg C S 3 (by decide +kernel) (by omega) dL_law_594 dL_law_595 dL_law_596 dL_law_597 dL_law_598 599 rfl ?_
  refine gv_if_eq C dL_law_599 606 (by decide) 602 rfl (fun _ => ?_) (fun c => absurd hz c)
  refine gv_iconst C 0 (by decide +kernel) dL_law_606 607 rfl ?_
  refine gv_callVi (v := v) C mc_yX7_answer ⟨mi_yX7_answer, me_yX7_answer⟩ (by decide) mkL_68 gi_7 ⟨_, rfl⟩ rfl rfl (kX7_answer (cx_w x) _ _ _  G1 (v, G2) e7) rfl rfl (Nat.le_of_ble_eq_true rfl) dL_law_607 610 rfl ?_
  exact gv_icmp_eq C dL_law_610 1155 (by decide) 613 rfl (fun _ => K G2 hW2) (fun c => absurd rfl c)
theorem gl_c12_1 (C : gm_X x cL_law 4 RL (some .boolean) 10) (S : gl_S x b L xs) (hi : i + 4 ≤ L) (hB : B + 1000000 < 2147483647) (hW : WI B G) (K : ∀ G2, WI (B + 500000) G2 → gm_V x G2 1155 (gl_lv x b i) []) (hz : ¬ xs (i + 3) = 0) : gm_V x G 556 (gl_lv x b i) [] := by
  obtain ⟨v, G1, G2, e6, e7, hW2⟩ := w_12 hB hW (xs (i + 1)) (xs (i + 2)) 1
  refine gv_aload_n C rfl 2 rfl dL_law_556 557 rfl ?_
  refine gl_arg C S 1 (by decide +kernel) (by omega) dL_law_557 dL_law_558 dL_law_559 dL_law_560 dL_law_561 562 rfl ?_
  refine gl_arg C S 2 (by decide +kernel) (by omega) dL_law_562 dL_law_563 dL_law_564 dL_law_565 dL_law_566 567 rfl ?_
  refine gl_arg C S 3 (by decide +kernel) (by omega) dL_law_567 dL_law_568 dL_law_569 dL_law_570 dL_law_571 572 rfl ?_
  refine gv_if_eq C dL_law_572 579 (by decide) 575 rfl (fun c => absurd c hz) (fun _ => ?_)
  refine gv_iconst C 1 (by decide +kernel) dL_law_575 576 rfl ?_
  refine gv_goto C dL_law_576 580 (by decide) ?_
  refine gv_callVi (v := v) C mc_yX6_answer ⟨mi_yX6_answer, me_yX6_answer⟩ (by decide) mkL_64 gi_6 ⟨_, rfl⟩ rfl rfl (kX6_answer (cx_w x) _ _ _  G (v, G1) e6) rfl rfl (Nat.le_of_ble_eq_true rfl) dL_law_580 583 rfl ?_
  refine gv_aload_n C rfl 1 rfl dL_law_583 584 rfl ?_
  refine gl_arg C S 1 (by decide +kernel) (by omega) dL_law_584 dL_law_585 dL_law_586 dL_law_587 dL_law_588 589 rfl ?_
  refine gl_arg C S 2 (by decide +kernel) (by omega) dL_law_589 dL_law_590 dL_law_591 dL_law_592 dL_law_593 594 rfl ?_
  refine gl_arg C S 3 (by decide +kernel) (by omega) dL_law_594 dL_law_595 dL_law_596 dL_law_597 dL_law_598 599 rfl ?_
  refine gv_if_eq C dL_law_599 606 (by decide) 602 rfl (fun c => absurd c hz) (fun _ => ?_)
  refine gv_iconst C 1 (by decide +kernel) dL_law_602 603 rfl ?_
  refine gv_goto C dL_law_603 607 (by decide) ?_
  refine gv_callVi (v := v) C mc_yX7_answer ⟨mi_yX7_answer, me_yX7_answer⟩ (by decide) mkL_68 gi_7 ⟨_, rfl⟩ rfl rfl (kX7_answer (cx_w x) _ _ _  G1 (v, G2) e7) rfl rfl (Nat.le_of_ble_eq_true rfl) dL_law_607 610 rfl ?_
  exact gv_icmp_eq C dL_law_610 1155 (by decide) 613 rfl (fun _ => K G2 hW2) (fun c => absurd rfl c)
theorem gl_c12 (C : gm_X x cL_law 4 RL (some .boolean) 10) (S : gl_S x b L xs) (hi : i + 4 ≤ L) (hB : B + 1000000 < 2147483647) (hW : WI B G) (K : ∀ G2, WI (B + 500000) G2 → gm_V x G2 1155 (gl_lv x b i) []) : gm_V x G 556 (gl_lv x b i) [] := by
  by_cases hz : xs (i + 3) = 0
  · exact gl_c12_0 C S hi hB hW K hz
  · exact gl_c12_1 C S hi hB hW K hz
theorem gl_c13 (C : gm_X x cL_law 4 RL (some .boolean) 10) (S : gl_S x b L xs) (hi : i + 4 ≤ L) (hB : B + 1000000 < 2147483647) (hW : WI B G) (K : ∀ G2, WI (B + 500000) G2 → gm_V x G2 1155 (gl_lv x b i) []) : gm_V x G 615 (gl_lv x b i) [] := by
  obtain ⟨v, G1, G2, e6, e7, hW2⟩ := w_13 hB hW (xs (i + 1)) (xs (i + 2))
  refine gv_aload_n C rfl 2 rfl dL_law_615 616 rfl ?_
  refine gl_arg C S 1 (by decide +kernel) (by omega) dL_law_616 dL_law_617 dL_law_618 dL_law_619 dL_law_620 621 rfl ?_
  refine gl_arg C S 2 (by decide +kernel) (by omega) dL_law_621 dL_law_622 dL_law_623 dL_law_624 dL_law_625 626 rfl ?_
  refine gv_callVi (v := v) C mc_yX6_cancel ⟨mi_yX6_cancel, me_yX6_cancel⟩ (by decide) mkL_69 gi_6 ⟨_, rfl⟩ rfl rfl (kX6_cancel (cx_w x) _ _  G (v, G1) e6) rfl rfl (Nat.le_of_ble_eq_true rfl) dL_law_626 629 rfl ?_
  refine gv_aload_n C rfl 1 rfl dL_law_629 630 rfl ?_
  refine gl_arg C S 1 (by decide +kernel) (by omega) dL_law_630 dL_law_631 dL_law_632 dL_law_633 dL_law_634 635 rfl ?_
  refine gl_arg C S 2 (by decide +kernel) (by omega) dL_law_635 dL_law_636 dL_law_637 dL_law_638 dL_law_639 640 rfl ?_
  refine gv_callVi (v := v) C mc_yX7_cancel ⟨mi_yX7_cancel, me_yX7_cancel⟩ (by decide) mkL_72 gi_7 ⟨_, rfl⟩ rfl rfl (kX7_cancel (cx_w x) _ _  G1 (v, G2) e7) rfl rfl (Nat.le_of_ble_eq_true rfl) dL_law_640 643 rfl ?_
  exact gv_icmp_eq C dL_law_643 1155 (by decide) 646 rfl (fun _ => K G2 hW2) (fun c => absurd rfl c)
theorem gl_c14 (C : gm_X x cL_law 4 RL (some .boolean) 10) (S : gl_S x b L xs) (hi : i + 4 ≤ L) (hB : B + 1000000 < 2147483647) (hW : WI B G) (K : ∀ G2, WI (B + 500000) G2 → gm_V x G2 1155 (gl_lv x b i) []) : gm_V x G 648 (gl_lv x b i) [] := by
  obtain ⟨v, G1, G2, e6, e7, hW2⟩ := w_14 hB hW (xs (i + 1))
  refine gv_aload_n C rfl 2 rfl dL_law_648 649 rfl ?_
  refine gl_arg C S 1 (by decide +kernel) (by omega) dL_law_649 dL_law_650 dL_law_651 dL_law_652 dL_law_653 654 rfl ?_
  refine gv_callVi (v := v) C mc_yX6_depart ⟨mi_yX6_depart, me_yX6_depart⟩ (by decide) mkL_73 gi_6 ⟨_, rfl⟩ rfl rfl (kX6_depart (cx_w x) _  G (v, G1) e6) rfl rfl (Nat.le_of_ble_eq_true rfl) dL_law_654 657 rfl ?_
  refine gv_aload_n C rfl 1 rfl dL_law_657 658 rfl ?_
  refine gl_arg C S 1 (by decide +kernel) (by omega) dL_law_658 dL_law_659 dL_law_660 dL_law_661 dL_law_662 663 rfl ?_
  refine gv_callVi (v := v) C mc_yX7_depart ⟨mi_yX7_depart, me_yX7_depart⟩ (by decide) mkL_76 gi_7 ⟨_, rfl⟩ rfl rfl (kX7_depart (cx_w x) _  G1 (v, G2) e7) rfl rfl (Nat.le_of_ble_eq_true rfl) dL_law_663 666 rfl ?_
  exact gv_icmp_eq C dL_law_666 1155 (by decide) 669 rfl (fun _ => K G2 hW2) (fun c => absurd rfl c)
theorem gl_c15 (C : gm_X x cL_law 4 RL (some .boolean) 10) (S : gl_S x b L xs) (hi : i + 4 ≤ L) (hB : B + 1000000 < 2147483647) (hW : WI B G) (K : ∀ G2, WI (B + 500000) G2 → gm_V x G2 1155 (gl_lv x b i) []) : gm_V x G 671 (gl_lv x b i) [] := by
  obtain ⟨v, G1, G2, e6, e7, hW2⟩ := w_15 hB hW (xs (i + 1)) (xs (i + 2))
  refine gv_aload_n C rfl 2 rfl dL_law_671 672 rfl ?_
  refine gl_arg C S 1 (by decide +kernel) (by omega) dL_law_672 dL_law_673 dL_law_674 dL_law_675 dL_law_676 677 rfl ?_
  refine gl_arg C S 2 (by decide +kernel) (by omega) dL_law_677 dL_law_678 dL_law_679 dL_law_680 dL_law_681 682 rfl ?_
  refine gv_callVi (v := v) C mc_yX6_admit ⟨mi_yX6_admit, me_yX6_admit⟩ (by decide) mkL_77 gi_6 ⟨_, rfl⟩ rfl rfl (kX6_admit (cx_w x) _ _  G (v, G1) e6) rfl rfl (Nat.le_of_ble_eq_true rfl) dL_law_682 685 rfl ?_
  refine gv_aload_n C rfl 1 rfl dL_law_685 686 rfl ?_
  refine gl_arg C S 1 (by decide +kernel) (by omega) dL_law_686 dL_law_687 dL_law_688 dL_law_689 dL_law_690 691 rfl ?_
  refine gl_arg C S 2 (by decide +kernel) (by omega) dL_law_691 dL_law_692 dL_law_693 dL_law_694 dL_law_695 696 rfl ?_
  refine gv_callVi (v := v) C mc_yX7_admit ⟨mi_yX7_admit, me_yX7_admit⟩ (by decide) mkL_80 gi_7 ⟨_, rfl⟩ rfl rfl (kX7_admit (cx_w x) _ _  G1 (v, G2) e7) rfl rfl (Nat.le_of_ble_eq_true rfl) dL_law_696 699 rfl ?_
  exact gv_icmp_eq C dL_law_699 1155 (by decide) 702 rfl (fun _ => K G2 hW2) (fun c => absurd rfl c)
theorem gl_c16 (C : gm_X x cL_law 4 RL (some .boolean) 10) (S : gl_S x b L xs) (hi : i + 4 ≤ L) (hB : B + 1000000 < 2147483647) (hW : WI B G) (K : ∀ G2, WI (B + 500000) G2 → gm_V x G2 1155 (gl_lv x b i) []) : gm_V x G 704 (gl_lv x b i) [] := by
  obtain ⟨v, G1, G2, e6, e7, hW2⟩ := w_16 hB hW (xs (i + 1)) (xs (i + 2))
  refine gv_aload_n C rfl 2 rfl dL_law_704 705 rfl ?_
  refine gl_arg C S 1 (by decide +kernel) (by omega) dL_law_705 dL_law_706 dL_law_707 dL_law_708 dL_law_709 710 rfl ?_
  refine gl_arg C S 2 (by decide +kernel) (by omega) dL_law_710 dL_law_711 dL_law_712 dL_law_713 dL_law_714 715 rfl ?_
  refine gv_callVi (v := v) C mc_yX6_out ⟨mi_yX6_out, me_yX6_out⟩ (by decide) mkL_81 gi_6 ⟨_, rfl⟩ rfl rfl (kX6_out (cx_w x) _ _  G (v, G1) e6) rfl rfl (Nat.le_of_ble_eq_true rfl) dL_law_715 718 rfl ?_
  refine gv_aload_n C rfl 1 rfl dL_law_718 719 rfl ?_
  refine gl_arg C S 1 (by decide +kernel) (by omega) dL_law_719 dL_law_720 dL_law_721 dL_law_722 dL_law_723 724 rfl ?_
  refine gl_arg C S 2 (by decide +kernel) (by omega) dL_law_724 dL_law_725 dL_law_726 dL_law_727 dL_law_728 729 rfl ?_
  refine gv_callVi (v := v) C mc_yX7_out ⟨mi_yX7_out, me_yX7_out⟩ (by decide) mkL_84 gi_7 ⟨_, rfl⟩ rfl rfl (kX7_out (cx_w x) _ _  G1 (v, G2) e7) rfl rfl (Nat.le_of_ble_eq_true rfl) dL_law_729 732 rfl ?_
  exact gv_icmp_eq C dL_law_732 1155 (by decide) 735 rfl (fun _ => K G2 hW2) (fun c => absurd rfl c)
theorem gl_c17 (C : gm_X x cL_law 4 RL (some .boolean) 10) (S : gl_S x b L xs) (hi : i + 4 ≤ L) (hB : B + 1000000 < 2147483647) (hW : WI B G) (K : ∀ G2, WI (B + 500000) G2 → gm_V x G2 1155 (gl_lv x b i) []) : gm_V x G 737 (gl_lv x b i) [] := by
  obtain ⟨v, G1, G2, e6, e7, hW2⟩ := w_17 hB hW (xs (i + 1)) (xs (i + 2))
  refine gv_aload_n C rfl 2 rfl dL_law_737 738 rfl ?_
  refine gl_arg C S 1 (by decide +kernel) (by omega) dL_law_738 dL_law_739 dL_law_740 dL_law_741 dL_law_742 743 rfl ?_
  refine gl_arg C S 2 (by decide +kernel) (by omega) dL_law_743 dL_law_744 dL_law_745 dL_law_746 dL_law_747 748 rfl ?_
  refine gv_callVi (v := v) C mc_yX6_assist ⟨mi_yX6_assist, me_yX6_assist⟩ (by decide) mkL_85 gi_6 ⟨_, rfl⟩ rfl rfl (kX6_assist (cx_w x) _ _  G (v, G1) e6) rfl rfl (Nat.le_of_ble_eq_true rfl) dL_law_748 751 rfl ?_
  refine gv_aload_n C rfl 1 rfl dL_law_751 752 rfl ?_
  refine gl_arg C S 1 (by decide +kernel) (by omega) dL_law_752 dL_law_753 dL_law_754 dL_law_755 dL_law_756 757 rfl ?_
  refine gl_arg C S 2 (by decide +kernel) (by omega) dL_law_757 dL_law_758 dL_law_759 dL_law_760 dL_law_761 762 rfl ?_
  refine gv_callVi (v := v) C mc_yX7_assist ⟨mi_yX7_assist, me_yX7_assist⟩ (by decide) mkL_88 gi_7 ⟨_, rfl⟩ rfl rfl (kX7_assist (cx_w x) _ _  G1 (v, G2) e7) rfl rfl (Nat.le_of_ble_eq_true rfl) dL_law_762 765 rfl ?_
  exact gv_icmp_eq C dL_law_765 1155 (by decide) 768 rfl (fun _ => K G2 hW2) (fun c => absurd rfl c)
theorem gl_c18 (C : gm_X x cL_law 4 RL (some .boolean) 10) (S : gl_S x b L xs) (hi : i + 4 ≤ L) (hB : B + 1000000 < 2147483647) (hW : WI B G) (K : ∀ G2, WI (B + 500000) G2 → gm_V x G2 1155 (gl_lv x b i) []) : gm_V x G 770 (gl_lv x b i) [] := by
  obtain ⟨v, G1, G2, e6, e7, hW2⟩ := w_18 hB hW (xs (i + 1)) (xs (i + 2))
  refine gv_aload_n C rfl 2 rfl dL_law_770 771 rfl ?_
  refine gl_arg C S 1 (by decide +kernel) (by omega) dL_law_771 dL_law_772 dL_law_773 dL_law_774 dL_law_775 776 rfl ?_
  refine gl_arg C S 2 (by decide +kernel) (by omega) dL_law_776 dL_law_777 dL_law_778 dL_law_779 dL_law_780 781 rfl ?_
  refine gv_callVi (v := v) C mc_yX6_obstruct ⟨mi_yX6_obstruct, me_yX6_obstruct⟩ (by decide) mkL_89 gi_6 ⟨_, rfl⟩ rfl rfl (kX6_obstruct (cx_w x) _ _  G (v, G1) e6) rfl rfl (Nat.le_of_ble_eq_true rfl) dL_law_781 784 rfl ?_
  refine gv_aload_n C rfl 1 rfl dL_law_784 785 rfl ?_
  refine gl_arg C S 1 (by decide +kernel) (by omega) dL_law_785 dL_law_786 dL_law_787 dL_law_788 dL_law_789 790 rfl ?_
  refine gl_arg C S 2 (by decide +kernel) (by omega) dL_law_790 dL_law_791 dL_law_792 dL_law_793 dL_law_794 795 rfl ?_
  refine gv_callVi (v := v) C mc_yX7_obstruct ⟨mi_yX7_obstruct, me_yX7_obstruct⟩ (by decide) mkL_92 gi_7 ⟨_, rfl⟩ rfl rfl (kX7_obstruct (cx_w x) _ _  G1 (v, G2) e7) rfl rfl (Nat.le_of_ble_eq_true rfl) dL_law_795 798 rfl ?_
  exact gv_icmp_eq C dL_law_798 1155 (by decide) 801 rfl (fun _ => K G2 hW2) (fun c => absurd rfl c)
theorem gl_c19 (C : gm_X x cL_law 4 RL (some .boolean) 10) (S : gl_S x b L xs) (hi : i + 4 ≤ L) (hB : B + 1000000 < 2147483647) (hW : WI B G) (K : ∀ G2, WI (B + 500000) G2 → gm_V x G2 1155 (gl_lv x b i) []) : gm_V x G 803 (gl_lv x b i) [] := by
  obtain ⟨v, G1, G2, e6, e7, hW2⟩ := w_19 hB hW (xs (i + 1)) (xs (i + 2))
  refine gv_aload_n C rfl 2 rfl dL_law_803 804 rfl ?_
  refine gl_arg C S 1 (by decide +kernel) (by omega) dL_law_804 dL_law_805 dL_law_806 dL_law_807 dL_law_808 809 rfl ?_
  refine gl_arg C S 2 (by decide +kernel) (by omega) dL_law_809 dL_law_810 dL_law_811 dL_law_812 dL_law_813 814 rfl ?_
  refine gv_callVi (v := v) C mc_yX6_lift ⟨mi_yX6_lift, me_yX6_lift⟩ (by decide) mkL_93 gi_6 ⟨_, rfl⟩ rfl rfl (kX6_lift (cx_w x) _ _  G (v, G1) e6) rfl rfl (Nat.le_of_ble_eq_true rfl) dL_law_814 817 rfl ?_
  refine gv_aload_n C rfl 1 rfl dL_law_817 818 rfl ?_
  refine gl_arg C S 1 (by decide +kernel) (by omega) dL_law_818 dL_law_819 dL_law_820 dL_law_821 dL_law_822 823 rfl ?_
  refine gl_arg C S 2 (by decide +kernel) (by omega) dL_law_823 dL_law_824 dL_law_825 dL_law_826 dL_law_827 828 rfl ?_
  refine gv_callVi (v := v) C mc_yX7_lift ⟨mi_yX7_lift, me_yX7_lift⟩ (by decide) mkL_96 gi_7 ⟨_, rfl⟩ rfl rfl (kX7_lift (cx_w x) _ _  G1 (v, G2) e7) rfl rfl (Nat.le_of_ble_eq_true rfl) dL_law_828 831 rfl ?_
  exact gv_icmp_eq C dL_law_831 1155 (by decide) 834 rfl (fun _ => K G2 hW2) (fun c => absurd rfl c)
theorem gl_c20 (C : gm_X x cL_law 4 RL (some .boolean) 10) (S : gl_S x b L xs) (hi : i + 4 ≤ L) (hB : B + 1000000 < 2147483647) (hW : WI B G) (K : ∀ G2, WI (B + 500000) G2 → gm_V x G2 1155 (gl_lv x b i) []) : gm_V x G 836 (gl_lv x b i) [] := by
  obtain ⟨v, G1, G2, e6, e7, hW2⟩ := w_20 hB hW (xs (i + 1))
  refine gv_aload_n C rfl 2 rfl dL_law_836 837 rfl ?_
  refine gl_arg C S 1 (by decide +kernel) (by omega) dL_law_837 dL_law_838 dL_law_839 dL_law_840 dL_law_841 842 rfl ?_
  refine gv_callVi (v := v) C mc_yX6_pass ⟨mi_yX6_pass, me_yX6_pass⟩ (by decide) mkL_97 gi_6 ⟨_, rfl⟩ rfl rfl (kX6_pass (cx_w x) _  G (v, G1) e6) rfl rfl (Nat.le_of_ble_eq_true rfl) dL_law_842 845 rfl ?_
  refine gv_aload_n C rfl 1 rfl dL_law_845 846 rfl ?_
  refine gl_arg C S 1 (by decide +kernel) (by omega) dL_law_846 dL_law_847 dL_law_848 dL_law_849 dL_law_850 851 rfl ?_
  refine gv_callVi (v := v) C mc_yX7_pass ⟨mi_yX7_pass, me_yX7_pass⟩ (by decide) mkL_100 gi_7 ⟨_, rfl⟩ rfl rfl (kX7_pass (cx_w x) _  G1 (v, G2) e7) rfl rfl (Nat.le_of_ble_eq_true rfl) dL_law_851 854 rfl ?_
  exact gv_icmp_eq C dL_law_854 1155 (by decide) 857 rfl (fun _ => K G2 hW2) (fun c => absurd rfl c)
theorem gl_c21 (C : gm_X x cL_law 4 RL (some .boolean) 10) (S : gl_S x b L xs) (hi : i + 4 ≤ L) (hB : B + 1000000 < 2147483647) (hW : WI B G) (K : ∀ G2, WI (B + 500000) G2 → gm_V x G2 1155 (gl_lv x b i) []) : gm_V x G 859 (gl_lv x b i) [] := by
  obtain ⟨v, e6, e7, hW2⟩ := w_21 hB hW (xs (i + 1)) (xs (i + 2))
  refine gv_aload_n C rfl 2 rfl dL_law_859 860 rfl ?_
  refine gl_arg C S 1 (by decide +kernel) (by omega) dL_law_860 dL_law_861 dL_law_862 dL_law_863 dL_law_864 865 rfl ?_
  refine gl_arg C S 2 (by decide +kernel) (by omega) dL_law_865 dL_law_866 dL_law_867 dL_law_868 dL_law_869 870 rfl ?_
  refine gv_callVi (v := v) C mc_yX6_signal ⟨mi_yX6_signal, me_yX6_signal⟩ (by decide) mkL_101 gi_6 ⟨_, rfl⟩ rfl rfl (kX6_signal (cx_w x) _ _  G v e6) rfl rfl (Nat.le_of_ble_eq_true rfl) dL_law_870 873 rfl ?_
  refine gv_aload_n C rfl 1 rfl dL_law_873 874 rfl ?_
  refine gl_arg C S 1 (by decide +kernel) (by omega) dL_law_874 dL_law_875 dL_law_876 dL_law_877 dL_law_878 879 rfl ?_
  refine gl_arg C S 2 (by decide +kernel) (by omega) dL_law_879 dL_law_880 dL_law_881 dL_law_882 dL_law_883 884 rfl ?_
  refine gv_callVi (v := v) C mc_yX7_signal ⟨mi_yX7_signal, me_yX7_signal⟩ (by decide) mkL_104 gi_7 ⟨_, rfl⟩ rfl rfl (kX7_signal (cx_w x) _ _  G v e7) rfl rfl (Nat.le_of_ble_eq_true rfl) dL_law_884 887 rfl ?_
  exact gv_icmp_eq C dL_law_887 1155 (by decide) 890 rfl (fun _ => K G hW2) (fun c => absurd rfl c)
end
