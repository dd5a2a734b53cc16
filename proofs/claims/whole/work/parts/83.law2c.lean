/-! the law: a call of the class, then of the reference -/
theorem qL_law_616 : Dq cL_law 616 (.aload_n 1) 1 617 := ⟨by decide +kernel, rfl⟩
theorem qL_law_617 : Dq cL_law 617 (.aload_n 0) 1 618 := ⟨by decide +kernel, rfl⟩
theorem qL_law_618 : Dq cL_law 618 (.iload_n 3) 1 619 := ⟨by decide +kernel, rfl⟩
theorem qL_law_619 : Dq cL_law 619 (.iconst 1) 1 620 := ⟨by decide +kernel, rfl⟩
theorem qL_law_620 : Dq cL_law 620 (.iadd) 1 621 := ⟨by decide +kernel, rfl⟩
theorem qL_law_621 : Dq cL_law 621 (.iaload) 1 622 := ⟨by decide +kernel, rfl⟩
theorem qL_law_622 : Dq cL_law 622 (.invokevirtual 83) 3 625 := ⟨by decide +kernel, rfl⟩
theorem qL_law_625 : Dq cL_law 625 (.aload_n 2) 1 626 := ⟨by decide +kernel, rfl⟩
theorem qL_law_626 : Dq cL_law 626 (.aload_n 0) 1 627 := ⟨by decide +kernel, rfl⟩
theorem qL_law_627 : Dq cL_law 627 (.iload_n 3) 1 628 := ⟨by decide +kernel, rfl⟩
theorem qL_law_628 : Dq cL_law 628 (.iconst 1) 1 629 := ⟨by decide +kernel, rfl⟩
theorem qL_law_629 : Dq cL_law 629 (.iadd) 1 630 := ⟨by decide +kernel, rfl⟩
theorem qL_law_630 : Dq cL_law 630 (.iaload) 1 631 := ⟨by decide +kernel, rfl⟩
theorem qL_law_631 : Dq cL_law 631 (.invokevirtual 86) 3 634 := ⟨by decide +kernel, rfl⟩
theorem qL_law_634 : Dq cL_law 634 (.if_icmp .eq 501) 3 637 := ⟨by decide +kernel, rfl⟩
set_option maxRecDepth 100000 in
set_option maxHeartbeats 4000000 in
theorem law_16 {X : Cx} {G : Glb} {L : Nat} {xsc : Nat → Int32} {Q : State → Prop} (hl : LwX X G L xsc) {h : AHp} {E : Sst} {i c : Nat} (hi : i + 6 ≤ L) (hc64 : c < 64) (hI : LwI h E c) (kk : ∀ h' E', LwI h' E' (c + 1) → V X G 4 (58 + 6 * (c + 1)) (4289 + 6 * (c + 1)) Q 1135 [some (.ref 1000000), some (.ref 0), some (.ref 38), some (.int (nI i))] [] h') : V X G 4 (58 + 6 * c) (4289 + 6 * c) Q 616 [some (.ref 1000000), some (.ref 0), some (.ref 38), some (.int (nI i))] [] h := by
  obtain ⟨hc, hm, hN⟩ := hI
  obtain ⟨hX, hR, -⟩ := id hl
  refine v_aload_n hX rfl qL_law_616 ?_
  refine v_aload_n hX rfl qL_law_617 ?_
  refine v_iload_n hX rfl qL_law_618 ?_
  refine v_iconst hX li_1 qL_law_619 ?_
  refine v_iadd hX qL_law_620 ?_
  refine hl.sld (j := i + 1) (nI_add i 1) (by omega) qL_law_621 ?_
  refine v_callVL hX hR k_L_83 (hc.1.kd 0 rfl) (c_under (by exact hc) _) rfl (Nat.le_of_ble_eq_true rfl) rfl (Nat.le_of_ble_eq_true rfl) ⟨by omega, by omega⟩ qL_law_622 ?_
  rintro _ _ ⟨rfl, σ, rfl, hc1, k1⟩
  have hm1 := hm.k38 k1
  have hN1 : hpN (σ, h.2) ≤ 58 + 6 * c := hN
  refine v_aload_n hX rfl qL_law_625 ?_
  refine v_aload_n hX rfl qL_law_626 ?_
  refine v_iload_n hX rfl qL_law_627 ?_
  refine v_iconst hX li_1 qL_law_628 ?_
  refine v_iadd hX qL_law_629 ?_
  refine hl.sld (j := i + 1) (nI_add i 1) (by omega) qL_law_630 ?_
  refine v_callVL hX hR k_L_86 (hm1.1.kd 38 rfl) (m_under (by exact hm1) _) rfl (Nat.le_of_ble_eq_true rfl) rfl (Nat.le_of_ble_eq_true rfl) ⟨by omega, by omega⟩ qL_law_631 ?_
  rintro _ _ ⟨rfl, σ2, J2, rfl, hm2, k2⟩
  have hc2 := hc1.k58 (J := J2) hm1.1 k2
  have hN2 := hN1
  refine v_icmp_eq hX 1135 qL_law_634 rfl (fun q634 => ?_) (fun q634 => ?_)
  · skip
    refine v_widen (rt := none) (k' := 58 + 6 * (c + 1)) (n' := 4289 + 6 * (c + 1)) (by omega) (by omega) ?_
    exact kk _ _ (LwI.nx hc2 hm2 (Nat.le_trans hN2 (by omega)))
  · exact absurd rfl q634
theorem qL_law_639 : Dq cL_law 639 (.aload_n 1) 1 640 := ⟨by decide +kernel, rfl⟩
theorem qL_law_640 : Dq cL_law 640 (.aload_n 0) 1 641 := ⟨by decide +kernel, rfl⟩
theorem qL_law_641 : Dq cL_law 641 (.iload_n 3) 1 642 := ⟨by decide +kernel, rfl⟩
theorem qL_law_642 : Dq cL_law 642 (.iconst 1) 1 643 := ⟨by decide +kernel, rfl⟩
theorem qL_law_643 : Dq cL_law 643 (.iadd) 1 644 := ⟨by decide +kernel, rfl⟩
theorem qL_law_644 : Dq cL_law 644 (.iaload) 1 645 := ⟨by decide +kernel, rfl⟩
theorem qL_law_645 : Dq cL_law 645 (.invokevirtual 87) 3 648 := ⟨by decide +kernel, rfl⟩
theorem qL_law_648 : Dq cL_law 648 (.aload_n 2) 1 649 := ⟨by decide +kernel, rfl⟩
theorem qL_law_649 : Dq cL_law 649 (.aload_n 0) 1 650 := ⟨by decide +kernel, rfl⟩
theorem qL_law_650 : Dq cL_law 650 (.iload_n 3) 1 651 := ⟨by decide +kernel, rfl⟩
theorem qL_law_651 : Dq cL_law 651 (.iconst 1) 1 652 := ⟨by decide +kernel, rfl⟩
theorem qL_law_652 : Dq cL_law 652 (.iadd) 1 653 := ⟨by decide +kernel, rfl⟩
theorem qL_law_653 : Dq cL_law 653 (.iaload) 1 654 := ⟨by decide +kernel, rfl⟩
theorem qL_law_654 : Dq cL_law 654 (.invokevirtual 90) 3 657 := ⟨by decide +kernel, rfl⟩
theorem qL_law_657 : Dq cL_law 657 (.if_icmp .eq 478) 3 660 := ⟨by decide +kernel, rfl⟩
set_option maxRecDepth 100000 in
set_option maxHeartbeats 4000000 in
theorem law_17 {X : Cx} {G : Glb} {L : Nat} {xsc : Nat → Int32} {Q : State → Prop} (hl : LwX X G L xsc) {h : AHp} {E : Sst} {i c : Nat} (hi : i + 6 ≤ L) (hc64 : c < 64) (hI : LwI h E c) (kk : ∀ h' E', LwI h' E' (c + 1) → V X G 4 (58 + 6 * (c + 1)) (4289 + 6 * (c + 1)) Q 1135 [some (.ref 1000000), some (.ref 0), some (.ref 38), some (.int (nI i))] [] h') : V X G 4 (58 + 6 * c) (4289 + 6 * c) Q 639 [some (.ref 1000000), some (.ref 0), some (.ref 38), some (.int (nI i))] [] h := by
  obtain ⟨hc, hm, hN⟩ := hI
  obtain ⟨hX, hR, -⟩ := id hl
  refine v_aload_n hX rfl qL_law_639 ?_
  refine v_aload_n hX rfl qL_law_640 ?_
  refine v_iload_n hX rfl qL_law_641 ?_
  refine v_iconst hX li_1 qL_law_642 ?_
  refine v_iadd hX qL_law_643 ?_
  refine hl.sld (j := i + 1) (nI_add i 1) (by omega) qL_law_644 ?_
  refine v_callVL hX hR k_L_87 (hc.1.kd 0 rfl) (c_drowned (by exact hc) _) rfl (Nat.le_of_ble_eq_true rfl) rfl (Nat.le_of_ble_eq_true rfl) ⟨by omega, by omega⟩ qL_law_645 ?_
  rintro _ _ ⟨rfl, σ, rfl, hc1, k1⟩
  have hm1 := hm.k38 k1
  have hN1 : hpN (σ, h.2) ≤ 58 + 6 * c := hN
  refine v_aload_n hX rfl qL_law_648 ?_
  refine v_aload_n hX rfl qL_law_649 ?_
  refine v_iload_n hX rfl qL_law_650 ?_
  refine v_iconst hX li_1 qL_law_651 ?_
  refine v_iadd hX qL_law_652 ?_
  refine hl.sld (j := i + 1) (nI_add i 1) (by omega) qL_law_653 ?_
  refine v_callVL hX hR k_L_90 (hm1.1.kd 38 rfl) (m_drowned (by exact hm1) _) rfl (Nat.le_of_ble_eq_true rfl) rfl (Nat.le_of_ble_eq_true rfl) ⟨by omega, by omega⟩ qL_law_654 ?_
  rintro _ _ ⟨rfl, σ2, J2, rfl, hm2, k2⟩
  have hc2 := hc1.k58 (J := J2) hm1.1 k2
  have hN2 := hN1
  refine v_icmp_eq hX 1135 qL_law_657 rfl (fun q657 => ?_) (fun q657 => ?_)
  · skip
    refine v_widen (rt := none) (k' := 58 + 6 * (c + 1)) (n' := 4289 + 6 * (c + 1)) (by omega) (by omega) ?_
    exact kk _ _ (LwI.nx hc2 hm2 (Nat.le_trans hN2 (by omega)))
  · exact absurd rfl q657
theorem qL_law_662 : Dq cL_law 662 (.aload_n 1) 1 663 := ⟨by decide +kernel, rfl⟩
theorem qL_law_663 : Dq cL_law 663 (.aload_n 0) 1 664 := ⟨by decide +kernel, rfl⟩
theorem qL_law_664 : Dq cL_law 664 (.iload_n 3) 1 665 := ⟨by decide +kernel, rfl⟩
theorem qL_law_665 : Dq cL_law 665 (.iconst 1) 1 666 := ⟨by decide +kernel, rfl⟩
theorem qL_law_666 : Dq cL_law 666 (.iadd) 1 667 := ⟨by decide +kernel, rfl⟩
theorem qL_law_667 : Dq cL_law 667 (.iaload) 1 668 := ⟨by decide +kernel, rfl⟩
theorem qL_law_668 : Dq cL_law 668 (.aload_n 0) 1 669 := ⟨by decide +kernel, rfl⟩
theorem qL_law_669 : Dq cL_law 669 (.iload_n 3) 1 670 := ⟨by decide +kernel, rfl⟩
theorem qL_law_670 : Dq cL_law 670 (.iconst 2) 1 671 := ⟨by decide +kernel, rfl⟩
theorem qL_law_671 : Dq cL_law 671 (.iadd) 1 672 := ⟨by decide +kernel, rfl⟩
theorem qL_law_672 : Dq cL_law 672 (.iaload) 1 673 := ⟨by decide +kernel, rfl⟩
theorem qL_law_673 : Dq cL_law 673 (.invokevirtual 91) 3 676 := ⟨by decide +kernel, rfl⟩
theorem qL_law_676 : Dq cL_law 676 (.aload_n 2) 1 677 := ⟨by decide +kernel, rfl⟩
theorem qL_law_677 : Dq cL_law 677 (.aload_n 0) 1 678 := ⟨by decide +kernel, rfl⟩
theorem qL_law_678 : Dq cL_law 678 (.iload_n 3) 1 679 := ⟨by decide +kernel, rfl⟩
theorem qL_law_679 : Dq cL_law 679 (.iconst 1) 1 680 := ⟨by decide +kernel, rfl⟩
theorem qL_law_680 : Dq cL_law 680 (.iadd) 1 681 := ⟨by decide +kernel, rfl⟩
theorem qL_law_681 : Dq cL_law 681 (.iaload) 1 682 := ⟨by decide +kernel, rfl⟩
theorem qL_law_682 : Dq cL_law 682 (.aload_n 0) 1 683 := ⟨by decide +kernel, rfl⟩
theorem qL_law_683 : Dq cL_law 683 (.iload_n 3) 1 684 := ⟨by decide +kernel, rfl⟩
theorem qL_law_684 : Dq cL_law 684 (.iconst 2) 1 685 := ⟨by decide +kernel, rfl⟩
theorem qL_law_685 : Dq cL_law 685 (.iadd) 1 686 := ⟨by decide +kernel, rfl⟩
theorem qL_law_686 : Dq cL_law 686 (.iaload) 1 687 := ⟨by decide +kernel, rfl⟩
theorem qL_law_687 : Dq cL_law 687 (.invokevirtual 94) 3 690 := ⟨by decide +kernel, rfl⟩
theorem qL_law_690 : Dq cL_law 690 (.if_icmp .eq 445) 3 693 := ⟨by decide +kernel, rfl⟩
set_option maxRecDepth 100000 in
set_option maxHeartbeats 4000000 in
theorem law_18 {X : Cx} {G : Glb} {L : Nat} {xsc : Nat → Int32} {Q : State → Prop} (hl : LwX X G L xsc) {h : AHp} {E : Sst} {i c : Nat} (hi : i + 6 ≤ L) (hc64 : c < 64) (hI : LwI h E c) (kk : ∀ h' E', LwI h' E' (c + 1) → V X G 4 (58 + 6 * (c + 1)) (4289 + 6 * (c + 1)) Q 1135 [some (.ref 1000000), some (.ref 0), some (.ref 38), some (.int (nI i))] [] h') : V X G 4 (58 + 6 * c) (4289 + 6 * c) Q 662 [some (.ref 1000000), some (.ref 0), some (.ref 38), some (.int (nI i))] [] h := by
  obtain ⟨hc, hm, hN⟩ := hI
  obtain ⟨hX, hR, -⟩ := id hl
  refine v_aload_n hX rfl qL_law_662 ?_
  refine v_aload_n hX rfl qL_law_663 ?_
  refine v_iload_n hX rfl qL_law_664 ?_
  refine v_iconst hX li_1 qL_law_665 ?_
  refine v_iadd hX qL_law_666 ?_
  refine hl.sld (j := i + 1) (nI_add i 1) (by omega) qL_law_667 ?_
  refine v_aload_n hX rfl qL_law_668 ?_
  refine v_iload_n hX rfl qL_law_669 ?_
  refine v_iconst hX li_2 qL_law_670 ?_
  refine v_iadd hX qL_law_671 ?_
  refine hl.sld (j := i + 2) (nI_add i 2) (by omega) qL_law_672 ?_
  refine v_callVL hX hR k_L_91 (hc.1.kd 0 rfl) (c_seen (by exact hc) _ _) rfl (Nat.le_of_ble_eq_true rfl) rfl (Nat.le_of_ble_eq_true rfl) ⟨by omega, by omega⟩ qL_law_673 ?_
  rintro _ _ ⟨rfl, σ, rfl, hc1, k1⟩
  have hm1 := hm.k38 k1
  have hN1 : hpN (σ, h.2) ≤ 58 + 6 * c := hN
  refine v_aload_n hX rfl qL_law_676 ?_
  refine v_aload_n hX rfl qL_law_677 ?_
  refine v_iload_n hX rfl qL_law_678 ?_
  refine v_iconst hX li_1 qL_law_679 ?_
  refine v_iadd hX qL_law_680 ?_
  refine hl.sld (j := i + 1) (nI_add i 1) (by omega) qL_law_681 ?_
  refine v_aload_n hX rfl qL_law_682 ?_
  refine v_iload_n hX rfl qL_law_683 ?_
  refine v_iconst hX li_2 qL_law_684 ?_
  refine v_iadd hX qL_law_685 ?_
  refine hl.sld (j := i + 2) (nI_add i 2) (by omega) qL_law_686 ?_
  refine v_callVL hX hR k_L_94 (hm1.1.kd 38 rfl) (m_seen (by exact hm1) _ _) rfl (Nat.le_of_ble_eq_true rfl) rfl (Nat.le_of_ble_eq_true rfl) ⟨by omega, by omega⟩ qL_law_687 ?_
  rintro _ _ ⟨rfl, σ2, J2, rfl, hm2, k2⟩
  have hc2 := hc1.k58 (J := J2) hm1.1 k2
  have hN2 := hN1
  refine v_icmp_eq hX 1135 qL_law_690 rfl (fun q690 => ?_) (fun q690 => ?_)
  · skip
    refine v_widen (rt := none) (k' := 58 + 6 * (c + 1)) (n' := 4289 + 6 * (c + 1)) (by omega) (by omega) ?_
    exact kk _ _ (LwI.nx hc2 hm2 (Nat.le_trans hN2 (by omega)))
  · exact absurd rfl q690
theorem qL_law_695 : Dq cL_law 695 (.aload_n 1) 1 696 := ⟨by decide +kernel, rfl⟩
theorem qL_law_696 : Dq cL_law 696 (.aload_n 0) 1 697 := ⟨by decide +kernel, rfl⟩
theorem qL_law_697 : Dq cL_law 697 (.iload_n 3) 1 698 := ⟨by decide +kernel, rfl⟩
theorem qL_law_698 : Dq cL_law 698 (.iconst 1) 1 699 := ⟨by decide +kernel, rfl⟩
theorem qL_law_699 : Dq cL_law 699 (.iadd) 1 700 := ⟨by decide +kernel, rfl⟩
theorem qL_law_700 : Dq cL_law 700 (.iaload) 1 701 := ⟨by decide +kernel, rfl⟩
theorem qL_law_701 : Dq cL_law 701 (.aload_n 0) 1 702 := ⟨by decide +kernel, rfl⟩
theorem qL_law_702 : Dq cL_law 702 (.iload_n 3) 1 703 := ⟨by decide +kernel, rfl⟩
theorem qL_law_703 : Dq cL_law 703 (.iconst 2) 1 704 := ⟨by decide +kernel, rfl⟩
theorem qL_law_704 : Dq cL_law 704 (.iadd) 1 705 := ⟨by decide +kernel, rfl⟩
theorem qL_law_705 : Dq cL_law 705 (.iaload) 1 706 := ⟨by decide +kernel, rfl⟩
theorem qL_law_706 : Dq cL_law 706 (.aload_n 0) 1 707 := ⟨by decide +kernel, rfl⟩
theorem qL_law_707 : Dq cL_law 707 (.iload_n 3) 1 708 := ⟨by decide +kernel, rfl⟩
theorem qL_law_708 : Dq cL_law 708 (.iconst 3) 1 709 := ⟨by decide +kernel, rfl⟩
theorem qL_law_709 : Dq cL_law 709 (.iadd) 1 710 := ⟨by decide +kernel, rfl⟩
theorem qL_law_710 : Dq cL_law 710 (.iaload) 1 711 := ⟨by decide +kernel, rfl⟩
theorem qL_law_711 : Dq cL_law 711 (.invokevirtual 95) 3 714 := ⟨by decide +kernel, rfl⟩
theorem qL_law_714 : Dq cL_law 714 (.aload_n 2) 1 715 := ⟨by decide +kernel, rfl⟩
theorem qL_law_715 : Dq cL_law 715 (.aload_n 0) 1 716 := ⟨by decide +kernel, rfl⟩
theorem qL_law_716 : Dq cL_law 716 (.iload_n 3) 1 717 := ⟨by decide +kernel, rfl⟩
theorem qL_law_717 : Dq cL_law 717 (.iconst 1) 1 718 := ⟨by decide +kernel, rfl⟩
theorem qL_law_718 : Dq cL_law 718 (.iadd) 1 719 := ⟨by decide +kernel, rfl⟩
theorem qL_law_719 : Dq cL_law 719 (.iaload) 1 720 := ⟨by decide +kernel, rfl⟩
theorem qL_law_720 : Dq cL_law 720 (.aload_n 0) 1 721 := ⟨by decide +kernel, rfl⟩
theorem qL_law_721 : Dq cL_law 721 (.iload_n 3) 1 722 := ⟨by decide +kernel, rfl⟩
theorem qL_law_722 : Dq cL_law 722 (.iconst 2) 1 723 := ⟨by decide +kernel, rfl⟩
theorem qL_law_723 : Dq cL_law 723 (.iadd) 1 724 := ⟨by decide +kernel, rfl⟩
theorem qL_law_724 : Dq cL_law 724 (.iaload) 1 725 := ⟨by decide +kernel, rfl⟩
theorem qL_law_725 : Dq cL_law 725 (.aload_n 0) 1 726 := ⟨by decide +kernel, rfl⟩
theorem qL_law_726 : Dq cL_law 726 (.iload_n 3) 1 727 := ⟨by decide +kernel, rfl⟩
theorem qL_law_727 : Dq cL_law 727 (.iconst 3) 1 728 := ⟨by decide +kernel, rfl⟩
theorem qL_law_728 : Dq cL_law 728 (.iadd) 1 729 := ⟨by decide +kernel, rfl⟩
theorem qL_law_729 : Dq cL_law 729 (.iaload) 1 730 := ⟨by decide +kernel, rfl⟩
theorem qL_law_730 : Dq cL_law 730 (.invokevirtual 98) 3 733 := ⟨by decide +kernel, rfl⟩
theorem qL_law_733 : Dq cL_law 733 (.if_icmp .eq 402) 3 736 := ⟨by decide +kernel, rfl⟩
set_option maxRecDepth 100000 in
set_option maxHeartbeats 4000000 in
theorem law_19 {X : Cx} {G : Glb} {L : Nat} {xsc : Nat → Int32} {Q : State → Prop} (hl : LwX X G L xsc) {h : AHp} {E : Sst} {i c : Nat} (hi : i + 6 ≤ L) (hc64 : c < 64) (hI : LwI h E c) (kk : ∀ h' E', LwI h' E' (c + 1) → V X G 4 (58 + 6 * (c + 1)) (4289 + 6 * (c + 1)) Q 1135 [some (.ref 1000000), some (.ref 0), some (.ref 38), some (.int (nI i))] [] h') : V X G 4 (58 + 6 * c) (4289 + 6 * c) Q 695 [some (.ref 1000000), some (.ref 0), some (.ref 38), some (.int (nI i))] [] h := by
  obtain ⟨hc, hm, hN⟩ := hI
  obtain ⟨hX, hR, -⟩ := id hl
  refine v_aload_n hX rfl qL_law_695 ?_
  refine v_aload_n hX rfl qL_law_696 ?_
  refine v_iload_n hX rfl qL_law_697 ?_
  refine v_iconst hX li_1 qL_law_698 ?_
  refine v_iadd hX qL_law_699 ?_
  refine hl.sld (j := i + 1) (nI_add i 1) (by omega) qL_law_700 ?_
  refine v_aload_n hX rfl qL_law_701 ?_
  refine v_iload_n hX rfl qL_law_702 ?_
  refine v_iconst hX li_2 qL_law_703 ?_
  refine v_iadd hX qL_law_704 ?_
  refine hl.sld (j := i + 2) (nI_add i 2) (by omega) qL_law_705 ?_
  refine v_aload_n hX rfl qL_law_706 ?_
  refine v_iload_n hX rfl qL_law_707 ?_
  refine v_iconst hX li_3 qL_law_708 ?_
  refine v_iadd hX qL_law_709 ?_
  refine hl.sld (j := i + 3) (nI_add i 3) (by omega) qL_law_710 ?_
  refine v_callVL hX hR k_L_95 (hc.1.kd 0 rfl) (c_crowd (by exact hc) _ _ _) rfl (Nat.le_of_ble_eq_true rfl) rfl (Nat.le_of_ble_eq_true rfl) ⟨by omega, by omega⟩ qL_law_711 ?_
  rintro _ _ ⟨rfl, σ, rfl, hc1, k1⟩
  have hm1 := hm.k38 k1
  have hN1 : hpN (σ, h.2) ≤ 58 + 6 * c := hN
  refine v_aload_n hX rfl qL_law_714 ?_
  refine v_aload_n hX rfl qL_law_715 ?_
  refine v_iload_n hX rfl qL_law_716 ?_
  refine v_iconst hX li_1 qL_law_717 ?_
  refine v_iadd hX qL_law_718 ?_
  refine hl.sld (j := i + 1) (nI_add i 1) (by omega) qL_law_719 ?_
  refine v_aload_n hX rfl qL_law_720 ?_
  refine v_iload_n hX rfl qL_law_721 ?_
  refine v_iconst hX li_2 qL_law_722 ?_
  refine v_iadd hX qL_law_723 ?_
  refine hl.sld (j := i + 2) (nI_add i 2) (by omega) qL_law_724 ?_
  refine v_aload_n hX rfl qL_law_725 ?_
  refine v_iload_n hX rfl qL_law_726 ?_
  refine v_iconst hX li_3 qL_law_727 ?_
  refine v_iadd hX qL_law_728 ?_
  refine hl.sld (j := i + 3) (nI_add i 3) (by omega) qL_law_729 ?_
  refine v_callVL hX hR k_L_98 (hm1.1.kd 38 rfl) (m_crowd (by exact hm1) _ _ _) rfl (Nat.le_of_ble_eq_true rfl) rfl (Nat.le_of_ble_eq_true rfl) ⟨by omega, by omega⟩ qL_law_730 ?_
  rintro _ _ ⟨rfl, σ2, J2, rfl, hm2, k2⟩
  have hc2 := hc1.k58 (J := J2) hm1.1 k2
  have hN2 := hN1
  refine v_icmp_eq hX 1135 qL_law_733 rfl (fun q733 => ?_) (fun q733 => ?_)
  · skip
    refine v_widen (rt := none) (k' := 58 + 6 * (c + 1)) (n' := 4289 + 6 * (c + 1)) (by omega) (by omega) ?_
    exact kk _ _ (LwI.nx hc2 hm2 (Nat.le_trans hN2 (by omega)))
  · exact absurd rfl q733
theorem qL_law_738 : Dq cL_law 738 (.aload_n 1) 1 739 := ⟨by decide +kernel, rfl⟩
theorem qL_law_739 : Dq cL_law 739 (.aload_n 0) 1 740 := ⟨by decide +kernel, rfl⟩
theorem qL_law_740 : Dq cL_law 740 (.iload_n 3) 1 741 := ⟨by decide +kernel, rfl⟩
theorem qL_law_741 : Dq cL_law 741 (.iconst 1) 1 742 := ⟨by decide +kernel, rfl⟩
theorem qL_law_742 : Dq cL_law 742 (.iadd) 1 743 := ⟨by decide +kernel, rfl⟩
theorem qL_law_743 : Dq cL_law 743 (.iaload) 1 744 := ⟨by decide +kernel, rfl⟩
theorem qL_law_744 : Dq cL_law 744 (.invokevirtual 99) 3 747 := ⟨by decide +kernel, rfl⟩
theorem qL_law_747 : Dq cL_law 747 (.aload_n 2) 1 748 := ⟨by decide +kernel, rfl⟩
theorem qL_law_748 : Dq cL_law 748 (.aload_n 0) 1 749 := ⟨by decide +kernel, rfl⟩
theorem qL_law_749 : Dq cL_law 749 (.iload_n 3) 1 750 := ⟨by decide +kernel, rfl⟩
theorem qL_law_750 : Dq cL_law 750 (.iconst 1) 1 751 := ⟨by decide +kernel, rfl⟩
theorem qL_law_751 : Dq cL_law 751 (.iadd) 1 752 := ⟨by decide +kernel, rfl⟩
theorem qL_law_752 : Dq cL_law 752 (.iaload) 1 753 := ⟨by decide +kernel, rfl⟩
theorem qL_law_753 : Dq cL_law 753 (.invokevirtual 102) 3 756 := ⟨by decide +kernel, rfl⟩
theorem qL_law_756 : Dq cL_law 756 (.if_icmp .eq 379) 3 759 := ⟨by decide +kernel, rfl⟩
set_option maxRecDepth 100000 in
set_option maxHeartbeats 4000000 in
theorem law_20 {X : Cx} {G : Glb} {L : Nat} {xsc : Nat → Int32} {Q : State → Prop} (hl : LwX X G L xsc) {h : AHp} {E : Sst} {i c : Nat} (hi : i + 6 ≤ L) (hc64 : c < 64) (hI : LwI h E c) (kk : ∀ h' E', LwI h' E' (c + 1) → V X G 4 (58 + 6 * (c + 1)) (4289 + 6 * (c + 1)) Q 1135 [some (.ref 1000000), some (.ref 0), some (.ref 38), some (.int (nI i))] [] h') : V X G 4 (58 + 6 * c) (4289 + 6 * c) Q 738 [some (.ref 1000000), some (.ref 0), some (.ref 38), some (.int (nI i))] [] h := by
  obtain ⟨hc, hm, hN⟩ := hI
  obtain ⟨hX, hR, -⟩ := id hl
  refine v_aload_n hX rfl qL_law_738 ?_
  refine v_aload_n hX rfl qL_law_739 ?_
  refine v_iload_n hX rfl qL_law_740 ?_
  refine v_iconst hX li_1 qL_law_741 ?_
  refine v_iadd hX qL_law_742 ?_
  refine hl.sld (j := i + 1) (nI_add i 1) (by omega) qL_law_743 ?_
  refine v_callVL hX hR k_L_99 (hc.1.kd 0 rfl) (c_judge (by exact hc) _) rfl (Nat.le_of_ble_eq_true rfl) rfl (Nat.le_of_ble_eq_true rfl) ⟨by omega, by omega⟩ qL_law_744 ?_
  rintro _ _ ⟨rfl, σ, rfl, hc1, k1⟩
  have hm1 := hm.k38 k1
  have hN1 : hpN (σ, h.2) ≤ 58 + 6 * c := hN
  refine v_aload_n hX rfl qL_law_747 ?_
  refine v_aload_n hX rfl qL_law_748 ?_
  refine v_iload_n hX rfl qL_law_749 ?_
  refine v_iconst hX li_1 qL_law_750 ?_
  refine v_iadd hX qL_law_751 ?_
  refine hl.sld (j := i + 1) (nI_add i 1) (by omega) qL_law_752 ?_
  refine v_callVL hX hR k_L_102 (hm1.1.kd 38 rfl) (m_judge (by exact hm1) _) rfl (Nat.le_of_ble_eq_true rfl) rfl (Nat.le_of_ble_eq_true rfl) ⟨by omega, by omega⟩ qL_law_753 ?_
  rintro _ _ ⟨rfl, σ2, J2, rfl, hm2, k2⟩
  have hc2 := hc1.k58 (J := J2) hm1.1 k2
  have hN2 := hN1
  refine v_icmp_eq hX 1135 qL_law_756 rfl (fun q756 => ?_) (fun q756 => ?_)
  · skip
    refine v_widen (rt := none) (k' := 58 + 6 * (c + 1)) (n' := 4289 + 6 * (c + 1)) (by omega) (by omega) ?_
    exact kk _ _ (LwI.nx hc2 hm2 (Nat.le_trans hN2 (by omega)))
  · exact absurd rfl q756
theorem qL_law_761 : Dq cL_law 761 (.aload_n 1) 1 762 := ⟨by decide +kernel, rfl⟩
theorem qL_law_762 : Dq cL_law 762 (.aload_n 0) 1 763 := ⟨by decide +kernel, rfl⟩
theorem qL_law_763 : Dq cL_law 763 (.iload_n 3) 1 764 := ⟨by decide +kernel, rfl⟩
theorem qL_law_764 : Dq cL_law 764 (.iconst 1) 1 765 := ⟨by decide +kernel, rfl⟩
theorem qL_law_765 : Dq cL_law 765 (.iadd) 1 766 := ⟨by decide +kernel, rfl⟩
theorem qL_law_766 : Dq cL_law 766 (.iaload) 1 767 := ⟨by decide +kernel, rfl⟩
theorem qL_law_767 : Dq cL_law 767 (.aload_n 0) 1 768 := ⟨by decide +kernel, rfl⟩
theorem qL_law_768 : Dq cL_law 768 (.iload_n 3) 1 769 := ⟨by decide +kernel, rfl⟩
theorem qL_law_769 : Dq cL_law 769 (.iconst 2) 1 770 := ⟨by decide +kernel, rfl⟩
theorem qL_law_770 : Dq cL_law 770 (.iadd) 1 771 := ⟨by decide +kernel, rfl⟩
theorem qL_law_771 : Dq cL_law 771 (.iaload) 1 772 := ⟨by decide +kernel, rfl⟩
theorem qL_law_772 : Dq cL_law 772 (.invokevirtual 103) 3 775 := ⟨by decide +kernel, rfl⟩
theorem qL_law_775 : Dq cL_law 775 (.aload_n 2) 1 776 := ⟨by decide +kernel, rfl⟩
theorem qL_law_776 : Dq cL_law 776 (.aload_n 0) 1 777 := ⟨by decide +kernel, rfl⟩
theorem qL_law_777 : Dq cL_law 777 (.iload_n 3) 1 778 := ⟨by decide +kernel, rfl⟩
theorem qL_law_778 : Dq cL_law 778 (.iconst 1) 1 779 := ⟨by decide +kernel, rfl⟩
theorem qL_law_779 : Dq cL_law 779 (.iadd) 1 780 := ⟨by decide +kernel, rfl⟩
theorem qL_law_780 : Dq cL_law 780 (.iaload) 1 781 := ⟨by decide +kernel, rfl⟩
theorem qL_law_781 : Dq cL_law 781 (.aload_n 0) 1 782 := ⟨by decide +kernel, rfl⟩
theorem qL_law_782 : Dq cL_law 782 (.iload_n 3) 1 783 := ⟨by decide +kernel, rfl⟩
theorem qL_law_783 : Dq cL_law 783 (.iconst 2) 1 784 := ⟨by decide +kernel, rfl⟩
theorem qL_law_784 : Dq cL_law 784 (.iadd) 1 785 := ⟨by decide +kernel, rfl⟩
theorem qL_law_785 : Dq cL_law 785 (.iaload) 1 786 := ⟨by decide +kernel, rfl⟩
theorem qL_law_786 : Dq cL_law 786 (.invokevirtual 106) 3 789 := ⟨by decide +kernel, rfl⟩
theorem qL_law_789 : Dq cL_law 789 (.lcmp) 1 790 := ⟨by decide +kernel, rfl⟩
theorem qL_law_790 : Dq cL_law 790 (.ifCond .eq 345) 3 793 := ⟨by decide +kernel, rfl⟩
set_option maxRecDepth 100000 in
set_option maxHeartbeats 4000000 in
theorem law_21 {X : Cx} {G : Glb} {L : Nat} {xsc : Nat → Int32} {Q : State → Prop} (hl : LwX X G L xsc) {h : AHp} {E : Sst} {i c : Nat} (hi : i + 6 ≤ L) (hc64 : c < 64) (hI : LwI h E c) (kk : ∀ h' E', LwI h' E' (c + 1) → V X G 4 (58 + 6 * (c + 1)) (4289 + 6 * (c + 1)) Q 1135 [some (.ref 1000000), some (.ref 0), some (.ref 38), some (.int (nI i))] [] h') : V X G 4 (58 + 6 * c) (4289 + 6 * c) Q 761 [some (.ref 1000000), some (.ref 0), some (.ref 38), some (.int (nI i))] [] h := by
  obtain ⟨hc, hm, hN⟩ := hI
  obtain ⟨hX, hR, -⟩ := id hl
  refine v_aload_n hX rfl qL_law_761 ?_
  refine v_aload_n hX rfl qL_law_762 ?_
  refine v_iload_n hX rfl qL_law_763 ?_
  refine v_iconst hX li_1 qL_law_764 ?_
  refine v_iadd hX qL_law_765 ?_
  refine hl.sld (j := i + 1) (nI_add i 1) (by omega) qL_law_766 ?_
  refine v_aload_n hX rfl qL_law_767 ?_
  refine v_iload_n hX rfl qL_law_768 ?_
  refine v_iconst hX li_2 qL_law_769 ?_
  refine v_iadd hX qL_law_770 ?_
  refine hl.sld (j := i + 2) (nI_add i 2) (by omega) qL_law_771 ?_
  refine v_callVL hX hR k_L_103 (hc.1.kd 0 rfl) (c_found (by exact hc) _ _) rfl (Nat.le_of_ble_eq_true rfl) rfl (Nat.le_of_ble_eq_true rfl) ⟨by omega, by omega⟩ qL_law_772 ?_
  rintro _ _ ⟨rfl, σ, rfl, hc1, k1⟩
  have hm1 := hm.k38 k1
  have hN1 : hpN (σ, h.2) ≤ 58 + 6 * c := hN
  refine v_aload_n hX rfl qL_law_775 ?_
  refine v_aload_n hX rfl qL_law_776 ?_
  refine v_iload_n hX rfl qL_law_777 ?_
  refine v_iconst hX li_1 qL_law_778 ?_
  refine v_iadd hX qL_law_779 ?_
  refine hl.sld (j := i + 1) (nI_add i 1) (by omega) qL_law_780 ?_
  refine v_aload_n hX rfl qL_law_781 ?_
  refine v_iload_n hX rfl qL_law_782 ?_
  refine v_iconst hX li_2 qL_law_783 ?_
  refine v_iadd hX qL_law_784 ?_
  refine hl.sld (j := i + 2) (nI_add i 2) (by omega) qL_law_785 ?_
  refine v_callVL hX hR k_L_106 (hm1.1.kd 38 rfl) (m_found (by exact hm1) _ _) rfl (Nat.le_of_ble_eq_true rfl) rfl (Nat.le_of_ble_eq_true rfl) ⟨by omega, by omega⟩ qL_law_786 ?_
  rintro _ _ ⟨rfl, σ2, J2, rfl, hm2, k2⟩
  have hc2 := hc1.k58 (J := J2) hm1.1 k2
  have hN2 := hN1
  refine v_lcmp hX qL_law_789 ?_
  refine v_if_eq hX 1135 qL_law_790 rfl (fun q790 => ?_) (fun q790 => ?_)
  · skip
    refine v_widen (rt := none) (k' := 58 + 6 * (c + 1)) (n' := 4289 + 6 * (c + 1)) (by omega) (by omega) ?_
    exact kk _ _ (LwI.nx hc2 hm2 (Nat.le_trans hN2 (by omega)))
  · exact absurd (lcmp_rf _) q790
theorem qL_law_795 : Dq cL_law 795 (.aload_n 1) 1 796 := ⟨by decide +kernel, rfl⟩
theorem qL_law_796 : Dq cL_law 796 (.aload_n 0) 1 797 := ⟨by decide +kernel, rfl⟩
theorem qL_law_797 : Dq cL_law 797 (.iload_n 3) 1 798 := ⟨by decide +kernel, rfl⟩
theorem qL_law_798 : Dq cL_law 798 (.iconst 1) 1 799 := ⟨by decide +kernel, rfl⟩
theorem qL_law_799 : Dq cL_law 799 (.iadd) 1 800 := ⟨by decide +kernel, rfl⟩
theorem qL_law_800 : Dq cL_law 800 (.iaload) 1 801 := ⟨by decide +kernel, rfl⟩
theorem qL_law_801 : Dq cL_law 801 (.invokevirtual 107) 3 804 := ⟨by decide +kernel, rfl⟩
theorem qL_law_804 : Dq cL_law 804 (.aload_n 2) 1 805 := ⟨by decide +kernel, rfl⟩
theorem qL_law_805 : Dq cL_law 805 (.aload_n 0) 1 806 := ⟨by decide +kernel, rfl⟩
theorem qL_law_806 : Dq cL_law 806 (.iload_n 3) 1 807 := ⟨by decide +kernel, rfl⟩
theorem qL_law_807 : Dq cL_law 807 (.iconst 1) 1 808 := ⟨by decide +kernel, rfl⟩
theorem qL_law_808 : Dq cL_law 808 (.iadd) 1 809 := ⟨by decide +kernel, rfl⟩
theorem qL_law_809 : Dq cL_law 809 (.iaload) 1 810 := ⟨by decide +kernel, rfl⟩
theorem qL_law_810 : Dq cL_law 810 (.invokevirtual 110) 3 813 := ⟨by decide +kernel, rfl⟩
theorem qL_law_813 : Dq cL_law 813 (.if_icmp .eq 322) 3 816 := ⟨by decide +kernel, rfl⟩
set_option maxRecDepth 100000 in
set_option maxHeartbeats 4000000 in
theorem law_22 {X : Cx} {G : Glb} {L : Nat} {xsc : Nat → Int32} {Q : State → Prop} (hl : LwX X G L xsc) {h : AHp} {E : Sst} {i c : Nat} (hi : i + 6 ≤ L) (hc64 : c < 64) (hI : LwI h E c) (kk : ∀ h' E', LwI h' E' (c + 1) → V X G 4 (58 + 6 * (c + 1)) (4289 + 6 * (c + 1)) Q 1135 [some (.ref 1000000), some (.ref 0), some (.ref 38), some (.int (nI i))] [] h') : V X G 4 (58 + 6 * c) (4289 + 6 * c) Q 795 [some (.ref 1000000), some (.ref 0), some (.ref 38), some (.int (nI i))] [] h := by
  obtain ⟨hc, hm, hN⟩ := hI
  obtain ⟨hX, hR, -⟩ := id hl
  refine v_aload_n hX rfl qL_law_795 ?_
  refine v_aload_n hX rfl qL_law_796 ?_
  refine v_iload_n hX rfl qL_law_797 ?_
  refine v_iconst hX li_1 qL_law_798 ?_
  refine v_iadd hX qL_law_799 ?_
  refine hl.sld (j := i + 1) (nI_add i 1) (by omega) qL_law_800 ?_
  refine v_callVL hX hR k_L_107 (hc.1.kd 0 rfl) (c_drawn (by exact hc) _) rfl (Nat.le_of_ble_eq_true rfl) rfl (Nat.le_of_ble_eq_true rfl) ⟨by omega, by omega⟩ qL_law_801 ?_
  rintro _ _ ⟨rfl, rfl⟩
  have hc1 := hc
  have hm1 := hm
  have hN1 := hN
  refine v_aload_n hX rfl qL_law_804 ?_
  refine v_aload_n hX rfl qL_law_805 ?_
  refine v_iload_n hX rfl qL_law_806 ?_
  refine v_iconst hX li_1 qL_law_807 ?_
  refine v_iadd hX qL_law_808 ?_
  refine hl.sld (j := i + 1) (nI_add i 1) (by omega) qL_law_809 ?_
  refine v_callVL hX hR k_L_110 (hm1.1.kd 38 rfl) (m_drawn (by exact hm1) _) rfl (Nat.le_of_ble_eq_true rfl) rfl (Nat.le_of_ble_eq_true rfl) ⟨by omega, by omega⟩ qL_law_810 ?_
  rintro _ _ ⟨rfl, rfl⟩
  have hc2 := hc1
  have hm2 := hm1
  have hN2 := hN1
  refine v_icmp_eq hX 1135 qL_law_813 rfl (fun q813 => ?_) (fun q813 => ?_)
  · skip
    refine v_widen (rt := none) (k' := 58 + 6 * (c + 1)) (n' := 4289 + 6 * (c + 1)) (by omega) (by omega) ?_
    exact kk _ _ (LwI.nx hc2 hm2 (Nat.le_trans hN2 (by omega)))
  · exact absurd rfl q813
theorem qL_law_818 : Dq cL_law 818 (.aload_n 1) 1 819 := ⟨by decide +kernel, rfl⟩
theorem qL_law_819 : Dq cL_law 819 (.aload_n 0) 1 820 := ⟨by decide +kernel, rfl⟩
theorem qL_law_820 : Dq cL_law 820 (.iload_n 3) 1 821 := ⟨by decide +kernel, rfl⟩
theorem qL_law_821 : Dq cL_law 821 (.iconst 1) 1 822 := ⟨by decide +kernel, rfl⟩
theorem qL_law_822 : Dq cL_law 822 (.iadd) 1 823 := ⟨by decide +kernel, rfl⟩
theorem qL_law_823 : Dq cL_law 823 (.iaload) 1 824 := ⟨by decide +kernel, rfl⟩
theorem qL_law_824 : Dq cL_law 824 (.aload_n 0) 1 825 := ⟨by decide +kernel, rfl⟩
theorem qL_law_825 : Dq cL_law 825 (.iload_n 3) 1 826 := ⟨by decide +kernel, rfl⟩
theorem qL_law_826 : Dq cL_law 826 (.iconst 2) 1 827 := ⟨by decide +kernel, rfl⟩
theorem qL_law_827 : Dq cL_law 827 (.iadd) 1 828 := ⟨by decide +kernel, rfl⟩
theorem qL_law_828 : Dq cL_law 828 (.iaload) 1 829 := ⟨by decide +kernel, rfl⟩
theorem qL_law_829 : Dq cL_law 829 (.invokevirtual 111) 3 832 := ⟨by decide +kernel, rfl⟩
theorem qL_law_832 : Dq cL_law 832 (.aload_n 2) 1 833 := ⟨by decide +kernel, rfl⟩
theorem qL_law_833 : Dq cL_law 833 (.aload_n 0) 1 834 := ⟨by decide +kernel, rfl⟩
theorem qL_law_834 : Dq cL_law 834 (.iload_n 3) 1 835 := ⟨by decide +kernel, rfl⟩
theorem qL_law_835 : Dq cL_law 835 (.iconst 1) 1 836 := ⟨by decide +kernel, rfl⟩
theorem qL_law_836 : Dq cL_law 836 (.iadd) 1 837 := ⟨by decide +kernel, rfl⟩
theorem qL_law_837 : Dq cL_law 837 (.iaload) 1 838 := ⟨by decide +kernel, rfl⟩
theorem qL_law_838 : Dq cL_law 838 (.aload_n 0) 1 839 := ⟨by decide +kernel, rfl⟩
theorem qL_law_839 : Dq cL_law 839 (.iload_n 3) 1 840 := ⟨by decide +kernel, rfl⟩
theorem qL_law_840 : Dq cL_law 840 (.iconst 2) 1 841 := ⟨by decide +kernel, rfl⟩
theorem qL_law_841 : Dq cL_law 841 (.iadd) 1 842 := ⟨by decide +kernel, rfl⟩
theorem qL_law_842 : Dq cL_law 842 (.iaload) 1 843 := ⟨by decide +kernel, rfl⟩
theorem qL_law_843 : Dq cL_law 843 (.invokevirtual 114) 3 846 := ⟨by decide +kernel, rfl⟩
theorem qL_law_846 : Dq cL_law 846 (.if_icmp .eq 289) 3 849 := ⟨by decide +kernel, rfl⟩
set_option maxRecDepth 100000 in
set_option maxHeartbeats 4000000 in
theorem law_23 {X : Cx} {G : Glb} {L : Nat} {xsc : Nat → Int32} {Q : State → Prop} (hl : LwX X G L xsc) {h : AHp} {E : Sst} {i c : Nat} (hi : i + 6 ≤ L) (hc64 : c < 64) (hI : LwI h E c) (kk : ∀ h' E', LwI h' E' (c + 1) → V X G 4 (58 + 6 * (c + 1)) (4289 + 6 * (c + 1)) Q 1135 [some (.ref 1000000), some (.ref 0), some (.ref 38), some (.int (nI i))] [] h') : V X G 4 (58 + 6 * c) (4289 + 6 * c) Q 818 [some (.ref 1000000), some (.ref 0), some (.ref 38), some (.int (nI i))] [] h := by
  obtain ⟨hc, hm, hN⟩ := hI
  obtain ⟨hX, hR, -⟩ := id hl
  refine v_aload_n hX rfl qL_law_818 ?_
  refine v_aload_n hX rfl qL_law_819 ?_
  refine v_iload_n hX rfl qL_law_820 ?_
  refine v_iconst hX li_1 qL_law_821 ?_
  refine v_iadd hX qL_law_822 ?_
  refine hl.sld (j := i + 1) (nI_add i 1) (by omega) qL_law_823 ?_
  refine v_aload_n hX rfl qL_law_824 ?_
  refine v_iload_n hX rfl qL_law_825 ?_
  refine v_iconst hX li_2 qL_law_826 ?_
  refine v_iadd hX qL_law_827 ?_
  refine hl.sld (j := i + 2) (nI_add i 2) (by omega) qL_law_828 ?_
  refine v_callVL hX hR k_L_111 (hc.1.kd 0 rfl) (c_foundBy (by exact hc) _ _) rfl (Nat.le_of_ble_eq_true rfl) rfl (Nat.le_of_ble_eq_true rfl) ⟨by omega, by omega⟩ qL_law_829 ?_
  rintro _ _ ⟨rfl, σ, rfl, hc1, k1⟩
  have hm1 := hm.k38 k1
  have hN1 : hpN (σ, h.2) ≤ 58 + 6 * c := hN
  refine v_aload_n hX rfl qL_law_832 ?_
  refine v_aload_n hX rfl qL_law_833 ?_
  refine v_iload_n hX rfl qL_law_834 ?_
  refine v_iconst hX li_1 qL_law_835 ?_
  refine v_iadd hX qL_law_836 ?_
  refine hl.sld (j := i + 1) (nI_add i 1) (by omega) qL_law_837 ?_
  refine v_aload_n hX rfl qL_law_838 ?_
  refine v_iload_n hX rfl qL_law_839 ?_
  refine v_iconst hX li_2 qL_law_840 ?_
  refine v_iadd hX qL_law_841 ?_
  refine hl.sld (j := i + 2) (nI_add i 2) (by omega) qL_law_842 ?_
  refine v_callVL hX hR k_L_114 (hm1.1.kd 38 rfl) (m_foundBy (by exact hm1) _ _) rfl (Nat.le_of_ble_eq_true rfl) rfl (Nat.le_of_ble_eq_true rfl) ⟨by omega, by omega⟩ qL_law_843 ?_
  rintro _ _ ⟨rfl, σ2, J2, rfl, hm2, k2⟩
  have hc2 := hc1.k58 (J := J2) hm1.1 k2
  have hN2 := hN1
  refine v_icmp_eq hX 1135 qL_law_846 rfl (fun q846 => ?_) (fun q846 => ?_)
  · skip
    refine v_widen (rt := none) (k' := 58 + 6 * (c + 1)) (n' := 4289 + 6 * (c + 1)) (by omega) (by omega) ?_
    exact kk _ _ (LwI.nx hc2 hm2 (Nat.le_trans hN2 (by omega)))
  · exact absurd rfl q846
