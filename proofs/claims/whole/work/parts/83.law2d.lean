/-! the law: a call of the class, then of the reference -/
theorem qL_law_851 : Dq cL_law 851 (.aload_n 1) 1 852 := ⟨by decide +kernel, rfl⟩
theorem qL_law_852 : Dq cL_law 852 (.invokevirtual 115) 3 855 := ⟨by decide +kernel, rfl⟩
theorem qL_law_855 : Dq cL_law 855 (.aload_n 2) 1 856 := ⟨by decide +kernel, rfl⟩
theorem qL_law_856 : Dq cL_law 856 (.invokevirtual 118) 3 859 := ⟨by decide +kernel, rfl⟩
theorem qL_law_859 : Dq cL_law 859 (.if_icmp .eq 276) 3 862 := ⟨by decide +kernel, rfl⟩
set_option maxRecDepth 100000 in
set_option maxHeartbeats 4000000 in
theorem law_24 {X : Cx} {G : Glb} {L : Nat} {xsc : Nat → Int32} {Q : State → Prop} (hl : LwX X G L xsc) {h : AHp} {E : Sst} {i c : Nat} (hi : i + 6 ≤ L) (hc64 : c < 64) (hI : LwI h E c) (kk : ∀ h' E', LwI h' E' (c + 1) → V X G 4 (58 + 6 * (c + 1)) (4289 + 6 * (c + 1)) Q 1135 [some (.ref 1000000), some (.ref 0), some (.ref 38), some (.int (nI i))] [] h') : V X G 4 (58 + 6 * c) (4289 + 6 * c) Q 851 [some (.ref 1000000), some (.ref 0), some (.ref 38), some (.int (nI i))] [] h := by
  obtain ⟨hc, hm, hN⟩ := hI
  obtain ⟨hX, hR, -⟩ := id hl
  refine v_aload_n hX rfl qL_law_851 ?_
  refine v_callVL hX hR k_L_115 (hc.1.kd 0 rfl) (c_image (by exact hc)) rfl (Nat.le_of_ble_eq_true rfl) rfl (Nat.le_of_ble_eq_true rfl) ⟨by omega, by omega⟩ qL_law_852 ?_
  rintro _ _ ⟨rfl, σ, rfl, hc1, k1⟩
  have hm1 := hm.k38 k1
  have hN1 : hpN (σ, h.2) ≤ 58 + 6 * c := hN
  refine v_aload_n hX rfl qL_law_855 ?_
  refine v_callVL hX hR k_L_118 (hm1.1.kd 38 rfl) (m_image (by exact hm1)) rfl (Nat.le_of_ble_eq_true rfl) rfl (Nat.le_of_ble_eq_true rfl) ⟨by omega, by omega⟩ qL_law_856 ?_
  rintro _ _ ⟨rfl, σ2, J2, rfl, hm2, k2⟩
  have hc2 := hc1.k58 (J := J2) hm1.1 k2
  have hN2 := hN1
  refine v_icmp_eq hX 1135 qL_law_859 rfl (fun q859 => ?_) (fun q859 => ?_)
  · skip
    refine v_widen (rt := none) (k' := 58 + 6 * (c + 1)) (n' := 4289 + 6 * (c + 1)) (by omega) (by omega) ?_
    exact kk _ _ (LwI.nx hc2 hm2 (Nat.le_trans hN2 (by omega)))
  · exact absurd rfl q859
theorem qL_law_864 : Dq cL_law 864 (.aload_n 1) 1 865 := ⟨by decide +kernel, rfl⟩
theorem qL_law_865 : Dq cL_law 865 (.invokevirtual 119) 3 868 := ⟨by decide +kernel, rfl⟩
theorem qL_law_868 : Dq cL_law 868 (.aload_n 2) 1 869 := ⟨by decide +kernel, rfl⟩
theorem qL_law_869 : Dq cL_law 869 (.invokevirtual 122) 3 872 := ⟨by decide +kernel, rfl⟩
theorem qL_law_872 : Dq cL_law 872 (.if_icmp .eq 263) 3 875 := ⟨by decide +kernel, rfl⟩
set_option maxRecDepth 100000 in
set_option maxHeartbeats 4000000 in
theorem law_25 {X : Cx} {G : Glb} {L : Nat} {xsc : Nat → Int32} {Q : State → Prop} (hl : LwX X G L xsc) {h : AHp} {E : Sst} {i c : Nat} (hi : i + 6 ≤ L) (hc64 : c < 64) (hI : LwI h E c) (kk : ∀ h' E', LwI h' E' (c + 1) → V X G 4 (58 + 6 * (c + 1)) (4289 + 6 * (c + 1)) Q 1135 [some (.ref 1000000), some (.ref 0), some (.ref 38), some (.int (nI i))] [] h') : V X G 4 (58 + 6 * c) (4289 + 6 * c) Q 864 [some (.ref 1000000), some (.ref 0), some (.ref 38), some (.int (nI i))] [] h := by
  obtain ⟨hc, hm, hN⟩ := hI
  obtain ⟨hX, hR, -⟩ := id hl
  refine v_aload_n hX rfl qL_law_864 ?_
  refine v_callVL hX hR k_L_119 (hc.1.kd 0 rfl) (c_back (by exact hc)) rfl (Nat.le_of_ble_eq_true rfl) rfl (Nat.le_of_ble_eq_true rfl) ⟨by omega, by omega⟩ qL_law_865 ?_
  rintro _ _ ⟨rfl, σ, rfl, hc1, k1⟩
  have hm1 := hm.k38 k1
  have hN1 : hpN (σ, h.2) ≤ 58 + 6 * c := hN
  refine v_aload_n hX rfl qL_law_868 ?_
  refine v_callVL hX hR k_L_122 (hm1.1.kd 38 rfl) (m_back (by exact hm1)) rfl (Nat.le_of_ble_eq_true rfl) rfl (Nat.le_of_ble_eq_true rfl) ⟨by omega, by omega⟩ qL_law_869 ?_
  rintro _ _ ⟨rfl, σ2, J2, rfl, hm2, k2⟩
  have hc2 := hc1.k58 (J := J2) hm1.1 k2
  have hN2 := hN1
  refine v_icmp_eq hX 1135 qL_law_872 rfl (fun q872 => ?_) (fun q872 => ?_)
  · skip
    refine v_widen (rt := none) (k' := 58 + 6 * (c + 1)) (n' := 4289 + 6 * (c + 1)) (by omega) (by omega) ?_
    exact kk _ _ (LwI.nx hc2 hm2 (Nat.le_trans hN2 (by omega)))
  · exact absurd rfl q872
theorem qL_law_877 : Dq cL_law 877 (.aload_n 1) 1 878 := ⟨by decide +kernel, rfl⟩
theorem qL_law_878 : Dq cL_law 878 (.aload_n 0) 1 879 := ⟨by decide +kernel, rfl⟩
theorem qL_law_879 : Dq cL_law 879 (.iload_n 3) 1 880 := ⟨by decide +kernel, rfl⟩
theorem qL_law_880 : Dq cL_law 880 (.iconst 1) 1 881 := ⟨by decide +kernel, rfl⟩
theorem qL_law_881 : Dq cL_law 881 (.iadd) 1 882 := ⟨by decide +kernel, rfl⟩
theorem qL_law_882 : Dq cL_law 882 (.iaload) 1 883 := ⟨by decide +kernel, rfl⟩
theorem qL_law_883 : Dq cL_law 883 (.invokevirtual 123) 3 886 := ⟨by decide +kernel, rfl⟩
theorem qL_law_886 : Dq cL_law 886 (.aload_n 2) 1 887 := ⟨by decide +kernel, rfl⟩
theorem qL_law_887 : Dq cL_law 887 (.aload_n 0) 1 888 := ⟨by decide +kernel, rfl⟩
theorem qL_law_888 : Dq cL_law 888 (.iload_n 3) 1 889 := ⟨by decide +kernel, rfl⟩
theorem qL_law_889 : Dq cL_law 889 (.iconst 1) 1 890 := ⟨by decide +kernel, rfl⟩
theorem qL_law_890 : Dq cL_law 890 (.iadd) 1 891 := ⟨by decide +kernel, rfl⟩
theorem qL_law_891 : Dq cL_law 891 (.iaload) 1 892 := ⟨by decide +kernel, rfl⟩
theorem qL_law_892 : Dq cL_law 892 (.invokevirtual 126) 3 895 := ⟨by decide +kernel, rfl⟩
theorem qL_law_895 : Dq cL_law 895 (.if_icmp .eq 240) 3 898 := ⟨by decide +kernel, rfl⟩
set_option maxRecDepth 100000 in
set_option maxHeartbeats 4000000 in
theorem law_26 {X : Cx} {G : Glb} {L : Nat} {xsc : Nat → Int32} {Q : State → Prop} (hl : LwX X G L xsc) {h : AHp} {E : Sst} {i c : Nat} (hi : i + 6 ≤ L) (hc64 : c < 64) (hI : LwI h E c) (kk : ∀ h' E', LwI h' E' (c + 1) → V X G 4 (58 + 6 * (c + 1)) (4289 + 6 * (c + 1)) Q 1135 [some (.ref 1000000), some (.ref 0), some (.ref 38), some (.int (nI i))] [] h') : V X G 4 (58 + 6 * c) (4289 + 6 * c) Q 877 [some (.ref 1000000), some (.ref 0), some (.ref 38), some (.int (nI i))] [] h := by
  obtain ⟨hc, hm, hN⟩ := hI
  obtain ⟨hX, hR, -⟩ := id hl
  refine v_aload_n hX rfl qL_law_877 ?_
  refine v_aload_n hX rfl qL_law_878 ?_
  refine v_iload_n hX rfl qL_law_879 ?_
  refine v_iconst hX li_1 qL_law_880 ?_
  refine v_iadd hX qL_law_881 ?_
  refine hl.sld (j := i + 1) (nI_add i 1) (by omega) qL_law_882 ?_
  refine v_callVL hX hR k_L_123 (hc.1.kd 0 rfl) (c_count (by exact hc) _) rfl (Nat.le_of_ble_eq_true rfl) rfl (Nat.le_of_ble_eq_true rfl) ⟨by omega, by omega⟩ qL_law_883 ?_
  rintro _ _ ⟨rfl, rfl⟩
  have hc1 := hc
  have hm1 := hm
  have hN1 := hN
  refine v_aload_n hX rfl qL_law_886 ?_
  refine v_aload_n hX rfl qL_law_887 ?_
  refine v_iload_n hX rfl qL_law_888 ?_
  refine v_iconst hX li_1 qL_law_889 ?_
  refine v_iadd hX qL_law_890 ?_
  refine hl.sld (j := i + 1) (nI_add i 1) (by omega) qL_law_891 ?_
  refine v_callVL hX hR k_L_126 (hm1.1.kd 38 rfl) (m_count (by exact hm1) _) rfl (Nat.le_of_ble_eq_true rfl) rfl (Nat.le_of_ble_eq_true rfl) ⟨by omega, by omega⟩ qL_law_892 ?_
  rintro _ _ ⟨rfl, rfl⟩
  have hc2 := hc1
  have hm2 := hm1
  have hN2 := hN1
  refine v_icmp_eq hX 1135 qL_law_895 rfl (fun q895 => ?_) (fun q895 => ?_)
  · skip
    refine v_widen (rt := none) (k' := 58 + 6 * (c + 1)) (n' := 4289 + 6 * (c + 1)) (by omega) (by omega) ?_
    exact kk _ _ (LwI.nx hc2 hm2 (Nat.le_trans hN2 (by omega)))
  · exact absurd rfl q895
theorem qL_law_900 : Dq cL_law 900 (.aload_n 1) 1 901 := ⟨by decide +kernel, rfl⟩
theorem qL_law_901 : Dq cL_law 901 (.aload_n 0) 1 902 := ⟨by decide +kernel, rfl⟩
theorem qL_law_902 : Dq cL_law 902 (.iload_n 3) 1 903 := ⟨by decide +kernel, rfl⟩
theorem qL_law_903 : Dq cL_law 903 (.iconst 1) 1 904 := ⟨by decide +kernel, rfl⟩
theorem qL_law_904 : Dq cL_law 904 (.iadd) 1 905 := ⟨by decide +kernel, rfl⟩
theorem qL_law_905 : Dq cL_law 905 (.iaload) 1 906 := ⟨by decide +kernel, rfl⟩
theorem qL_law_906 : Dq cL_law 906 (.aload_n 0) 1 907 := ⟨by decide +kernel, rfl⟩
theorem qL_law_907 : Dq cL_law 907 (.iload_n 3) 1 908 := ⟨by decide +kernel, rfl⟩
theorem qL_law_908 : Dq cL_law 908 (.iconst 2) 1 909 := ⟨by decide +kernel, rfl⟩
theorem qL_law_909 : Dq cL_law 909 (.iadd) 1 910 := ⟨by decide +kernel, rfl⟩
theorem qL_law_910 : Dq cL_law 910 (.iaload) 1 911 := ⟨by decide +kernel, rfl⟩
theorem qL_law_911 : Dq cL_law 911 (.aload_n 0) 1 912 := ⟨by decide +kernel, rfl⟩
theorem qL_law_912 : Dq cL_law 912 (.iload_n 3) 1 913 := ⟨by decide +kernel, rfl⟩
theorem qL_law_913 : Dq cL_law 913 (.iconst 3) 1 914 := ⟨by decide +kernel, rfl⟩
theorem qL_law_914 : Dq cL_law 914 (.iadd) 1 915 := ⟨by decide +kernel, rfl⟩
theorem qL_law_915 : Dq cL_law 915 (.iaload) 1 916 := ⟨by decide +kernel, rfl⟩
theorem qL_law_916 : Dq cL_law 916 (.invokevirtual 127) 3 919 := ⟨by decide +kernel, rfl⟩
theorem qL_law_919 : Dq cL_law 919 (.aload_n 2) 1 920 := ⟨by decide +kernel, rfl⟩
theorem qL_law_920 : Dq cL_law 920 (.aload_n 0) 1 921 := ⟨by decide +kernel, rfl⟩
theorem qL_law_921 : Dq cL_law 921 (.iload_n 3) 1 922 := ⟨by decide +kernel, rfl⟩
theorem qL_law_922 : Dq cL_law 922 (.iconst 1) 1 923 := ⟨by decide +kernel, rfl⟩
theorem qL_law_923 : Dq cL_law 923 (.iadd) 1 924 := ⟨by decide +kernel, rfl⟩
theorem qL_law_924 : Dq cL_law 924 (.iaload) 1 925 := ⟨by decide +kernel, rfl⟩
theorem qL_law_925 : Dq cL_law 925 (.aload_n 0) 1 926 := ⟨by decide +kernel, rfl⟩
theorem qL_law_926 : Dq cL_law 926 (.iload_n 3) 1 927 := ⟨by decide +kernel, rfl⟩
theorem qL_law_927 : Dq cL_law 927 (.iconst 2) 1 928 := ⟨by decide +kernel, rfl⟩
theorem qL_law_928 : Dq cL_law 928 (.iadd) 1 929 := ⟨by decide +kernel, rfl⟩
theorem qL_law_929 : Dq cL_law 929 (.iaload) 1 930 := ⟨by decide +kernel, rfl⟩
theorem qL_law_930 : Dq cL_law 930 (.aload_n 0) 1 931 := ⟨by decide +kernel, rfl⟩
theorem qL_law_931 : Dq cL_law 931 (.iload_n 3) 1 932 := ⟨by decide +kernel, rfl⟩
theorem qL_law_932 : Dq cL_law 932 (.iconst 3) 1 933 := ⟨by decide +kernel, rfl⟩
theorem qL_law_933 : Dq cL_law 933 (.iadd) 1 934 := ⟨by decide +kernel, rfl⟩
theorem qL_law_934 : Dq cL_law 934 (.iaload) 1 935 := ⟨by decide +kernel, rfl⟩
theorem qL_law_935 : Dq cL_law 935 (.invokevirtual 130) 3 938 := ⟨by decide +kernel, rfl⟩
theorem qL_law_938 : Dq cL_law 938 (.if_icmp .eq 197) 3 941 := ⟨by decide +kernel, rfl⟩
set_option maxRecDepth 100000 in
set_option maxHeartbeats 4000000 in
theorem law_27 {X : Cx} {G : Glb} {L : Nat} {xsc : Nat → Int32} {Q : State → Prop} (hl : LwX X G L xsc) {h : AHp} {E : Sst} {i c : Nat} (hi : i + 6 ≤ L) (hc64 : c < 64) (hI : LwI h E c) (kk : ∀ h' E', LwI h' E' (c + 1) → V X G 4 (58 + 6 * (c + 1)) (4289 + 6 * (c + 1)) Q 1135 [some (.ref 1000000), some (.ref 0), some (.ref 38), some (.int (nI i))] [] h') : V X G 4 (58 + 6 * c) (4289 + 6 * c) Q 900 [some (.ref 1000000), some (.ref 0), some (.ref 38), some (.int (nI i))] [] h := by
  obtain ⟨hc, hm, hN⟩ := hI
  obtain ⟨hX, hR, -⟩ := id hl
  refine v_aload_n hX rfl qL_law_900 ?_
  refine v_aload_n hX rfl qL_law_901 ?_
  refine v_iload_n hX rfl qL_law_902 ?_
  refine v_iconst hX li_1 qL_law_903 ?_
  refine v_iadd hX qL_law_904 ?_
  refine hl.sld (j := i + 1) (nI_add i 1) (by omega) qL_law_905 ?_
  refine v_aload_n hX rfl qL_law_906 ?_
  refine v_iload_n hX rfl qL_law_907 ?_
  refine v_iconst hX li_2 qL_law_908 ?_
  refine v_iadd hX qL_law_909 ?_
  refine hl.sld (j := i + 2) (nI_add i 2) (by omega) qL_law_910 ?_
  refine v_aload_n hX rfl qL_law_911 ?_
  refine v_iload_n hX rfl qL_law_912 ?_
  refine v_iconst hX li_3 qL_law_913 ?_
  refine v_iadd hX qL_law_914 ?_
  refine hl.sld (j := i + 3) (nI_add i 3) (by omega) qL_law_915 ?_
  refine v_callVL hX hR k_L_127 (hc.1.kd 0 rfl) (c_sheet (by exact hc) _ _ _) rfl (Nat.le_of_ble_eq_true rfl) rfl (Nat.le_of_ble_eq_true rfl) ⟨by omega, by omega⟩ qL_law_916 ?_
  rintro _ _ ⟨rfl, σ, rfl, hc1, k1⟩
  have hm1 := hm.k38 k1
  have hN1 : hpN (σ, h.2) ≤ 58 + 6 * c := hN
  refine v_aload_n hX rfl qL_law_919 ?_
  refine v_aload_n hX rfl qL_law_920 ?_
  refine v_iload_n hX rfl qL_law_921 ?_
  refine v_iconst hX li_1 qL_law_922 ?_
  refine v_iadd hX qL_law_923 ?_
  refine hl.sld (j := i + 1) (nI_add i 1) (by omega) qL_law_924 ?_
  refine v_aload_n hX rfl qL_law_925 ?_
  refine v_iload_n hX rfl qL_law_926 ?_
  refine v_iconst hX li_2 qL_law_927 ?_
  refine v_iadd hX qL_law_928 ?_
  refine hl.sld (j := i + 2) (nI_add i 2) (by omega) qL_law_929 ?_
  refine v_aload_n hX rfl qL_law_930 ?_
  refine v_iload_n hX rfl qL_law_931 ?_
  refine v_iconst hX li_3 qL_law_932 ?_
  refine v_iadd hX qL_law_933 ?_
  refine hl.sld (j := i + 3) (nI_add i 3) (by omega) qL_law_934 ?_
  refine v_callVL hX hR k_L_130 (hm1.1.kd 38 rfl) (m_sheet (by exact hm1) _ _ _) rfl (Nat.le_of_ble_eq_true rfl) rfl (Nat.le_of_ble_eq_true rfl) ⟨by omega, by omega⟩ qL_law_935 ?_
  rintro _ _ ⟨rfl, σ2, J2, rfl, hm2, k2⟩
  have hc2 := hc1.k58 (J := J2) hm1.1 k2
  have hN2 := hN1
  refine v_icmp_eq hX 1135 qL_law_938 rfl (fun q938 => ?_) (fun q938 => ?_)
  · skip
    refine v_widen (rt := none) (k' := 58 + 6 * (c + 1)) (n' := 4289 + 6 * (c + 1)) (by omega) (by omega) ?_
    exact kk _ _ (LwI.nx hc2 hm2 (Nat.le_trans hN2 (by omega)))
  · exact absurd rfl q938
theorem qL_law_943 : Dq cL_law 943 (.aload_n 1) 1 944 := ⟨by decide +kernel, rfl⟩
theorem qL_law_944 : Dq cL_law 944 (.aload_n 0) 1 945 := ⟨by decide +kernel, rfl⟩
theorem qL_law_945 : Dq cL_law 945 (.iload_n 3) 1 946 := ⟨by decide +kernel, rfl⟩
theorem qL_law_946 : Dq cL_law 946 (.iconst 1) 1 947 := ⟨by decide +kernel, rfl⟩
theorem qL_law_947 : Dq cL_law 947 (.iadd) 1 948 := ⟨by decide +kernel, rfl⟩
theorem qL_law_948 : Dq cL_law 948 (.iaload) 1 949 := ⟨by decide +kernel, rfl⟩
theorem qL_law_949 : Dq cL_law 949 (.aload_n 0) 1 950 := ⟨by decide +kernel, rfl⟩
theorem qL_law_950 : Dq cL_law 950 (.iload_n 3) 1 951 := ⟨by decide +kernel, rfl⟩
theorem qL_law_951 : Dq cL_law 951 (.iconst 2) 1 952 := ⟨by decide +kernel, rfl⟩
theorem qL_law_952 : Dq cL_law 952 (.iadd) 1 953 := ⟨by decide +kernel, rfl⟩
theorem qL_law_953 : Dq cL_law 953 (.iaload) 1 954 := ⟨by decide +kernel, rfl⟩
theorem qL_law_954 : Dq cL_law 954 (.aload_n 0) 1 955 := ⟨by decide +kernel, rfl⟩
theorem qL_law_955 : Dq cL_law 955 (.iload_n 3) 1 956 := ⟨by decide +kernel, rfl⟩
theorem qL_law_956 : Dq cL_law 956 (.iconst 3) 1 957 := ⟨by decide +kernel, rfl⟩
theorem qL_law_957 : Dq cL_law 957 (.iadd) 1 958 := ⟨by decide +kernel, rfl⟩
theorem qL_law_958 : Dq cL_law 958 (.iaload) 1 959 := ⟨by decide +kernel, rfl⟩
theorem qL_law_959 : Dq cL_law 959 (.invokevirtual 131) 3 962 := ⟨by decide +kernel, rfl⟩
theorem qL_law_962 : Dq cL_law 962 (.aload_n 2) 1 963 := ⟨by decide +kernel, rfl⟩
theorem qL_law_963 : Dq cL_law 963 (.aload_n 0) 1 964 := ⟨by decide +kernel, rfl⟩
theorem qL_law_964 : Dq cL_law 964 (.iload_n 3) 1 965 := ⟨by decide +kernel, rfl⟩
theorem qL_law_965 : Dq cL_law 965 (.iconst 1) 1 966 := ⟨by decide +kernel, rfl⟩
theorem qL_law_966 : Dq cL_law 966 (.iadd) 1 967 := ⟨by decide +kernel, rfl⟩
theorem qL_law_967 : Dq cL_law 967 (.iaload) 1 968 := ⟨by decide +kernel, rfl⟩
theorem qL_law_968 : Dq cL_law 968 (.aload_n 0) 1 969 := ⟨by decide +kernel, rfl⟩
theorem qL_law_969 : Dq cL_law 969 (.iload_n 3) 1 970 := ⟨by decide +kernel, rfl⟩
theorem qL_law_970 : Dq cL_law 970 (.iconst 2) 1 971 := ⟨by decide +kernel, rfl⟩
theorem qL_law_971 : Dq cL_law 971 (.iadd) 1 972 := ⟨by decide +kernel, rfl⟩
theorem qL_law_972 : Dq cL_law 972 (.iaload) 1 973 := ⟨by decide +kernel, rfl⟩
theorem qL_law_973 : Dq cL_law 973 (.aload_n 0) 1 974 := ⟨by decide +kernel, rfl⟩
theorem qL_law_974 : Dq cL_law 974 (.iload_n 3) 1 975 := ⟨by decide +kernel, rfl⟩
theorem qL_law_975 : Dq cL_law 975 (.iconst 3) 1 976 := ⟨by decide +kernel, rfl⟩
theorem qL_law_976 : Dq cL_law 976 (.iadd) 1 977 := ⟨by decide +kernel, rfl⟩
theorem qL_law_977 : Dq cL_law 977 (.iaload) 1 978 := ⟨by decide +kernel, rfl⟩
theorem qL_law_978 : Dq cL_law 978 (.invokevirtual 134) 3 981 := ⟨by decide +kernel, rfl⟩
theorem qL_law_981 : Dq cL_law 981 (.if_icmp .eq 154) 3 984 := ⟨by decide +kernel, rfl⟩
set_option maxRecDepth 100000 in
set_option maxHeartbeats 4000000 in
theorem law_28 {X : Cx} {G : Glb} {L : Nat} {xsc : Nat → Int32} {Q : State → Prop} (hl : LwX X G L xsc) {h : AHp} {E : Sst} {i c : Nat} (hi : i + 6 ≤ L) (hc64 : c < 64) (hI : LwI h E c) (kk : ∀ h' E', LwI h' E' (c + 1) → V X G 4 (58 + 6 * (c + 1)) (4289 + 6 * (c + 1)) Q 1135 [some (.ref 1000000), some (.ref 0), some (.ref 38), some (.int (nI i))] [] h') : V X G 4 (58 + 6 * c) (4289 + 6 * c) Q 943 [some (.ref 1000000), some (.ref 0), some (.ref 38), some (.int (nI i))] [] h := by
  obtain ⟨hc, hm, hN⟩ := hI
  obtain ⟨hX, hR, -⟩ := id hl
  refine v_aload_n hX rfl qL_law_943 ?_
  refine v_aload_n hX rfl qL_law_944 ?_
  refine v_iload_n hX rfl qL_law_945 ?_
  refine v_iconst hX li_1 qL_law_946 ?_
  refine v_iadd hX qL_law_947 ?_
  refine hl.sld (j := i + 1) (nI_add i 1) (by omega) qL_law_948 ?_
  refine v_aload_n hX rfl qL_law_949 ?_
  refine v_iload_n hX rfl qL_law_950 ?_
  refine v_iconst hX li_2 qL_law_951 ?_
  refine v_iadd hX qL_law_952 ?_
  refine hl.sld (j := i + 2) (nI_add i 2) (by omega) qL_law_953 ?_
  refine v_aload_n hX rfl qL_law_954 ?_
  refine v_iload_n hX rfl qL_law_955 ?_
  refine v_iconst hX li_3 qL_law_956 ?_
  refine v_iadd hX qL_law_957 ?_
  refine hl.sld (j := i + 3) (nI_add i 3) (by omega) qL_law_958 ?_
  refine v_callVL hX hR k_L_131 (hc.1.kd 0 rfl) (c_cell (by exact hc) _ _ _) rfl (Nat.le_of_ble_eq_true rfl) rfl (Nat.le_of_ble_eq_true rfl) ⟨by omega, by omega⟩ qL_law_959 ?_
  rintro _ _ ⟨rfl, σ, rfl, hc1, k1⟩
  have hm1 := hm.k38 k1
  have hN1 : hpN (σ, h.2) ≤ 58 + 6 * c := hN
  refine v_aload_n hX rfl qL_law_962 ?_
  refine v_aload_n hX rfl qL_law_963 ?_
  refine v_iload_n hX rfl qL_law_964 ?_
  refine v_iconst hX li_1 qL_law_965 ?_
  refine v_iadd hX qL_law_966 ?_
  refine hl.sld (j := i + 1) (nI_add i 1) (by omega) qL_law_967 ?_
  refine v_aload_n hX rfl qL_law_968 ?_
  refine v_iload_n hX rfl qL_law_969 ?_
  refine v_iconst hX li_2 qL_law_970 ?_
  refine v_iadd hX qL_law_971 ?_
  refine hl.sld (j := i + 2) (nI_add i 2) (by omega) qL_law_972 ?_
  refine v_aload_n hX rfl qL_law_973 ?_
  refine v_iload_n hX rfl qL_law_974 ?_
  refine v_iconst hX li_3 qL_law_975 ?_
  refine v_iadd hX qL_law_976 ?_
  refine hl.sld (j := i + 3) (nI_add i 3) (by omega) qL_law_977 ?_
  refine v_callVL hX hR k_L_134 (hm1.1.kd 38 rfl) (m_cell (by exact hm1) _ _ _) rfl (Nat.le_of_ble_eq_true rfl) rfl (Nat.le_of_ble_eq_true rfl) ⟨by omega, by omega⟩ qL_law_978 ?_
  rintro _ _ ⟨rfl, σ2, J2, rfl, hm2, k2⟩
  have hc2 := hc1.k58 (J := J2) hm1.1 k2
  have hN2 := hN1
  refine v_icmp_eq hX 1135 qL_law_981 rfl (fun q981 => ?_) (fun q981 => ?_)
  · skip
    refine v_widen (rt := none) (k' := 58 + 6 * (c + 1)) (n' := 4289 + 6 * (c + 1)) (by omega) (by omega) ?_
    exact kk _ _ (LwI.nx hc2 hm2 (Nat.le_trans hN2 (by omega)))
  · exact absurd rfl q981
theorem qL_law_986 : Dq cL_law 986 (.aload_n 1) 1 987 := ⟨by decide +kernel, rfl⟩
theorem qL_law_987 : Dq cL_law 987 (.aload_n 0) 1 988 := ⟨by decide +kernel, rfl⟩
theorem qL_law_988 : Dq cL_law 988 (.iload_n 3) 1 989 := ⟨by decide +kernel, rfl⟩
theorem qL_law_989 : Dq cL_law 989 (.iconst 1) 1 990 := ⟨by decide +kernel, rfl⟩
theorem qL_law_990 : Dq cL_law 990 (.iadd) 1 991 := ⟨by decide +kernel, rfl⟩
theorem qL_law_991 : Dq cL_law 991 (.iaload) 1 992 := ⟨by decide +kernel, rfl⟩
theorem qL_law_992 : Dq cL_law 992 (.aload_n 0) 1 993 := ⟨by decide +kernel, rfl⟩
theorem qL_law_993 : Dq cL_law 993 (.iload_n 3) 1 994 := ⟨by decide +kernel, rfl⟩
theorem qL_law_994 : Dq cL_law 994 (.iconst 2) 1 995 := ⟨by decide +kernel, rfl⟩
theorem qL_law_995 : Dq cL_law 995 (.iadd) 1 996 := ⟨by decide +kernel, rfl⟩
theorem qL_law_996 : Dq cL_law 996 (.iaload) 1 997 := ⟨by decide +kernel, rfl⟩
theorem qL_law_997 : Dq cL_law 997 (.aload_n 0) 1 998 := ⟨by decide +kernel, rfl⟩
theorem qL_law_998 : Dq cL_law 998 (.iload_n 3) 1 999 := ⟨by decide +kernel, rfl⟩
theorem qL_law_999 : Dq cL_law 999 (.iconst 3) 1 1000 := ⟨by decide +kernel, rfl⟩
theorem qL_law_1000 : Dq cL_law 1000 (.iadd) 1 1001 := ⟨by decide +kernel, rfl⟩
theorem qL_law_1001 : Dq cL_law 1001 (.iaload) 1 1002 := ⟨by decide +kernel, rfl⟩
theorem qL_law_1002 : Dq cL_law 1002 (.aload_n 0) 1 1003 := ⟨by decide +kernel, rfl⟩
theorem qL_law_1003 : Dq cL_law 1003 (.iload_n 3) 1 1004 := ⟨by decide +kernel, rfl⟩
theorem qL_law_1004 : Dq cL_law 1004 (.iconst 4) 1 1005 := ⟨by decide +kernel, rfl⟩
theorem qL_law_1005 : Dq cL_law 1005 (.iadd) 1 1006 := ⟨by decide +kernel, rfl⟩
theorem qL_law_1006 : Dq cL_law 1006 (.iaload) 1 1007 := ⟨by decide +kernel, rfl⟩
theorem qL_law_1007 : Dq cL_law 1007 (.aload_n 0) 1 1008 := ⟨by decide +kernel, rfl⟩
theorem qL_law_1008 : Dq cL_law 1008 (.iload_n 3) 1 1009 := ⟨by decide +kernel, rfl⟩
theorem qL_law_1009 : Dq cL_law 1009 (.iconst 5) 1 1010 := ⟨by decide +kernel, rfl⟩
theorem qL_law_1010 : Dq cL_law 1010 (.iadd) 1 1011 := ⟨by decide +kernel, rfl⟩
theorem qL_law_1011 : Dq cL_law 1011 (.iaload) 1 1012 := ⟨by decide +kernel, rfl⟩
theorem qL_law_1012 : Dq cL_law 1012 (.invokevirtual 135) 3 1015 := ⟨by decide +kernel, rfl⟩
theorem qL_law_1015 : Dq cL_law 1015 (.aload_n 2) 1 1016 := ⟨by decide +kernel, rfl⟩
theorem qL_law_1016 : Dq cL_law 1016 (.aload_n 0) 1 1017 := ⟨by decide +kernel, rfl⟩
theorem qL_law_1017 : Dq cL_law 1017 (.iload_n 3) 1 1018 := ⟨by decide +kernel, rfl⟩
theorem qL_law_1018 : Dq cL_law 1018 (.iconst 1) 1 1019 := ⟨by decide +kernel, rfl⟩
theorem qL_law_1019 : Dq cL_law 1019 (.iadd) 1 1020 := ⟨by decide +kernel, rfl⟩
theorem qL_law_1020 : Dq cL_law 1020 (.iaload) 1 1021 := ⟨by decide +kernel, rfl⟩
theorem qL_law_1021 : Dq cL_law 1021 (.aload_n 0) 1 1022 := ⟨by decide +kernel, rfl⟩
theorem qL_law_1022 : Dq cL_law 1022 (.iload_n 3) 1 1023 := ⟨by decide +kernel, rfl⟩
theorem qL_law_1023 : Dq cL_law 1023 (.iconst 2) 1 1024 := ⟨by decide +kernel, rfl⟩
theorem qL_law_1024 : Dq cL_law 1024 (.iadd) 1 1025 := ⟨by decide +kernel, rfl⟩
theorem qL_law_1025 : Dq cL_law 1025 (.iaload) 1 1026 := ⟨by decide +kernel, rfl⟩
theorem qL_law_1026 : Dq cL_law 1026 (.aload_n 0) 1 1027 := ⟨by decide +kernel, rfl⟩
theorem qL_law_1027 : Dq cL_law 1027 (.iload_n 3) 1 1028 := ⟨by decide +kernel, rfl⟩
theorem qL_law_1028 : Dq cL_law 1028 (.iconst 3) 1 1029 := ⟨by decide +kernel, rfl⟩
theorem qL_law_1029 : Dq cL_law 1029 (.iadd) 1 1030 := ⟨by decide +kernel, rfl⟩
theorem qL_law_1030 : Dq cL_law 1030 (.iaload) 1 1031 := ⟨by decide +kernel, rfl⟩
theorem qL_law_1031 : Dq cL_law 1031 (.aload_n 0) 1 1032 := ⟨by decide +kernel, rfl⟩
theorem qL_law_1032 : Dq cL_law 1032 (.iload_n 3) 1 1033 := ⟨by decide +kernel, rfl⟩
theorem qL_law_1033 : Dq cL_law 1033 (.iconst 4) 1 1034 := ⟨by decide +kernel, rfl⟩
theorem qL_law_1034 : Dq cL_law 1034 (.iadd) 1 1035 := ⟨by decide +kernel, rfl⟩
theorem qL_law_1035 : Dq cL_law 1035 (.iaload) 1 1036 := ⟨by decide +kernel, rfl⟩
theorem qL_law_1036 : Dq cL_law 1036 (.aload_n 0) 1 1037 := ⟨by decide +kernel, rfl⟩
theorem qL_law_1037 : Dq cL_law 1037 (.iload_n 3) 1 1038 := ⟨by decide +kernel, rfl⟩
theorem qL_law_1038 : Dq cL_law 1038 (.iconst 5) 1 1039 := ⟨by decide +kernel, rfl⟩
theorem qL_law_1039 : Dq cL_law 1039 (.iadd) 1 1040 := ⟨by decide +kernel, rfl⟩
theorem qL_law_1040 : Dq cL_law 1040 (.iaload) 1 1041 := ⟨by decide +kernel, rfl⟩
theorem qL_law_1041 : Dq cL_law 1041 (.invokevirtual 139) 3 1044 := ⟨by decide +kernel, rfl⟩
theorem qL_law_1044 : Dq cL_law 1044 (.if_icmp .eq 91) 3 1047 := ⟨by decide +kernel, rfl⟩
set_option maxRecDepth 100000 in
set_option maxHeartbeats 4000000 in
theorem law_29 {X : Cx} {G : Glb} {L : Nat} {xsc : Nat → Int32} {Q : State → Prop} (hl : LwX X G L xsc) {h : AHp} {E : Sst} {i c : Nat} (hi : i + 6 ≤ L) (hc64 : c < 64) (hI : LwI h E c) (kk : ∀ h' E', LwI h' E' (c + 1) → V X G 4 (58 + 6 * (c + 1)) (4289 + 6 * (c + 1)) Q 1135 [some (.ref 1000000), some (.ref 0), some (.ref 38), some (.int (nI i))] [] h') : V X G 4 (58 + 6 * c) (4289 + 6 * c) Q 986 [some (.ref 1000000), some (.ref 0), some (.ref 38), some (.int (nI i))] [] h := by
  obtain ⟨hc, hm, hN⟩ := hI
  obtain ⟨hX, hR, -⟩ := id hl
  refine v_aload_n hX rfl qL_law_986 ?_
  refine v_aload_n hX rfl qL_law_987 ?_
  refine v_iload_n hX rfl qL_law_988 ?_
  refine v_iconst hX li_1 qL_law_989 ?_
  refine v_iadd hX qL_law_990 ?_
  refine hl.sld (j := i + 1) (nI_add i 1) (by omega) qL_law_991 ?_
  refine v_aload_n hX rfl qL_law_992 ?_
  refine v_iload_n hX rfl qL_law_993 ?_
  refine v_iconst hX li_2 qL_law_994 ?_
  refine v_iadd hX qL_law_995 ?_
  refine hl.sld (j := i + 2) (nI_add i 2) (by omega) qL_law_996 ?_
  refine v_aload_n hX rfl qL_law_997 ?_
  refine v_iload_n hX rfl qL_law_998 ?_
  refine v_iconst hX li_3 qL_law_999 ?_
  refine v_iadd hX qL_law_1000 ?_
  refine hl.sld (j := i + 3) (nI_add i 3) (by omega) qL_law_1001 ?_
  refine v_aload_n hX rfl qL_law_1002 ?_
  refine v_iload_n hX rfl qL_law_1003 ?_
  refine v_iconst hX li_4 qL_law_1004 ?_
  refine v_iadd hX qL_law_1005 ?_
  refine hl.sld (j := i + 4) (nI_add i 4) (by omega) qL_law_1006 ?_
  refine v_aload_n hX rfl qL_law_1007 ?_
  refine v_iload_n hX rfl qL_law_1008 ?_
  refine v_iconst hX li_5 qL_law_1009 ?_
  refine v_iadd hX qL_law_1010 ?_
  refine hl.sld (j := i + 5) (nI_add i 5) (by omega) qL_law_1011 ?_
  refine v_callVL hX hR k_L_135 (hc.1.kd 0 rfl) (c_copy (by exact hc) _ _ _ _ _) rfl (Nat.le_of_ble_eq_true rfl) rfl (Nat.le_of_ble_eq_true rfl) ⟨by omega, by omega⟩ qL_law_1012 ?_
  rintro _ _ ⟨rfl, σ, rfl, hc1, k1⟩
  have hm1 := hm.k38 k1
  have hN1 : hpN (σ, h.2) ≤ 58 + 6 * c := hN
  refine v_aload_n hX rfl qL_law_1015 ?_
  refine v_aload_n hX rfl qL_law_1016 ?_
  refine v_iload_n hX rfl qL_law_1017 ?_
  refine v_iconst hX li_1 qL_law_1018 ?_
  refine v_iadd hX qL_law_1019 ?_
  refine hl.sld (j := i + 1) (nI_add i 1) (by omega) qL_law_1020 ?_
  refine v_aload_n hX rfl qL_law_1021 ?_
  refine v_iload_n hX rfl qL_law_1022 ?_
  refine v_iconst hX li_2 qL_law_1023 ?_
  refine v_iadd hX qL_law_1024 ?_
  refine hl.sld (j := i + 2) (nI_add i 2) (by omega) qL_law_1025 ?_
  refine v_aload_n hX rfl qL_law_1026 ?_
  refine v_iload_n hX rfl qL_law_1027 ?_
  refine v_iconst hX li_3 qL_law_1028 ?_
  refine v_iadd hX qL_law_1029 ?_
  refine hl.sld (j := i + 3) (nI_add i 3) (by omega) qL_law_1030 ?_
  refine v_aload_n hX rfl qL_law_1031 ?_
  refine v_iload_n hX rfl qL_law_1032 ?_
  refine v_iconst hX li_4 qL_law_1033 ?_
  refine v_iadd hX qL_law_1034 ?_
  refine hl.sld (j := i + 4) (nI_add i 4) (by omega) qL_law_1035 ?_
  refine v_aload_n hX rfl qL_law_1036 ?_
  refine v_iload_n hX rfl qL_law_1037 ?_
  refine v_iconst hX li_5 qL_law_1038 ?_
  refine v_iadd hX qL_law_1039 ?_
  refine hl.sld (j := i + 5) (nI_add i 5) (by omega) qL_law_1040 ?_
  refine v_callVL hX hR k_L_139 (hm1.1.kd 38 rfl) (m_copy (by exact hm1) _ _ _ _ _) rfl (Nat.le_of_ble_eq_true rfl) rfl (Nat.le_of_ble_eq_true rfl) ⟨by omega, by omega⟩ qL_law_1041 ?_
  rintro _ _ ⟨rfl, σ2, J2, rfl, hm2, k2⟩
  have hc2 := hc1.k58 (J := J2) hm1.1 k2
  have hN2 := hN1
  refine v_icmp_eq hX 1135 qL_law_1044 rfl (fun q1044 => ?_) (fun q1044 => ?_)
  · skip
    refine v_widen (rt := none) (k' := 58 + 6 * (c + 1)) (n' := 4289 + 6 * (c + 1)) (by omega) (by omega) ?_
    exact kk _ _ (LwI.nx hc2 hm2 (Nat.le_trans hN2 (by omega)))
  · exact absurd rfl q1044
theorem qL_law_1049 : Dq cL_law 1049 (.aload_n 1) 1 1050 := ⟨by decide +kernel, rfl⟩
theorem qL_law_1050 : Dq cL_law 1050 (.aload_n 0) 1 1051 := ⟨by decide +kernel, rfl⟩
theorem qL_law_1051 : Dq cL_law 1051 (.iload_n 3) 1 1052 := ⟨by decide +kernel, rfl⟩
theorem qL_law_1052 : Dq cL_law 1052 (.iconst 1) 1 1053 := ⟨by decide +kernel, rfl⟩
theorem qL_law_1053 : Dq cL_law 1053 (.iadd) 1 1054 := ⟨by decide +kernel, rfl⟩
theorem qL_law_1054 : Dq cL_law 1054 (.iaload) 1 1055 := ⟨by decide +kernel, rfl⟩
theorem qL_law_1055 : Dq cL_law 1055 (.aload_n 0) 1 1056 := ⟨by decide +kernel, rfl⟩
theorem qL_law_1056 : Dq cL_law 1056 (.iload_n 3) 1 1057 := ⟨by decide +kernel, rfl⟩
theorem qL_law_1057 : Dq cL_law 1057 (.iconst 2) 1 1058 := ⟨by decide +kernel, rfl⟩
theorem qL_law_1058 : Dq cL_law 1058 (.iadd) 1 1059 := ⟨by decide +kernel, rfl⟩
theorem qL_law_1059 : Dq cL_law 1059 (.iaload) 1 1060 := ⟨by decide +kernel, rfl⟩
theorem qL_law_1060 : Dq cL_law 1060 (.aload_n 0) 1 1061 := ⟨by decide +kernel, rfl⟩
theorem qL_law_1061 : Dq cL_law 1061 (.iload_n 3) 1 1062 := ⟨by decide +kernel, rfl⟩
theorem qL_law_1062 : Dq cL_law 1062 (.iconst 3) 1 1063 := ⟨by decide +kernel, rfl⟩
theorem qL_law_1063 : Dq cL_law 1063 (.iadd) 1 1064 := ⟨by decide +kernel, rfl⟩
theorem qL_law_1064 : Dq cL_law 1064 (.iaload) 1 1065 := ⟨by decide +kernel, rfl⟩
theorem qL_law_1065 : Dq cL_law 1065 (.aload_n 0) 1 1066 := ⟨by decide +kernel, rfl⟩
theorem qL_law_1066 : Dq cL_law 1066 (.iload_n 3) 1 1067 := ⟨by decide +kernel, rfl⟩
theorem qL_law_1067 : Dq cL_law 1067 (.iconst 4) 1 1068 := ⟨by decide +kernel, rfl⟩
theorem qL_law_1068 : Dq cL_law 1068 (.iadd) 1 1069 := ⟨by decide +kernel, rfl⟩
theorem qL_law_1069 : Dq cL_law 1069 (.iaload) 1 1070 := ⟨by decide +kernel, rfl⟩
theorem qL_law_1070 : Dq cL_law 1070 (.invokevirtual 140) 3 1073 := ⟨by decide +kernel, rfl⟩
theorem qL_law_1073 : Dq cL_law 1073 (.aload_n 2) 1 1074 := ⟨by decide +kernel, rfl⟩
theorem qL_law_1074 : Dq cL_law 1074 (.aload_n 0) 1 1075 := ⟨by decide +kernel, rfl⟩
theorem qL_law_1075 : Dq cL_law 1075 (.iload_n 3) 1 1076 := ⟨by decide +kernel, rfl⟩
theorem qL_law_1076 : Dq cL_law 1076 (.iconst 1) 1 1077 := ⟨by decide +kernel, rfl⟩
theorem qL_law_1077 : Dq cL_law 1077 (.iadd) 1 1078 := ⟨by decide +kernel, rfl⟩
theorem qL_law_1078 : Dq cL_law 1078 (.iaload) 1 1079 := ⟨by decide +kernel, rfl⟩
theorem qL_law_1079 : Dq cL_law 1079 (.aload_n 0) 1 1080 := ⟨by decide +kernel, rfl⟩
theorem qL_law_1080 : Dq cL_law 1080 (.iload_n 3) 1 1081 := ⟨by decide +kernel, rfl⟩
theorem qL_law_1081 : Dq cL_law 1081 (.iconst 2) 1 1082 := ⟨by decide +kernel, rfl⟩
theorem qL_law_1082 : Dq cL_law 1082 (.iadd) 1 1083 := ⟨by decide +kernel, rfl⟩
theorem qL_law_1083 : Dq cL_law 1083 (.iaload) 1 1084 := ⟨by decide +kernel, rfl⟩
theorem qL_law_1084 : Dq cL_law 1084 (.aload_n 0) 1 1085 := ⟨by decide +kernel, rfl⟩
theorem qL_law_1085 : Dq cL_law 1085 (.iload_n 3) 1 1086 := ⟨by decide +kernel, rfl⟩
theorem qL_law_1086 : Dq cL_law 1086 (.iconst 3) 1 1087 := ⟨by decide +kernel, rfl⟩
theorem qL_law_1087 : Dq cL_law 1087 (.iadd) 1 1088 := ⟨by decide +kernel, rfl⟩
theorem qL_law_1088 : Dq cL_law 1088 (.iaload) 1 1089 := ⟨by decide +kernel, rfl⟩
theorem qL_law_1089 : Dq cL_law 1089 (.aload_n 0) 1 1090 := ⟨by decide +kernel, rfl⟩
theorem qL_law_1090 : Dq cL_law 1090 (.iload_n 3) 1 1091 := ⟨by decide +kernel, rfl⟩
theorem qL_law_1091 : Dq cL_law 1091 (.iconst 4) 1 1092 := ⟨by decide +kernel, rfl⟩
theorem qL_law_1092 : Dq cL_law 1092 (.iadd) 1 1093 := ⟨by decide +kernel, rfl⟩
theorem qL_law_1093 : Dq cL_law 1093 (.iaload) 1 1094 := ⟨by decide +kernel, rfl⟩
theorem qL_law_1094 : Dq cL_law 1094 (.invokevirtual 144) 3 1097 := ⟨by decide +kernel, rfl⟩
theorem qL_law_1097 : Dq cL_law 1097 (.if_icmp .eq 38) 3 1100 := ⟨by decide +kernel, rfl⟩
set_option maxRecDepth 100000 in
set_option maxHeartbeats 4000000 in
theorem law_30 {X : Cx} {G : Glb} {L : Nat} {xsc : Nat → Int32} {Q : State → Prop} (hl : LwX X G L xsc) {h : AHp} {E : Sst} {i c : Nat} (hi : i + 6 ≤ L) (hc64 : c < 64) (hI : LwI h E c) (kk : ∀ h' E', LwI h' E' (c + 1) → V X G 4 (58 + 6 * (c + 1)) (4289 + 6 * (c + 1)) Q 1135 [some (.ref 1000000), some (.ref 0), some (.ref 38), some (.int (nI i))] [] h') : V X G 4 (58 + 6 * c) (4289 + 6 * c) Q 1049 [some (.ref 1000000), some (.ref 0), some (.ref 38), some (.int (nI i))] [] h := by
  obtain ⟨hc, hm, hN⟩ := hI
  obtain ⟨hX, hR, -⟩ := id hl
  refine v_aload_n hX rfl qL_law_1049 ?_
  refine v_aload_n hX rfl qL_law_1050 ?_
  refine v_iload_n hX rfl qL_law_1051 ?_
  refine v_iconst hX li_1 qL_law_1052 ?_
  refine v_iadd hX qL_law_1053 ?_
  refine hl.sld (j := i + 1) (nI_add i 1) (by omega) qL_law_1054 ?_
  refine v_aload_n hX rfl qL_law_1055 ?_
  refine v_iload_n hX rfl qL_law_1056 ?_
  refine v_iconst hX li_2 qL_law_1057 ?_
  refine v_iadd hX qL_law_1058 ?_
  refine hl.sld (j := i + 2) (nI_add i 2) (by omega) qL_law_1059 ?_
  refine v_aload_n hX rfl qL_law_1060 ?_
  refine v_iload_n hX rfl qL_law_1061 ?_
  refine v_iconst hX li_3 qL_law_1062 ?_
  refine v_iadd hX qL_law_1063 ?_
  refine hl.sld (j := i + 3) (nI_add i 3) (by omega) qL_law_1064 ?_
  refine v_aload_n hX rfl qL_law_1065 ?_
  refine v_iload_n hX rfl qL_law_1066 ?_
  refine v_iconst hX li_4 qL_law_1067 ?_
  refine v_iadd hX qL_law_1068 ?_
  refine hl.sld (j := i + 4) (nI_add i 4) (by omega) qL_law_1069 ?_
  refine v_callVL' hX hR k_L_140 (hc.1.kd 0 rfl) (c_lookers (by exact hc) (by omega) _ _ _ _) rfl (Nat.le_of_ble_eq_true rfl) rfl (Nat.le_of_ble_eq_true rfl) ⟨by omega, by omega⟩ qL_law_1070 ?_
  rintro _ _ ⟨rfl, hc1, k1, n1⟩
  have hm1 := hm.kp k1
  have hN1 : hpN _ ≤ 58 + 6 * c + 6 := Nat.le_trans n1 (by omega)
  refine v_aload_n hX rfl qL_law_1073 ?_
  refine v_aload_n hX rfl qL_law_1074 ?_
  refine v_iload_n hX rfl qL_law_1075 ?_
  refine v_iconst hX li_1 qL_law_1076 ?_
  refine v_iadd hX qL_law_1077 ?_
  refine hl.sld (j := i + 1) (nI_add i 1) (by omega) qL_law_1078 ?_
  refine v_aload_n hX rfl qL_law_1079 ?_
  refine v_iload_n hX rfl qL_law_1080 ?_
  refine v_iconst hX li_2 qL_law_1081 ?_
  refine v_iadd hX qL_law_1082 ?_
  refine hl.sld (j := i + 2) (nI_add i 2) (by omega) qL_law_1083 ?_
  refine v_aload_n hX rfl qL_law_1084 ?_
  refine v_iload_n hX rfl qL_law_1085 ?_
  refine v_iconst hX li_3 qL_law_1086 ?_
  refine v_iadd hX qL_law_1087 ?_
  refine hl.sld (j := i + 3) (nI_add i 3) (by omega) qL_law_1088 ?_
  refine v_aload_n hX rfl qL_law_1089 ?_
  refine v_iload_n hX rfl qL_law_1090 ?_
  refine v_iconst hX li_4 qL_law_1091 ?_
  refine v_iadd hX qL_law_1092 ?_
  refine hl.sld (j := i + 4) (nI_add i 4) (by omega) qL_law_1093 ?_
  refine v_callVL hX hR k_L_144 (hm1.1.kd 38 rfl) (m_lookers (by exact hm1) _ _ _ _) rfl (Nat.le_of_ble_eq_true rfl) rfl (Nat.le_of_ble_eq_true rfl) ⟨by omega, by omega⟩ qL_law_1094 ?_
  rintro _ _ ⟨rfl, σ2, J2, rfl, hm2, k2⟩
  have hc2 := hc1.k58 (J := J2) hm1.1 k2
  have hN2 := hN1
  refine v_icmp_eq hX 1135 qL_law_1097 rfl (fun q1097 => ?_) (fun q1097 => ?_)
  · skip
    refine v_widen (rt := none) (k' := 58 + 6 * (c + 1)) (n' := 4289 + 6 * (c + 1)) (by omega) (by omega) ?_
    exact kk _ _ (LwI.nx hc2 hm2 (Nat.le_trans hN2 (by omega)))
  · exact absurd rfl q1097
theorem qL_law_1102 : Dq cL_law 1102 (.aload_n 1) 1 1103 := ⟨by decide +kernel, rfl⟩
theorem qL_law_1103 : Dq cL_law 1103 (.aload_n 0) 1 1104 := ⟨by decide +kernel, rfl⟩
theorem qL_law_1104 : Dq cL_law 1104 (.iload_n 3) 1 1105 := ⟨by decide +kernel, rfl⟩
theorem qL_law_1105 : Dq cL_law 1105 (.iconst 1) 1 1106 := ⟨by decide +kernel, rfl⟩
theorem qL_law_1106 : Dq cL_law 1106 (.iadd) 1 1107 := ⟨by decide +kernel, rfl⟩
theorem qL_law_1107 : Dq cL_law 1107 (.iaload) 1 1108 := ⟨by decide +kernel, rfl⟩
theorem qL_law_1108 : Dq cL_law 1108 (.aload_n 0) 1 1109 := ⟨by decide +kernel, rfl⟩
theorem qL_law_1109 : Dq cL_law 1109 (.iload_n 3) 1 1110 := ⟨by decide +kernel, rfl⟩
theorem qL_law_1110 : Dq cL_law 1110 (.iconst 2) 1 1111 := ⟨by decide +kernel, rfl⟩
theorem qL_law_1111 : Dq cL_law 1111 (.iadd) 1 1112 := ⟨by decide +kernel, rfl⟩
theorem qL_law_1112 : Dq cL_law 1112 (.iaload) 1 1113 := ⟨by decide +kernel, rfl⟩
theorem qL_law_1113 : Dq cL_law 1113 (.invokevirtual 145) 3 1116 := ⟨by decide +kernel, rfl⟩
theorem qL_law_1116 : Dq cL_law 1116 (.aload_n 2) 1 1117 := ⟨by decide +kernel, rfl⟩
theorem qL_law_1117 : Dq cL_law 1117 (.aload_n 0) 1 1118 := ⟨by decide +kernel, rfl⟩
theorem qL_law_1118 : Dq cL_law 1118 (.iload_n 3) 1 1119 := ⟨by decide +kernel, rfl⟩
theorem qL_law_1119 : Dq cL_law 1119 (.iconst 1) 1 1120 := ⟨by decide +kernel, rfl⟩
theorem qL_law_1120 : Dq cL_law 1120 (.iadd) 1 1121 := ⟨by decide +kernel, rfl⟩
theorem qL_law_1121 : Dq cL_law 1121 (.iaload) 1 1122 := ⟨by decide +kernel, rfl⟩
theorem qL_law_1122 : Dq cL_law 1122 (.aload_n 0) 1 1123 := ⟨by decide +kernel, rfl⟩
theorem qL_law_1123 : Dq cL_law 1123 (.iload_n 3) 1 1124 := ⟨by decide +kernel, rfl⟩
theorem qL_law_1124 : Dq cL_law 1124 (.iconst 2) 1 1125 := ⟨by decide +kernel, rfl⟩
theorem qL_law_1125 : Dq cL_law 1125 (.iadd) 1 1126 := ⟨by decide +kernel, rfl⟩
theorem qL_law_1126 : Dq cL_law 1126 (.iaload) 1 1127 := ⟨by decide +kernel, rfl⟩
theorem qL_law_1127 : Dq cL_law 1127 (.invokevirtual 148) 3 1130 := ⟨by decide +kernel, rfl⟩
theorem qL_law_1130 : Dq cL_law 1130 (.if_icmp .eq 5) 3 1133 := ⟨by decide +kernel, rfl⟩
set_option maxRecDepth 100000 in
set_option maxHeartbeats 4000000 in
theorem law_31 {X : Cx} {G : Glb} {L : Nat} {xsc : Nat → Int32} {Q : State → Prop} (hl : LwX X G L xsc) {h : AHp} {E : Sst} {i c : Nat} (hi : i + 6 ≤ L) (hc64 : c < 64) (hI : LwI h E c) (kk : ∀ h' E', LwI h' E' (c + 1) → V X G 4 (58 + 6 * (c + 1)) (4289 + 6 * (c + 1)) Q 1135 [some (.ref 1000000), some (.ref 0), some (.ref 38), some (.int (nI i))] [] h') : V X G 4 (58 + 6 * c) (4289 + 6 * c) Q 1102 [some (.ref 1000000), some (.ref 0), some (.ref 38), some (.int (nI i))] [] h := by
  obtain ⟨hc, hm, hN⟩ := hI
  obtain ⟨hX, hR, -⟩ := id hl
  refine v_aload_n hX rfl qL_law_1102 ?_
  refine v_aload_n hX rfl qL_law_1103 ?_
  refine v_iload_n hX rfl qL_law_1104 ?_
  refine v_iconst hX li_1 qL_law_1105 ?_
  refine v_iadd hX qL_law_1106 ?_
  refine hl.sld (j := i + 1) (nI_add i 1) (by omega) qL_law_1107 ?_
  refine v_aload_n hX rfl qL_law_1108 ?_
  refine v_iload_n hX rfl qL_law_1109 ?_
  refine v_iconst hX li_2 qL_law_1110 ?_
  refine v_iadd hX qL_law_1111 ?_
  refine hl.sld (j := i + 2) (nI_add i 2) (by omega) qL_law_1112 ?_
  refine v_callVL hX hR k_L_145 (hc.1.kd 0 rfl) (c_taken (by exact hc) _ _) rfl (Nat.le_of_ble_eq_true rfl) rfl (Nat.le_of_ble_eq_true rfl) ⟨by omega, by omega⟩ qL_law_1113 ?_
  rintro _ _ ⟨rfl, rfl⟩
  have hc1 := hc
  have hm1 := hm
  have hN1 := hN
  refine v_aload_n hX rfl qL_law_1116 ?_
  refine v_aload_n hX rfl qL_law_1117 ?_
  refine v_iload_n hX rfl qL_law_1118 ?_
  refine v_iconst hX li_1 qL_law_1119 ?_
  refine v_iadd hX qL_law_1120 ?_
  refine hl.sld (j := i + 1) (nI_add i 1) (by omega) qL_law_1121 ?_
  refine v_aload_n hX rfl qL_law_1122 ?_
  refine v_iload_n hX rfl qL_law_1123 ?_
  refine v_iconst hX li_2 qL_law_1124 ?_
  refine v_iadd hX qL_law_1125 ?_
  refine hl.sld (j := i + 2) (nI_add i 2) (by omega) qL_law_1126 ?_
  refine v_callVL hX hR k_L_148 (hm1.1.kd 38 rfl) (m_taken (by exact hm1) _ _) rfl (Nat.le_of_ble_eq_true rfl) rfl (Nat.le_of_ble_eq_true rfl) ⟨by omega, by omega⟩ qL_law_1127 ?_
  rintro _ _ ⟨rfl, rfl⟩
  have hc2 := hc1
  have hm2 := hm1
  have hN2 := hN1
  refine v_icmp_eq hX 1135 qL_law_1130 rfl (fun q1130 => ?_) (fun q1130 => ?_)
  · skip
    refine v_widen (rt := none) (k' := 58 + 6 * (c + 1)) (n' := 4289 + 6 * (c + 1)) (by omega) (by omega) ?_
    exact kk _ _ (LwI.nx hc2 hm2 (Nat.le_trans hN2 (by omega)))
  · exact absurd rfl q1130
