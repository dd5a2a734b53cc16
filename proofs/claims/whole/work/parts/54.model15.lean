/-! the reference: lookers -/
theorem lk_ar : ∀ s : Fin 41, ∀ k : Fin 7, nI s.1 - 2 * nI k.1 - 2 = nI s.1 - nI (2 * k.1 + 2) := by decide +kernel
theorem lk_le {f s k : Nat} (hf : f < 2 ^ 31) (hs : s ≤ 40) (hk : k ≤ 6) : nI f ≤ nI s - nI (2 * k + 2) ↔ f + 2 * k + 2 ≤ s := by
  rw [leI, pk_sub_toInt (by omega) (by omega), nI_toInt hf]
  omega
theorem qX12_lookers_0 : Dq cX12_lookers 0 (.iload_n 1) 1 1 := ⟨by decide +kernel, rfl⟩
theorem qX12_lookers_1 : Dq cX12_lookers 1 (.invokestatic 333) 3 4 := ⟨by decide +kernel, rfl⟩
theorem qX12_lookers_4 : Dq cX12_lookers 4 (.ifCond .eq 28) 3 7 := ⟨by decide +kernel, rfl⟩
theorem qX12_lookers_7 : Dq cX12_lookers 7 (.iload_n 2) 1 8 := ⟨by decide +kernel, rfl⟩
theorem qX12_lookers_8 : Dq cX12_lookers 8 (.i2l) 1 9 := ⟨by decide +kernel, rfl⟩
theorem qX12_lookers_9 : Dq cX12_lookers 9 (.lconst 0) 1 10 := ⟨by decide +kernel, rfl⟩
theorem qX12_lookers_10 : Dq cX12_lookers 10 (.ldc2_w 289) 3 13 := ⟨by decide +kernel, rfl⟩
theorem qX12_lookers_13 : Dq cX12_lookers 13 (.invokestatic 87) 3 16 := ⟨by decide +kernel, rfl⟩
theorem qX12_lookers_16 : Dq cX12_lookers 16 (.ifCond .eq 16) 3 19 := ⟨by decide +kernel, rfl⟩
theorem qX12_lookers_19 : Dq cX12_lookers 19 (.iload 4) 2 21 := ⟨by decide +kernel, rfl⟩
theorem qX12_lookers_21 : Dq cX12_lookers 21 (.i2l) 1 22 := ⟨by decide +kernel, rfl⟩
theorem qX12_lookers_22 : Dq cX12_lookers 22 (.lconst 0) 1 23 := ⟨by decide +kernel, rfl⟩
theorem qX12_lookers_23 : Dq cX12_lookers 23 (.ldc2_w 368) 3 26 := ⟨by decide +kernel, rfl⟩
theorem qX12_lookers_26 : Dq cX12_lookers 26 (.invokestatic 87) 3 29 := ⟨by decide +kernel, rfl⟩
theorem qX12_lookers_29 : Dq cX12_lookers 29 (.ifCond .ne 6) 3 32 := ⟨by decide +kernel, rfl⟩
theorem qX12_lookers_32 : Dq cX12_lookers 32 (.bipush (-2)) 2 34 := ⟨by decide +kernel, rfl⟩
theorem qX12_lookers_34 : Dq cX12_lookers 34 (.ireturn) 1 35 := ⟨by decide +kernel, rfl⟩
theorem qX12_lookers_35 : Dq cX12_lookers 35 (.aload_n 0) 1 36 := ⟨by decide +kernel, rfl⟩
theorem qX12_lookers_36 : Dq cX12_lookers 36 (.getfield 65) 3 39 := ⟨by decide +kernel, rfl⟩
theorem qX12_lookers_39 : Dq cX12_lookers 39 (.iload_n 1) 1 40 := ⟨by decide +kernel, rfl⟩
theorem qX12_lookers_40 : Dq cX12_lookers 40 (.baload) 1 41 := ⟨by decide +kernel, rfl⟩
theorem qX12_lookers_41 : Dq cX12_lookers 41 (.ifCond .eq 16) 3 44 := ⟨by decide +kernel, rfl⟩
theorem qX12_lookers_44 : Dq cX12_lookers 44 (.aload_n 0) 1 45 := ⟨by decide +kernel, rfl⟩
theorem qX12_lookers_45 : Dq cX12_lookers 45 (.getfield 69) 3 48 := ⟨by decide +kernel, rfl⟩
theorem qX12_lookers_48 : Dq cX12_lookers 48 (.iload_n 1) 1 49 := ⟨by decide +kernel, rfl⟩
theorem qX12_lookers_49 : Dq cX12_lookers 49 (.iaload) 1 50 := ⟨by decide +kernel, rfl⟩
theorem qX12_lookers_50 : Dq cX12_lookers 50 (.iload_n 2) 1 51 := ⟨by decide +kernel, rfl⟩
theorem qX12_lookers_51 : Dq cX12_lookers 51 (.if_icmp .eq 6) 3 54 := ⟨by decide +kernel, rfl⟩
theorem qX12_lookers_54 : Dq cX12_lookers 54 (.bipush (-13)) 2 56 := ⟨by decide +kernel, rfl⟩
theorem qX12_lookers_56 : Dq cX12_lookers 56 (.ireturn) 1 57 := ⟨by decide +kernel, rfl⟩
theorem qX12_lookers_57 : Dq cX12_lookers 57 (.aload_n 0) 1 58 := ⟨by decide +kernel, rfl⟩
theorem qX12_lookers_58 : Dq cX12_lookers 58 (.getfield 65) 3 61 := ⟨by decide +kernel, rfl⟩
theorem qX12_lookers_61 : Dq cX12_lookers 61 (.iload_n 1) 1 62 := ⟨by decide +kernel, rfl⟩
theorem qX12_lookers_62 : Dq cX12_lookers 62 (.baload) 1 63 := ⟨by decide +kernel, rfl⟩
theorem qX12_lookers_63 : Dq cX12_lookers 63 (.ifCond .ne 6) 3 66 := ⟨by decide +kernel, rfl⟩
theorem qX12_lookers_66 : Dq cX12_lookers 66 (.bipush (-11)) 2 68 := ⟨by decide +kernel, rfl⟩
theorem qX12_lookers_68 : Dq cX12_lookers 68 (.ireturn) 1 69 := ⟨by decide +kernel, rfl⟩
theorem qX12_lookers_69 : Dq cX12_lookers 69 (.iconst 0) 1 70 := ⟨by decide +kernel, rfl⟩
theorem qX12_lookers_70 : Dq cX12_lookers 70 (.istore 5) 2 72 := ⟨by decide +kernel, rfl⟩
theorem qX12_lookers_72 : Dq cX12_lookers 72 (.iconst 0) 1 73 := ⟨by decide +kernel, rfl⟩
theorem qX12_lookers_73 : Dq cX12_lookers 73 (.istore 6) 2 75 := ⟨by decide +kernel, rfl⟩
theorem qX12_lookers_75 : Dq cX12_lookers 75 (.iload 6) 2 77 := ⟨by decide +kernel, rfl⟩
theorem qX12_lookers_77 : Dq cX12_lookers 77 (.iload 4) 2 79 := ⟨by decide +kernel, rfl⟩
theorem qX12_lookers_79 : Dq cX12_lookers 79 (.if_icmp .ge 79) 3 82 := ⟨by decide +kernel, rfl⟩
theorem qX12_lookers_82 : Dq cX12_lookers 82 (.iload_n 3) 1 83 := ⟨by decide +kernel, rfl⟩
theorem qX12_lookers_83 : Dq cX12_lookers 83 (.ifCond .lt 20) 3 86 := ⟨by decide +kernel, rfl⟩
theorem qX12_lookers_86 : Dq cX12_lookers 86 (.iload_n 3) 1 87 := ⟨by decide +kernel, rfl⟩
theorem qX12_lookers_87 : Dq cX12_lookers 87 (.aload_n 0) 1 88 := ⟨by decide +kernel, rfl⟩
theorem qX12_lookers_88 : Dq cX12_lookers 88 (.getfield 72) 3 91 := ⟨by decide +kernel, rfl⟩
theorem qX12_lookers_91 : Dq cX12_lookers 91 (.iload_n 1) 1 92 := ⟨by decide +kernel, rfl⟩
theorem qX12_lookers_92 : Dq cX12_lookers 92 (.iaload) 1 93 := ⟨by decide +kernel, rfl⟩
theorem qX12_lookers_93 : Dq cX12_lookers 93 (.iconst 2) 1 94 := ⟨by decide +kernel, rfl⟩
theorem qX12_lookers_94 : Dq cX12_lookers 94 (.iload 6) 2 96 := ⟨by decide +kernel, rfl⟩
theorem qX12_lookers_96 : Dq cX12_lookers 96 (.imul) 1 97 := ⟨by decide +kernel, rfl⟩
theorem qX12_lookers_97 : Dq cX12_lookers 97 (.isub) 1 98 := ⟨by decide +kernel, rfl⟩
theorem qX12_lookers_98 : Dq cX12_lookers 98 (.iconst 2) 1 99 := ⟨by decide +kernel, rfl⟩
theorem qX12_lookers_99 : Dq cX12_lookers 99 (.isub) 1 100 := ⟨by decide +kernel, rfl⟩
theorem qX12_lookers_100 : Dq cX12_lookers 100 (.if_icmp .le 6) 3 103 := ⟨by decide +kernel, rfl⟩
theorem qX12_lookers_103 : Dq cX12_lookers 103 (.bipush (-12)) 2 105 := ⟨by decide +kernel, rfl⟩
theorem qX12_lookers_105 : Dq cX12_lookers 105 (.ireturn) 1 106 := ⟨by decide +kernel, rfl⟩
theorem qX12_lookers_106 : Dq cX12_lookers 106 (.bipush 40) 2 108 := ⟨by decide +kernel, rfl⟩
theorem qX12_lookers_108 : Dq cX12_lookers 108 (.iload_n 1) 1 109 := ⟨by decide +kernel, rfl⟩
theorem qX12_lookers_109 : Dq cX12_lookers 109 (.imul) 1 110 := ⟨by decide +kernel, rfl⟩
theorem qX12_lookers_110 : Dq cX12_lookers 110 (.iload_n 3) 1 111 := ⟨by decide +kernel, rfl⟩
theorem qX12_lookers_111 : Dq cX12_lookers 111 (.iadd) 1 112 := ⟨by decide +kernel, rfl⟩
theorem qX12_lookers_112 : Dq cX12_lookers 112 (.iconst 2) 1 113 := ⟨by decide +kernel, rfl⟩
theorem qX12_lookers_113 : Dq cX12_lookers 113 (.iload 6) 2 115 := ⟨by decide +kernel, rfl⟩
theorem qX12_lookers_115 : Dq cX12_lookers 115 (.imul) 1 116 := ⟨by decide +kernel, rfl⟩
theorem qX12_lookers_116 : Dq cX12_lookers 116 (.iadd) 1 117 := ⟨by decide +kernel, rfl⟩
theorem qX12_lookers_117 : Dq cX12_lookers 117 (.istore 7) 2 119 := ⟨by decide +kernel, rfl⟩
theorem qX12_lookers_119 : Dq cX12_lookers 119 (.iload 5) 2 121 := ⟨by decide +kernel, rfl⟩
theorem qX12_lookers_121 : Dq cX12_lookers 121 (.aload_n 0) 1 122 := ⟨by decide +kernel, rfl⟩
theorem qX12_lookers_122 : Dq cX12_lookers 122 (.aload_n 0) 1 123 := ⟨by decide +kernel, rfl⟩
theorem qX12_lookers_123 : Dq cX12_lookers 123 (.getfield 75) 3 126 := ⟨by decide +kernel, rfl⟩
theorem qX12_lookers_126 : Dq cX12_lookers 126 (.iload 7) 2 128 := ⟨by decide +kernel, rfl⟩
theorem qX12_lookers_128 : Dq cX12_lookers 128 (.iaload) 1 129 := ⟨by decide +kernel, rfl⟩
theorem qX12_lookers_129 : Dq cX12_lookers 129 (.aload_n 0) 1 130 := ⟨by decide +kernel, rfl⟩
theorem qX12_lookers_130 : Dq cX12_lookers 130 (.getfield 75) 3 133 := ⟨by decide +kernel, rfl⟩
theorem qX12_lookers_133 : Dq cX12_lookers 133 (.iload 7) 2 135 := ⟨by decide +kernel, rfl⟩
theorem qX12_lookers_135 : Dq cX12_lookers 135 (.iconst 1) 1 136 := ⟨by decide +kernel, rfl⟩
theorem qX12_lookers_136 : Dq cX12_lookers 136 (.iadd) 1 137 := ⟨by decide +kernel, rfl⟩
theorem qX12_lookers_137 : Dq cX12_lookers 137 (.iaload) 1 138 := ⟨by decide +kernel, rfl⟩
theorem qX12_lookers_138 : Dq cX12_lookers 138 (.invokevirtual 370) 3 141 := ⟨by decide +kernel, rfl⟩
theorem qX12_lookers_141 : Dq cX12_lookers 141 (.ifCond .lt 7) 3 144 := ⟨by decide +kernel, rfl⟩
theorem qX12_lookers_144 : Dq cX12_lookers 144 (.iconst 1) 1 145 := ⟨by decide +kernel, rfl⟩
theorem qX12_lookers_145 : Dq cX12_lookers 145 (.goto 4) 3 148 := ⟨by decide +kernel, rfl⟩
theorem qX12_lookers_148 : Dq cX12_lookers 148 (.iconst 0) 1 149 := ⟨by decide +kernel, rfl⟩
theorem qX12_lookers_149 : Dq cX12_lookers 149 (.iadd) 1 150 := ⟨by decide +kernel, rfl⟩
theorem qX12_lookers_150 : Dq cX12_lookers 150 (.istore 5) 2 152 := ⟨by decide +kernel, rfl⟩
theorem qX12_lookers_152 : Dq cX12_lookers 152 (.iinc 6 1) 3 155 := ⟨by decide +kernel, rfl⟩
theorem qX12_lookers_155 : Dq cX12_lookers 155 (.goto (-80)) 3 158 := ⟨by decide +kernel, rfl⟩
theorem qX12_lookers_158 : Dq cX12_lookers 158 (.iload 5) 2 160 := ⟨by decide +kernel, rfl⟩
theorem qX12_lookers_160 : Dq cX12_lookers 160 (.ireturn) 1 161 := ⟨by decide +kernel, rfl⟩
set_option maxRecDepth 100000 in
set_option maxHeartbeats 4000000 in
theorem m_lookers {G : Glb} {h : AHp} {E : Sst} (hc : MW h E) (s so fr nn : Int32) : CP G m_X12_lookers 3 0 0 [.ref 38, .int s, .int so, .int fr, .int nn] h (fun r h' => r = some (.int (lookersI E s so fr nn).1) ∧ ∃ σ J, h' = mkH h σ J ∧ MW (mkH h σ J) (lookersI E s so fr nn).2 ∧ K58 h σ) := by
  suffices key : ∀ P : Option Value → AHp → Prop, (∀ r h', (r = some (.int (lookersI E s so fr nn).1) ∧ ∃ σ J, h' = mkH h σ J ∧ MW (mkH h σ J) (lookersI E s so fr nn).2 ∧ K58 h σ) → P r h') → CP G m_X12_lookers 3 0 0 [.ref 38, .int s, .int so, .int fr, .int nn] h P from key _ (fun _ _ z => z)
  intro P hP
  obtain ⟨hm, htx, hp, hb, hkp, htp, hst, hok⟩ := id hc
  have hc6 := hok.1
  have hm6 := hok.2.1
  have hkd : ∀ i, i < sM E → sK E i < 6 := fun i hi => (hok.2.2.1 i hi).1
  have hnu : ∀ i, i < sM E → inR (sN E i) 9 := fun i hi => (hok.2.2.1 i hi).2
  have hbe : BeOK (bm h) (sC E) := by rw [hb]; exact hok.2.2.2.1
  refine CP.of (by decide +kernel) (Nat.le_of_ble_eq_true rfl) fun X hX hR hnm => ?_
  show V X G 8 0 0 _ 0 [some (.ref 38), some (.int s), some (.int so), some (.int fr), some (.int nn), none, none, none] [] h
  refine v_iload_n hX rfl qX12_lookers_0 ?_
  refine v_callSq hX hR k_X12_333 (m_isSheet _) rfl (Nat.le_of_ble_eq_true rfl) rfl (Nat.le_of_ble_eq_true rfl) ⟨Nat.le_of_ble_eq_true rfl, Nat.le_of_ble_eq_true rfl⟩ qX12_lookers_1 ?_
  rintro _ _ ⟨rfl, rfl⟩
  first | refine v_if_eqB hX 32 qX12_lookers_4 rfl (fun q4 => ?_) (fun q4 => ?_) | refine v_if_eq hX 32 qX12_lookers_4 rfl (fun q4 => ?_) (fun q4 => ?_)
  · skip
    refine v_bipush hX lb_n2 qX12_lookers_32 ?_
    refine v_ireturn hX qX12_lookers_34 (hP _ _ ?_)
    first | (rw [lookersI, if_neg (fun z => q4 z.1)]; exact ⟨rfl, h.1, h.2.2.1, rfl, hc, fun a _ => rfl⟩) | (rw [lookersI, if_neg (fun z => q16 z.2.1)]; exact ⟨rfl, h.1, h.2.2.1, rfl, hc, fun a _ => rfl⟩) | (rw [lookersI, if_neg (fun z => q29 z.2.2)]; exact ⟨rfl, h.1, h.2.2.1, rfl, hc, fun a _ => rfl⟩)
  · skip
    refine v_iload_n hX rfl qX12_lookers_7 ?_
    refine v_i2l hX qX12_lookers_8 ?_
    refine v_lconst hX ll_0 qX12_lookers_9 ?_
    refine v_ldc2 hX c_X12_289 qX12_lookers_10 ?_
    refine v_callSq hX hR k_X12_87 (m_in _ (by exact (0)) (by exact (2))) rfl (Nat.le_of_ble_eq_true rfl) rfl (Nat.le_of_ble_eq_true rfl) ⟨Nat.le_of_ble_eq_true rfl, Nat.le_of_ble_eq_true rfl⟩ qX12_lookers_13 ?_
    rintro _ _ ⟨rfl, rfl⟩
    first | refine v_if_eqB hX 32 qX12_lookers_16 rfl (fun q16 => ?_) (fun q16 => ?_) | refine v_if_eq hX 32 qX12_lookers_16 rfl (fun q16 => ?_) (fun q16 => ?_)
    · skip
      refine v_bipush hX lb_n2 qX12_lookers_32 ?_
      refine v_ireturn hX qX12_lookers_34 (hP _ _ ?_)
      first | (rw [lookersI, if_neg (fun z => q4 z.1)]; exact ⟨rfl, h.1, h.2.2.1, rfl, hc, fun a _ => rfl⟩) | (rw [lookersI, if_neg (fun z => q16 z.2.1)]; exact ⟨rfl, h.1, h.2.2.1, rfl, hc, fun a _ => rfl⟩) | (rw [lookersI, if_neg (fun z => q29 z.2.2)]; exact ⟨rfl, h.1, h.2.2.1, rfl, hc, fun a _ => rfl⟩)
    · skip
      refine v_iload hX rfl qX12_lookers_19 ?_
      refine v_i2l hX qX12_lookers_21 ?_
      refine v_lconst hX ll_0 qX12_lookers_22 ?_
      refine v_ldc2 hX c_X12_368 qX12_lookers_23 ?_
      refine v_callSq hX hR k_X12_87 (m_in _ (by exact (0)) (by exact (6))) rfl (Nat.le_of_ble_eq_true rfl) rfl (Nat.le_of_ble_eq_true rfl) ⟨Nat.le_of_ble_eq_true rfl, Nat.le_of_ble_eq_true rfl⟩ qX12_lookers_26 ?_
      rintro _ _ ⟨rfl, rfl⟩
      first | refine v_if_neB hX 35 qX12_lookers_29 rfl (fun q29 => ?_) (fun q29 => ?_) | refine v_if_ne hX 35 qX12_lookers_29 rfl (fun q29 => ?_) (fun q29 => ?_)
      · skip
        obtain ⟨j, hj, rfl⟩ := rng_ex 3 (by omega) q4
        obtain ⟨n, hn, rfl⟩ := rng_ex 6 (by omega) q29
        have sl40 := (hok.2.2.2.2.2.2.2 j (by omega)).1
        refine v_aload_n hX rfl qX12_lookers_35 ?_
        refine v_getR hX g_X12_65 (hm.kd 38 rfl) (hm.rf 15 rfl) qX12_lookers_36 ?_
        refine v_iload_n hX rfl qX12_lookers_39 ?_
        refine v_zaldV hX (hm.kd 54 rfl) (hm.ln 54 rfl) (by exact ix_n (n := j) (by omega) rfl) (hst j (by omega)).1 qX12_lookers_40 ?_
        first | refine v_if_eqB hX 57 qX12_lookers_41 rfl (fun q41 => ?_) (fun q41 => ?_) | refine v_if_eq hX 57 qX12_lookers_41 rfl (fun q41 => ?_) (fun q41 => ?_)
        · skip
          refine v_aload_n hX rfl qX12_lookers_57 ?_
          refine v_getR hX g_X12_65 (hm.kd 38 rfl) (hm.rf 15 rfl) qX12_lookers_58 ?_
          refine v_iload_n hX rfl qX12_lookers_61 ?_
          refine v_zaldV hX (hm.kd 54 rfl) (hm.ln 54 rfl) (by exact ix_n (n := j) (by omega) rfl) (hst j (by omega)).1 qX12_lookers_62 ?_
          first | refine v_if_neB hX 69 qX12_lookers_63 rfl (fun q63 => ?_) (fun q63 => ?_) | refine v_if_ne hX 69 qX12_lookers_63 rfl (fun q63 => ?_) (fun q63 => ?_)
          · have hne : ¬ (¬ sS E j = -1 ∧ ¬ sS E j = so) := by
              first
              | exact fun z => q41 z.1
              | exact fun z => z.2 q51
            refine v_iconst hX li_0 qX12_lookers_69 ?_
            refine v_istore hX (Nat.le_of_ble_eq_true rfl) rfl (ls' := [some _, some _, some _, some _, some _, some _, none, none]) rfl qX12_lookers_70 ?_
            refine v_iconst hX li_0 qX12_lookers_72 ?_
            refine v_istore hX (Nat.le_of_ble_eq_true rfl) rfl (ls' := [some _, some _, some _, some _, some _, some _, some _, none]) rfl qX12_lookers_73 ?_
            have L75 : ∀ (mz : Nat) (k : Nat) (c : Int32) (F : Sst) (σ : Nat → Nat → Int32) (J : Nat → Nat → Int64), n - k = mz → (k ≤ n) → (MW (mkH h σ J) F) → (sS F = sS E ∧ sL F = sL E ∧ sI' F = sI' E) → (K58 h σ) → (lkS (sI' E j) (sL E j) fr (n - k) k c F = lkS (sI' E j) (sL E j) fr n 0 0 E) → V X G 8 0 0 (QM X G P 0 0) 75 [some (.ref 38), some (.int (nI j)), some (.int so), some (.int fr), some (.int (nI n)), some (.int c), some (.int (nI k)), none] [] (mkH h σ J) := by
              intro mz
              induction mz using Nat.strongRecOn with
              | _ mz ih =>
              intro k c F σ J hmz hi hcv he hk5 hlk
              obtain ⟨he1, he2, he3⟩ := he
              obtain ⟨t1, t2⟩ := hcv.2.2.2.2.2.2.1 j (by omega)
              rw [he1] at t1 t2
              obtain ⟨-, t4, t5⟩ := t2 q63
              rw [he2] at t4 t5
              rw [he3] at t5
              refine v_iload hX rfl qX12_lookers_75 ?_
              refine v_iload hX rfl qX12_lookers_77 ?_
              refine v_icmp_geS hX 158 qX12_lookers_79 rfl (fun q79 => ?_) (fun q79 => ?_)
              · have e1 : k = n := Nat.le_antisymm hi (nI_le' (by omega) (by omega) q79)
                refine v_iload hX rfl qX12_lookers_158 ?_
                refine v_ireturn hX qX12_lookers_160 (hP _ _ ?_)
                rw [lookersI, if_pos (show (0 ≤ nI j ∧ nI j ≤ 3) ∧ (0 ≤ so ∧ so ≤ 2) ∧ (0 ≤ nI n ∧ nI n ≤ 6) from ⟨q4, q16, q29⟩), tn_nI (show j < 2000000 by omega), if_neg (fun z => hne z), if_neg q63, tn_nI (show n < 2000000 by omega), ← hlk]
                rw [e1, Nat.sub_self]
                exact ⟨rfl, σ, J, rfl, hcv, hk5⟩
              · have hl := nI_lt' (by omega) (by omega) q79
                refine v_iload_n hX rfl qX12_lookers_82 ?_
                refine v_if_ltS hX 103 qX12_lookers_83 rfl (fun q83 => ?_) (fun q83 => ?_)
                · skip
                  refine v_bipush hX lb_n12 qX12_lookers_103 ?_
                  refine v_ireturn hX qX12_lookers_105 (hP _ _ ?_)
                  rw [lookersI, if_pos (show (0 ≤ nI j ∧ nI j ≤ 3) ∧ (0 ≤ so ∧ so ≤ 2) ∧ (0 ≤ nI n ∧ nI n ≤ 6) from ⟨q4, q16, q29⟩), tn_nI (show j < 2000000 by omega), if_neg (fun z => hne z), if_neg q63, tn_nI (show n < 2000000 by omega), ← hlk]
                  rw [show n - k = (n - (k + 1)) + 1 by omega, lkS_neg (by first | exact fun z => absurd q83 (Int32.not_lt.mpr z.1) | exact fun z => by rw [show tn (nI f) = f from nI_clamp hf31] at z; exact absurd ((lk_le hf31 sl40 (by omega)).mpr z.2) (Int32.not_le.mpr q100))]
                  exact ⟨rfl, σ, J, rfl, hcv, hk5⟩
                · skip
                  refine v_iload_n hX rfl qX12_lookers_86 ?_
                  refine v_aload_n hX rfl qX12_lookers_87 ?_
                  refine v_getR hX g_X12_72 (hm.kd 38 rfl) (hm.rf 17 rfl) qX12_lookers_88 ?_
                  refine v_iload_n hX rfl qX12_lookers_91 ?_
                  refine v_ialdV hX (hm.kd 56 rfl) (hm.ln 56 rfl) (by exact ix_n (n := j) (by omega) rfl) (show _ = nI (sL E j) from t4) qX12_lookers_92 ?_
                  refine v_iconst hX li_2 qX12_lookers_93 ?_
                  refine v_iload hX rfl qX12_lookers_94 ?_
                  refine v_imul hX qX12_lookers_96 ?_
                  refine v_isub hX qX12_lookers_97 ?_
                  refine v_iconst hX li_2 qX12_lookers_98 ?_
                  refine v_isub hX qX12_lookers_99 ?_
                  refine v_eqI (show _ = nI (sL E j) - nI (2 * k + 2) from lk_ar ⟨sL E j, by omega⟩ ⟨k, by omega⟩) ?_
                  obtain ⟨f, hf31, rfl⟩ := nI_of (x := fr) (Int32.not_lt.mpr q83)
                  refine v_icmp_leS hX 106 qX12_lookers_100 rfl (fun q100 => ?_) (fun q100 => ?_)
                  · have hfk := (lk_le hf31 sl40 (by omega)).mp q100
                    refine v_bipush hX lb_40 qX12_lookers_106 ?_
                    refine v_iload_n hX rfl qX12_lookers_108 ?_
                    refine v_imul hX qX12_lookers_109 ?_
                    refine v_iload_n hX rfl qX12_lookers_110 ?_
                    refine v_iadd hX qX12_lookers_111 ?_
                    refine v_iconst hX li_2 qX12_lookers_112 ?_
                    refine v_iload hX rfl qX12_lookers_113 ?_
                    refine v_imul hX qX12_lookers_115 ?_
                    refine v_iadd hX qX12_lookers_116 ?_
                    refine v_eqI (show _ = nI (40 * j + f + 2 * k) by rw [show (40 : Int32) = nI 40 from rfl, show (2 : Int32) = nI 2 from rfl, pk_mul, pk_mul, nI_add, nI_add]) ?_
                    refine v_istore hX (Nat.le_of_ble_eq_true rfl) rfl (ls' := [some _, some _, some _, some _, some _, some _, some _, some _]) rfl qX12_lookers_117 ?_
                    refine v_iload hX rfl qX12_lookers_119 ?_
                    refine v_aload_n hX rfl qX12_lookers_121 ?_
                    refine v_aload_n hX rfl qX12_lookers_122 ?_
                    refine v_getR hX g_X12_75 (hm.kd 38 rfl) (hm.rf 18 rfl) qX12_lookers_123 ?_
                    refine v_iload hX rfl qX12_lookers_126 ?_
                    refine v_ialdV hX (hm.kd 57 rfl) (hm.ln 57 rfl) (by exact ix_n (n := 40 * j + f + 2 * k) (by omega) rfl) (show _ = sI' E j (f + 2 * k) by rw [← t5 (f + 2 * k) (by omega)]; exact congrArg (hpI (mkH h σ J) 57) (by omega)) qX12_lookers_128 ?_
                    refine v_aload_n hX rfl qX12_lookers_129 ?_
                    refine v_getR hX g_X12_75 (hm.kd 38 rfl) (hm.rf 18 rfl) qX12_lookers_130 ?_
                    refine v_iload hX rfl qX12_lookers_133 ?_
                    refine v_iconst hX li_1 qX12_lookers_135 ?_
                    refine v_iadd hX qX12_lookers_136 ?_
                    refine v_eqI (nI_1 _) ?_
                    refine v_ialdV hX (hm.kd 57 rfl) (hm.ln 57 rfl) (by exact ix_n (n := 40 * j + f + 2 * k + 1) (by omega) rfl) (show _ = sI' E j (f + 2 * k + 1) by rw [← t5 (f + 2 * k + 1) (by omega)]; exact congrArg (hpI (mkH h σ J) 57) (by omega)) qX12_lookers_137 ?_
                    refine v_callVq hX hR k_X12_370 (hm.kd 38 rfl) (m_looker (by exact hcv) _ _) rfl (Nat.le_of_ble_eq_true rfl) rfl (Nat.le_of_ble_eq_true rfl) ⟨Nat.le_of_ble_eq_true rfl, Nat.le_of_ble_eq_true rfl⟩ qX12_lookers_138 ?_
                    rintro _ _ ⟨rfl, σ2, J2, rfl, hm2, hk2⟩
                    refine v_if_ltS hX 148 qX12_lookers_141 rfl (fun q141 => ?_) (fun q141 => ?_)
                    · skip
                      refine v_iconst hX li_0 qX12_lookers_148 ?_
                      refine v_iadd hX qX12_lookers_149 ?_
                      have hstep : lkS (sI' E j) (sL E j) (nI f) (n - (k + 1)) (k + 1) (if 0 ≤ (lookerI F (sI' E j (f + 2 * k)) (sI' E j (f + 2 * k + 1))).1 then c + 1 else c) (lookerI F (sI' E j (f + 2 * k)) (sI' E j (f + 2 * k + 1))).2 = lkS (sI' E j) (sL E j) (nI f) n 0 0 E := by
                        rw [← hlk, show n - k = (n - (k + 1)) + 1 by omega, lkS_pos (by rw [show tn (nI f) = f from nI_clamp hf31]; exact ⟨Int32.not_lt.mp (nI_pos hf31), hfk⟩), show tn (nI f) = f from nI_clamp hf31]
                      refine v_eqI (show _ = (if 0 ≤ (lookerI F (sI' E j (f + 2 * k)) (sI' E j (f + 2 * k + 1))).1 then c + 1 else c) by first | exact (if_pos q141).symm | exact (Int32.add_zero c).trans (if_neg (Int32.not_le.mpr q141)).symm) ?_
                      refine v_istore hX (Nat.le_of_ble_eq_true rfl) rfl (ls' := [some _, some _, some _, some _, some _, some _, some _, some _]) rfl qX12_lookers_150 ?_
                      refine v_iinc hX rfl (by first | exact ii_nI _ | exact ii_1 _) (Nat.le_of_ble_eq_true rfl) rfl (ls' := [some _, some _, some _, some _, some _, some _, some _, some _]) rfl qX12_lookers_152 ?_
                      refine v_goto hX 75 qX12_lookers_155 rfl ?_
                      refine v_forget (ls' := [_, _, _, _, _, _, _, none]) ⟨Or.inr rfl, Or.inr rfl, Or.inr rfl, Or.inr rfl, Or.inr rfl, Or.inr rfl, Or.inr rfl, Or.inl rfl, trivial⟩ ?_
                      obtain ⟨s1, s2, s3⟩ := lookerI_sh F (sI' E j (f + 2 * k)) (sI' E j (f + 2 * k + 1))
                      exact ih _ (by omega) (k + 1) _ (lookerI F (sI' E j (f + 2 * k)) (sI' E j (f + 2 * k + 1))).2 σ2 J2 rfl (by omega) hm2 ⟨s1.trans he1, s2.trans he2, s3.trans he3⟩ (fun a ha => (hk2 a ha).trans (hk5 a ha)) hstep
                    · skip
                      refine v_iconst hX li_1 qX12_lookers_144 ?_
                      refine v_goto hX 149 qX12_lookers_145 rfl ?_
                      refine v_iadd hX qX12_lookers_149 ?_
                      have hstep : lkS (sI' E j) (sL E j) (nI f) (n - (k + 1)) (k + 1) (if 0 ≤ (lookerI F (sI' E j (f + 2 * k)) (sI' E j (f + 2 * k + 1))).1 then c + 1 else c) (lookerI F (sI' E j (f + 2 * k)) (sI' E j (f + 2 * k + 1))).2 = lkS (sI' E j) (sL E j) (nI f) n 0 0 E := by
                        rw [← hlk, show n - k = (n - (k + 1)) + 1 by omega, lkS_pos (by rw [show tn (nI f) = f from nI_clamp hf31]; exact ⟨Int32.not_lt.mp (nI_pos hf31), hfk⟩), show tn (nI f) = f from nI_clamp hf31]
                      refine v_eqI (show _ = (if 0 ≤ (lookerI F (sI' E j (f + 2 * k)) (sI' E j (f + 2 * k + 1))).1 then c + 1 else c) by first | exact (if_pos q141).symm | exact (Int32.add_zero c).trans (if_neg (Int32.not_le.mpr q141)).symm) ?_
                      refine v_istore hX (Nat.le_of_ble_eq_true rfl) rfl (ls' := [some _, some _, some _, some _, some _, some _, some _, some _]) rfl qX12_lookers_150 ?_
                      refine v_iinc hX rfl (by first | exact ii_nI _ | exact ii_1 _) (Nat.le_of_ble_eq_true rfl) rfl (ls' := [some _, some _, some _, some _, some _, some _, some _, some _]) rfl qX12_lookers_152 ?_
                      refine v_goto hX 75 qX12_lookers_155 rfl ?_
                      refine v_forget (ls' := [_, _, _, _, _, _, _, none]) ⟨Or.inr rfl, Or.inr rfl, Or.inr rfl, Or.inr rfl, Or.inr rfl, Or.inr rfl, Or.inr rfl, Or.inl rfl, trivial⟩ ?_
                      obtain ⟨s1, s2, s3⟩ := lookerI_sh F (sI' E j (f + 2 * k)) (sI' E j (f + 2 * k + 1))
                      exact ih _ (by omega) (k + 1) _ (lookerI F (sI' E j (f + 2 * k)) (sI' E j (f + 2 * k + 1))).2 σ2 J2 rfl (by omega) hm2 ⟨s1.trans he1, s2.trans he2, s3.trans he3⟩ (fun a ha => (hk2 a ha).trans (hk5 a ha)) hstep
                  · skip
                    refine v_bipush hX lb_n12 qX12_lookers_103 ?_
                    refine v_ireturn hX qX12_lookers_105 (hP _ _ ?_)
                    rw [lookersI, if_pos (show (0 ≤ nI j ∧ nI j ≤ 3) ∧ (0 ≤ so ∧ so ≤ 2) ∧ (0 ≤ nI n ∧ nI n ≤ 6) from ⟨q4, q16, q29⟩), tn_nI (show j < 2000000 by omega), if_neg (fun z => hne z), if_neg q63, tn_nI (show n < 2000000 by omega), ← hlk]
                    rw [show n - k = (n - (k + 1)) + 1 by omega, lkS_neg (by first | exact fun z => absurd q83 (Int32.not_lt.mpr z.1) | exact fun z => by rw [show tn (nI f) = f from nI_clamp hf31] at z; exact absurd ((lk_le hf31 sl40 (by omega)).mpr z.2) (Int32.not_le.mpr q100))]
                    exact ⟨rfl, σ, J, rfl, hcv, hk5⟩
            exact L75 _ 0 0 E h.1 h.2.2.1 rfl (by omega) hc ⟨rfl, rfl, rfl⟩ (fun _ _ => rfl) rfl
          · skip
            refine v_bipush hX lb_n11 qX12_lookers_66 ?_
            refine v_ireturn hX qX12_lookers_68 (hP _ _ ?_)
            rw [lookersI, if_pos (show (0 ≤ nI j ∧ nI j ≤ 3) ∧ (0 ≤ so ∧ so ≤ 2) ∧ (0 ≤ nI n ∧ nI n ≤ 6) from ⟨q4, q16, q29⟩), tn_nI (show j < 2000000 by omega), if_neg (fun z => z.1 (Classical.byContradiction q63)), if_pos (Classical.byContradiction q63)]
            exact ⟨rfl, h.1, h.2.2.1, rfl, hc, fun a _ => rfl⟩
        · skip
          refine v_aload_n hX rfl qX12_lookers_44 ?_
          refine v_getR hX g_X12_69 (hm.kd 38 rfl) (hm.rf 16 rfl) qX12_lookers_45 ?_
          refine v_iload_n hX rfl qX12_lookers_48 ?_
          refine v_ialdV hX (hm.kd 55 rfl) (hm.ln 55 rfl) (by exact ix_n (n := j) (by omega) rfl) ((hst j (by omega)).2 q41).1 qX12_lookers_49 ?_
          refine v_iload_n hX rfl qX12_lookers_50 ?_
          refine v_icmp_eq hX 57 qX12_lookers_51 rfl (fun q51 => ?_) (fun q51 => ?_)
          · skip
            refine v_aload_n hX rfl qX12_lookers_57 ?_
            refine v_getR hX g_X12_65 (hm.kd 38 rfl) (hm.rf 15 rfl) qX12_lookers_58 ?_
            refine v_iload_n hX rfl qX12_lookers_61 ?_
            refine v_zaldV hX (hm.kd 54 rfl) (hm.ln 54 rfl) (by exact ix_n (n := j) (by omega) rfl) (hst j (by omega)).1 qX12_lookers_62 ?_
            first | refine v_if_neB hX 69 qX12_lookers_63 rfl (fun q63 => ?_) (fun q63 => ?_) | refine v_if_ne hX 69 qX12_lookers_63 rfl (fun q63 => ?_) (fun q63 => ?_)
            · have hne : ¬ (¬ sS E j = -1 ∧ ¬ sS E j = so) := by
                first
                | exact fun z => q41 z.1
                | exact fun z => z.2 q51
              refine v_iconst hX li_0 qX12_lookers_69 ?_
              refine v_istore hX (Nat.le_of_ble_eq_true rfl) rfl (ls' := [some _, some _, some _, some _, some _, some _, none, none]) rfl qX12_lookers_70 ?_
              refine v_iconst hX li_0 qX12_lookers_72 ?_
              refine v_istore hX (Nat.le_of_ble_eq_true rfl) rfl (ls' := [some _, some _, some _, some _, some _, some _, some _, none]) rfl qX12_lookers_73 ?_
              have L75 : ∀ (mz : Nat) (k : Nat) (c : Int32) (F : Sst) (σ : Nat → Nat → Int32) (J : Nat → Nat → Int64), n - k = mz → (k ≤ n) → (MW (mkH h σ J) F) → (sS F = sS E ∧ sL F = sL E ∧ sI' F = sI' E) → (K58 h σ) → (lkS (sI' E j) (sL E j) fr (n - k) k c F = lkS (sI' E j) (sL E j) fr n 0 0 E) → V X G 8 0 0 (QM X G P 0 0) 75 [some (.ref 38), some (.int (nI j)), some (.int so), some (.int fr), some (.int (nI n)), some (.int c), some (.int (nI k)), none] [] (mkH h σ J) := by
                intro mz
                induction mz using Nat.strongRecOn with
                | _ mz ih =>
                intro k c F σ J hmz hi hcv he hk5 hlk
                obtain ⟨he1, he2, he3⟩ := he
                obtain ⟨t1, t2⟩ := hcv.2.2.2.2.2.2.1 j (by omega)
                rw [he1] at t1 t2
                obtain ⟨-, t4, t5⟩ := t2 q63
                rw [he2] at t4 t5
                rw [he3] at t5
                refine v_iload hX rfl qX12_lookers_75 ?_
                refine v_iload hX rfl qX12_lookers_77 ?_
                refine v_icmp_geS hX 158 qX12_lookers_79 rfl (fun q79 => ?_) (fun q79 => ?_)
                · have e1 : k = n := Nat.le_antisymm hi (nI_le' (by omega) (by omega) q79)
                  refine v_iload hX rfl qX12_lookers_158 ?_
                  refine v_ireturn hX qX12_lookers_160 (hP _ _ ?_)
                  rw [lookersI, if_pos (show (0 ≤ nI j ∧ nI j ≤ 3) ∧ (0 ≤ so ∧ so ≤ 2) ∧ (0 ≤ nI n ∧ nI n ≤ 6) from ⟨q4, q16, q29⟩), tn_nI (show j < 2000000 by omega), if_neg (fun z => hne z), if_neg q63, tn_nI (show n < 2000000 by omega), ← hlk]
                  rw [e1, Nat.sub_self]
                  exact ⟨rfl, σ, J, rfl, hcv, hk5⟩
                · have hl := nI_lt' (by omega) (by omega) q79
                  refine v_iload_n hX rfl qX12_lookers_82 ?_
                  refine v_if_ltS hX 103 qX12_lookers_83 rfl (fun q83 => ?_) (fun q83 => ?_)
                  · skip
                    refine v_bipush hX lb_n12 qX12_lookers_103 ?_
                    refine v_ireturn hX qX12_lookers_105 (hP _ _ ?_)
                    rw [lookersI, if_pos (show (0 ≤ nI j ∧ nI j ≤ 3) ∧ (0 ≤ so ∧ so ≤ 2) ∧ (0 ≤ nI n ∧ nI n ≤ 6) from ⟨q4, q16, q29⟩), tn_nI (show j < 2000000 by omega), if_neg (fun z => hne z), if_neg q63, tn_nI (show n < 2000000 by omega), ← hlk]
                    rw [show n - k = (n - (k + 1)) + 1 by omega, lkS_neg (by first | exact fun z => absurd q83 (Int32.not_lt.mpr z.1) | exact fun z => by rw [show tn (nI f) = f from nI_clamp hf31] at z; exact absurd ((lk_le hf31 sl40 (by omega)).mpr z.2) (Int32.not_le.mpr q100))]
                    exact ⟨rfl, σ, J, rfl, hcv, hk5⟩
                  · skip
                    refine v_iload_n hX rfl qX12_lookers_86 ?_
                    refine v_aload_n hX rfl qX12_lookers_87 ?_
                    refine v_getR hX g_X12_72 (hm.kd 38 rfl) (hm.rf 17 rfl) qX12_lookers_88 ?_
                    refine v_iload_n hX rfl qX12_lookers_91 ?_
                    refine v_ialdV hX (hm.kd 56 rfl) (hm.ln 56 rfl) (by exact ix_n (n := j) (by omega) rfl) (show _ = nI (sL E j) from t4) qX12_lookers_92 ?_
                    refine v_iconst hX li_2 qX12_lookers_93 ?_
                    refine v_iload hX rfl qX12_lookers_94 ?_
                    refine v_imul hX qX12_lookers_96 ?_
                    refine v_isub hX qX12_lookers_97 ?_
                    refine v_iconst hX li_2 qX12_lookers_98 ?_
                    refine v_isub hX qX12_lookers_99 ?_
                    refine v_eqI (show _ = nI (sL E j) - nI (2 * k + 2) from lk_ar ⟨sL E j, by omega⟩ ⟨k, by omega⟩) ?_
                    obtain ⟨f, hf31, rfl⟩ := nI_of (x := fr) (Int32.not_lt.mpr q83)
                    refine v_icmp_leS hX 106 qX12_lookers_100 rfl (fun q100 => ?_) (fun q100 => ?_)
                    · have hfk := (lk_le hf31 sl40 (by omega)).mp q100
                      refine v_bipush hX lb_40 qX12_lookers_106 ?_
                      refine v_iload_n hX rfl qX12_lookers_108 ?_
                      refine v_imul hX qX12_lookers_109 ?_
                      refine v_iload_n hX rfl qX12_lookers_110 ?_
                      refine v_iadd hX qX12_lookers_111 ?_
                      refine v_iconst hX li_2 qX12_lookers_112 ?_
                      refine v_iload hX rfl qX12_lookers_113 ?_
                      refine v_imul hX qX12_lookers_115 ?_
                      refine v_iadd hX qX12_lookers_116 ?_
                      refine v_eqI (show _ = nI (40 * j + f + 2 * k) by rw [show (40 : Int32) = nI 40 from rfl, show (2 : Int32) = nI 2 from rfl, pk_mul, pk_mul, nI_add, nI_add]) ?_
                      refine v_istore hX (Nat.le_of_ble_eq_true rfl) rfl (ls' := [some _, some _, some _, some _, some _, some _, some _, some _]) rfl qX12_lookers_117 ?_
                      refine v_iload hX rfl qX12_lookers_119 ?_
                      refine v_aload_n hX rfl qX12_lookers_121 ?_
                      refine v_aload_n hX rfl qX12_lookers_122 ?_
                      refine v_getR hX g_X12_75 (hm.kd 38 rfl) (hm.rf 18 rfl) qX12_lookers_123 ?_
                      refine v_iload hX rfl qX12_lookers_126 ?_
                      refine v_ialdV hX (hm.kd 57 rfl) (hm.ln 57 rfl) (by exact ix_n (n := 40 * j + f + 2 * k) (by omega) rfl) (show _ = sI' E j (f + 2 * k) by rw [← t5 (f + 2 * k) (by omega)]; exact congrArg (hpI (mkH h σ J) 57) (by omega)) qX12_lookers_128 ?_
                      refine v_aload_n hX rfl qX12_lookers_129 ?_
                      refine v_getR hX g_X12_75 (hm.kd 38 rfl) (hm.rf 18 rfl) qX12_lookers_130 ?_
                      refine v_iload hX rfl qX12_lookers_133 ?_
                      refine v_iconst hX li_1 qX12_lookers_135 ?_
                      refine v_iadd hX qX12_lookers_136 ?_
                      refine v_eqI (nI_1 _) ?_
                      refine v_ialdV hX (hm.kd 57 rfl) (hm.ln 57 rfl) (by exact ix_n (n := 40 * j + f + 2 * k + 1) (by omega) rfl) (show _ = sI' E j (f + 2 * k + 1) by rw [← t5 (f + 2 * k + 1) (by omega)]; exact congrArg (hpI (mkH h σ J) 57) (by omega)) qX12_lookers_137 ?_
                      refine v_callVq hX hR k_X12_370 (hm.kd 38 rfl) (m_looker (by exact hcv) _ _) rfl (Nat.le_of_ble_eq_true rfl) rfl (Nat.le_of_ble_eq_true rfl) ⟨Nat.le_of_ble_eq_true rfl, Nat.le_of_ble_eq_true rfl⟩ qX12_lookers_138 ?_
                      rintro _ _ ⟨rfl, σ2, J2, rfl, hm2, hk2⟩
                      refine v_if_ltS hX 148 qX12_lookers_141 rfl (fun q141 => ?_) (fun q141 => ?_)
                      · skip
                        refine v_iconst hX li_0 qX12_lookers_148 ?_
                        refine v_iadd hX qX12_lookers_149 ?_
                        have hstep : lkS (sI' E j) (sL E j) (nI f) (n - (k + 1)) (k + 1) (if 0 ≤ (lookerI F (sI' E j (f + 2 * k)) (sI' E j (f + 2 * k + 1))).1 then c + 1 else c) (lookerI F (sI' E j (f + 2 * k)) (sI' E j (f + 2 * k + 1))).2 = lkS (sI' E j) (sL E j) (nI f) n 0 0 E := by
                          rw [← hlk, show n - k = (n - (k + 1)) + 1 by omega, lkS_pos (by rw [show tn (nI f) = f from nI_clamp hf31]; exact ⟨Int32.not_lt.mp (nI_pos hf31), hfk⟩), show tn (nI f) = f from nI_clamp hf31]
                        refine v_eqI (show _ = (if 0 ≤ (lookerI F (sI' E j (f + 2 * k)) (sI' E j (f + 2 * k + 1))).1 then c + 1 else c) by first | exact (if_pos q141).symm | exact (Int32.add_zero c).trans (if_neg (Int32.not_le.mpr q141)).symm) ?_
                        refine v_istore hX (Nat.le_of_ble_eq_true rfl) rfl (ls' := [some _, some _, some _, some _, some _, some _, some _, some _]) rfl qX12_lookers_150 ?_
                        refine v_iinc hX rfl (by first | exact ii_nI _ | exact ii_1 _) (Nat.le_of_ble_eq_true rfl) rfl (ls' := [some _, some _, some _, some _, some _, some _, some _, some _]) rfl qX12_lookers_152 ?_
                        refine v_goto hX 75 qX12_lookers_155 rfl ?_
                        refine v_forget (ls' := [_, _, _, _, _, _, _, none]) ⟨Or.inr rfl, Or.inr rfl, Or.inr rfl, Or.inr rfl, Or.inr rfl, Or.inr rfl, Or.inr rfl, Or.inl rfl, trivial⟩ ?_
                        obtain ⟨s1, s2, s3⟩ := lookerI_sh F (sI' E j (f + 2 * k)) (sI' E j (f + 2 * k + 1))
                        exact ih _ (by omega) (k + 1) _ (lookerI F (sI' E j (f + 2 * k)) (sI' E j (f + 2 * k + 1))).2 σ2 J2 rfl (by omega) hm2 ⟨s1.trans he1, s2.trans he2, s3.trans he3⟩ (fun a ha => (hk2 a ha).trans (hk5 a ha)) hstep
                      · skip
                        refine v_iconst hX li_1 qX12_lookers_144 ?_
                        refine v_goto hX 149 qX12_lookers_145 rfl ?_
                        refine v_iadd hX qX12_lookers_149 ?_
                        have hstep : lkS (sI' E j) (sL E j) (nI f) (n - (k + 1)) (k + 1) (if 0 ≤ (lookerI F (sI' E j (f + 2 * k)) (sI' E j (f + 2 * k + 1))).1 then c + 1 else c) (lookerI F (sI' E j (f + 2 * k)) (sI' E j (f + 2 * k + 1))).2 = lkS (sI' E j) (sL E j) (nI f) n 0 0 E := by
                          rw [← hlk, show n - k = (n - (k + 1)) + 1 by omega, lkS_pos (by rw [show tn (nI f) = f from nI_clamp hf31]; exact ⟨Int32.not_lt.mp (nI_pos hf31), hfk⟩), show tn (nI f) = f from nI_clamp hf31]
                        refine v_eqI (show _ = (if 0 ≤ (lookerI F (sI' E j (f + 2 * k)) (sI' E j (f + 2 * k + 1))).1 then c + 1 else c) by first | exact (if_pos q141).symm | exact (Int32.add_zero c).trans (if_neg (Int32.not_le.mpr q141)).symm) ?_
                        refine v_istore hX (Nat.le_of_ble_eq_true rfl) rfl (ls' := [some _, some _, some _, some _, some _, some _, some _, some _]) rfl qX12_lookers_150 ?_
                        refine v_iinc hX rfl (by first | exact ii_nI _ | exact ii_1 _) (Nat.le_of_ble_eq_true rfl) rfl (ls' := [some _, some _, some _, some _, some _, some _, some _, some _]) rfl qX12_lookers_152 ?_
                        refine v_goto hX 75 qX12_lookers_155 rfl ?_
                        refine v_forget (ls' := [_, _, _, _, _, _, _, none]) ⟨Or.inr rfl, Or.inr rfl, Or.inr rfl, Or.inr rfl, Or.inr rfl, Or.inr rfl, Or.inr rfl, Or.inl rfl, trivial⟩ ?_
                        obtain ⟨s1, s2, s3⟩ := lookerI_sh F (sI' E j (f + 2 * k)) (sI' E j (f + 2 * k + 1))
                        exact ih _ (by omega) (k + 1) _ (lookerI F (sI' E j (f + 2 * k)) (sI' E j (f + 2 * k + 1))).2 σ2 J2 rfl (by omega) hm2 ⟨s1.trans he1, s2.trans he2, s3.trans he3⟩ (fun a ha => (hk2 a ha).trans (hk5 a ha)) hstep
                    · skip
                      refine v_bipush hX lb_n12 qX12_lookers_103 ?_
                      refine v_ireturn hX qX12_lookers_105 (hP _ _ ?_)
                      rw [lookersI, if_pos (show (0 ≤ nI j ∧ nI j ≤ 3) ∧ (0 ≤ so ∧ so ≤ 2) ∧ (0 ≤ nI n ∧ nI n ≤ 6) from ⟨q4, q16, q29⟩), tn_nI (show j < 2000000 by omega), if_neg (fun z => hne z), if_neg q63, tn_nI (show n < 2000000 by omega), ← hlk]
                      rw [show n - k = (n - (k + 1)) + 1 by omega, lkS_neg (by first | exact fun z => absurd q83 (Int32.not_lt.mpr z.1) | exact fun z => by rw [show tn (nI f) = f from nI_clamp hf31] at z; exact absurd ((lk_le hf31 sl40 (by omega)).mpr z.2) (Int32.not_le.mpr q100))]
                      exact ⟨rfl, σ, J, rfl, hcv, hk5⟩
              exact L75 _ 0 0 E h.1 h.2.2.1 rfl (by omega) hc ⟨rfl, rfl, rfl⟩ (fun _ _ => rfl) rfl
            · skip
              refine v_bipush hX lb_n11 qX12_lookers_66 ?_
              refine v_ireturn hX qX12_lookers_68 (hP _ _ ?_)
              rw [lookersI, if_pos (show (0 ≤ nI j ∧ nI j ≤ 3) ∧ (0 ≤ so ∧ so ≤ 2) ∧ (0 ≤ nI n ∧ nI n ≤ 6) from ⟨q4, q16, q29⟩), tn_nI (show j < 2000000 by omega), if_neg (fun z => z.1 (Classical.byContradiction q63)), if_pos (Classical.byContradiction q63)]
              exact ⟨rfl, h.1, h.2.2.1, rfl, hc, fun a _ => rfl⟩
          · skip
            refine v_bipush hX lb_n13 qX12_lookers_54 ?_
            refine v_ireturn hX qX12_lookers_56 (hP _ _ ?_)
            rw [lookersI, if_pos (show (0 ≤ nI j ∧ nI j ≤ 3) ∧ (0 ≤ so ∧ so ≤ 2) ∧ (0 ≤ nI n ∧ nI n ≤ 6) from ⟨q4, q16, q29⟩), tn_nI (show j < 2000000 by omega), if_pos ⟨q41, q51⟩]
            exact ⟨rfl, h.1, h.2.2.1, rfl, hc, fun a _ => rfl⟩
      · skip
        refine v_bipush hX lb_n2 qX12_lookers_32 ?_
        refine v_ireturn hX qX12_lookers_34 (hP _ _ ?_)
        first | (rw [lookersI, if_neg (fun z => q4 z.1)]; exact ⟨rfl, h.1, h.2.2.1, rfl, hc, fun a _ => rfl⟩) | (rw [lookersI, if_neg (fun z => q16 z.2.1)]; exact ⟨rfl, h.1, h.2.2.1, rfl, hc, fun a _ => rfl⟩) | (rw [lookersI, if_neg (fun z => q29 z.2.2)]; exact ⟨rfl, h.1, h.2.2.1, rfl, hc, fun a _ => rfl⟩)
