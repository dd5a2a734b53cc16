/-! public calls of the reference: told, asks -/
/-- what is not the reference's -/
def K58 (h : AHp) (σ : Nat → Nat → Int32) : Prop := ∀ a, a < 38 ∨ 58 ≤ a → σ a = hpI h a
theorem FrR.k {h : AHp} {σ : Nat → Nat → Int32} {J : Nat → Nat → Int64} (hf : FrR h σ J) : K58 h σ := fun a ha => funext fun k => hf.1 a k (by omega)
theorem MW.fr {h : AHp} {E : Sst} (hc : MW h E) {σ : Nat → Nat → Int32} {J : Nat → Nat → Int64} (hf : FrR h σ J) : MW (mkH h σ J) E := by
  obtain ⟨h1, h2, h3, h4, h5, h6, h7, h8⟩ := hc
  refine ⟨h1, hf.tx h2, hf.pt h3, hf.bm.trans h4, ?_, ⟨(hf.1 38 6 (by omega)).trans h6.1, fun i hi => (hf.1 41 i (by omega)).trans (h6.2 i hi)⟩, fun i hi => ?_, h8⟩
  · rcases h5 with ⟨z1, z2⟩ | ⟨b, z1, z2, z3, z4, z5, z6, z7⟩
    · exact Or.inl ⟨z1, (hf.1 38 46 (by omega)).trans z2⟩
    · exact Or.inr ⟨b, z1, fun k hk => ⟨(hf.1 52 k (by omega)).trans (z2 k hk).1, (hf.1 53 k (by omega)).trans (z2 k hk).2⟩, (hf.1 38 46 (by omega)).trans z3, (hf.1 38 47 (by omega)).trans z4, (hf.1 38 48 (by omega)).trans z5, (hf.1 38 49 (by omega)).trans z6, z7⟩
  · obtain ⟨g1, g2⟩ := h7 i hi
    exact ⟨(hf.1 54 i (by omega)).trans g1, fun z => ⟨(hf.1 55 i (by omega)).trans (g2 z).1, (hf.1 56 i (by omega)).trans (g2 z).2.1, fun k hk => (hf.1 57 _ (by omega)).trans ((g2 z).2.2 k hk)⟩⟩
theorem wq2 {w : Int32} (h0 : 0 ≤ w) (h3 : w < 3) (n0 : ¬ w = 0) (n1 : ¬ w = 1) : w = 2 := by
  have a := leI.mp h0
  have b := ltI.mp h3
  rw [eqI] at n0 n1 ⊢
  have e0 : (0 : Int32).toInt = 0 := rfl
  have e1 : (1 : Int32).toInt = 1 := rfl
  have e2 : (2 : Int32).toInt = 2 := rfl
  have e3 : (3 : Int32).toInt = 3 := rfl
  omega
theorem wq3 {w : Int32} (h0 : 3 ≤ w) (h3 : w ≤ 4) (n : ¬ w = 4) : w = 3 := by
  have a := leI.mp h0
  have b := leI.mp h3
  rw [eqI] at n ⊢
  have e3 : (3 : Int32).toInt = 3 := rfl
  have e4 : (4 : Int32).toInt = 4 := rfl
  omega
theorem wqn {w : Int32} (h0 : 3 ≤ w) : ¬ w = 0 ∧ ¬ w = 1 ∧ ¬ w = 2 := by
  have a := leI.mp h0
  have e0 : (0 : Int32).toInt = 0 := rfl
  have e1 : (1 : Int32).toInt = 1 := rfl
  have e2 : (2 : Int32).toInt = 2 := rfl
  have e3 : (3 : Int32).toInt = 3 := rfl
  refine ⟨?_, ?_, ?_⟩ <;> rw [eqI] <;> omega
theorem qX12_told_0 : Dq cX12_told 0 (.iload_n 1) 1 1 := ⟨by decide +kernel, rfl⟩
theorem qX12_told_1 : Dq cX12_told 1 (.invokestatic 96) 3 4 := ⟨by decide +kernel, rfl⟩
theorem qX12_told_4 : Dq cX12_told 4 (.ifCond .eq 15) 3 7 := ⟨by decide +kernel, rfl⟩
theorem qX12_told_7 : Dq cX12_told 7 (.iload_n 2) 1 8 := ⟨by decide +kernel, rfl⟩
theorem qX12_told_8 : Dq cX12_told 8 (.i2l) 1 9 := ⟨by decide +kernel, rfl⟩
theorem qX12_told_9 : Dq cX12_told 9 (.lconst 0) 1 10 := ⟨by decide +kernel, rfl⟩
theorem qX12_told_10 : Dq cX12_told 10 (.ldc2_w 94) 3 13 := ⟨by decide +kernel, rfl⟩
theorem qX12_told_13 : Dq cX12_told 13 (.invokestatic 87) 3 16 := ⟨by decide +kernel, rfl⟩
theorem qX12_told_16 : Dq cX12_told 16 (.ifCond .ne 6) 3 19 := ⟨by decide +kernel, rfl⟩
theorem qX12_told_19 : Dq cX12_told 19 (.bipush (-2)) 2 21 := ⟨by decide +kernel, rfl⟩
theorem qX12_told_21 : Dq cX12_told 21 (.ireturn) 1 22 := ⟨by decide +kernel, rfl⟩
theorem qX12_told_22 : Dq cX12_told 22 (.iload_n 2) 1 23 := ⟨by decide +kernel, rfl⟩
theorem qX12_told_23 : Dq cX12_told 23 (.iconst 3) 1 24 := ⟨by decide +kernel, rfl⟩
theorem qX12_told_24 : Dq cX12_told 24 (.if_icmp .ge 36) 3 27 := ⟨by decide +kernel, rfl⟩
theorem qX12_told_27 : Dq cX12_told 27 (.iload_n 2) 1 28 := ⟨by decide +kernel, rfl⟩
theorem qX12_told_28 : Dq cX12_told 28 (.ifCond .ne 12) 3 31 := ⟨by decide +kernel, rfl⟩
theorem qX12_told_31 : Dq cX12_told 31 (.aload_n 0) 1 32 := ⟨by decide +kernel, rfl⟩
theorem qX12_told_32 : Dq cX12_told 32 (.getfield 23) 3 35 := ⟨by decide +kernel, rfl⟩
theorem qX12_told_35 : Dq cX12_told 35 (.iload_n 1) 1 36 := ⟨by decide +kernel, rfl⟩
theorem qX12_told_36 : Dq cX12_told 36 (.iaload) 1 37 := ⟨by decide +kernel, rfl⟩
theorem qX12_told_37 : Dq cX12_told 37 (.goto 22) 3 40 := ⟨by decide +kernel, rfl⟩
theorem qX12_told_40 : Dq cX12_told 40 (.iload_n 2) 1 41 := ⟨by decide +kernel, rfl⟩
theorem qX12_told_41 : Dq cX12_told 41 (.iconst 1) 1 42 := ⟨by decide +kernel, rfl⟩
theorem qX12_told_42 : Dq cX12_told 42 (.if_icmp .ne 12) 3 45 := ⟨by decide +kernel, rfl⟩
theorem qX12_told_45 : Dq cX12_told 45 (.aload_n 0) 1 46 := ⟨by decide +kernel, rfl⟩
theorem qX12_told_46 : Dq cX12_told 46 (.getfield 26) 3 49 := ⟨by decide +kernel, rfl⟩
theorem qX12_told_49 : Dq cX12_told 49 (.iload_n 1) 1 50 := ⟨by decide +kernel, rfl⟩
theorem qX12_told_50 : Dq cX12_told 50 (.iaload) 1 51 := ⟨by decide +kernel, rfl⟩
theorem qX12_told_51 : Dq cX12_told 51 (.goto 8) 3 54 := ⟨by decide +kernel, rfl⟩
theorem qX12_told_54 : Dq cX12_told 54 (.aload_n 0) 1 55 := ⟨by decide +kernel, rfl⟩
theorem qX12_told_55 : Dq cX12_told 55 (.iload_n 1) 1 56 := ⟨by decide +kernel, rfl⟩
theorem qX12_told_56 : Dq cX12_told 56 (.invokevirtual 249) 3 59 := ⟨by decide +kernel, rfl⟩
theorem qX12_told_59 : Dq cX12_told 59 (.ireturn) 1 60 := ⟨by decide +kernel, rfl⟩
theorem qX12_told_60 : Dq cX12_told 60 (.iload_n 2) 1 61 := ⟨by decide +kernel, rfl⟩
theorem qX12_told_61 : Dq cX12_told 61 (.iconst 4) 1 62 := ⟨by decide +kernel, rfl⟩
theorem qX12_told_62 : Dq cX12_told 62 (.if_icmp .ne 11) 3 65 := ⟨by decide +kernel, rfl⟩
theorem qX12_told_65 : Dq cX12_told 65 (.aload_n 0) 1 66 := ⟨by decide +kernel, rfl⟩
theorem qX12_told_66 : Dq cX12_told 66 (.iload_n 1) 1 67 := ⟨by decide +kernel, rfl⟩
theorem qX12_told_67 : Dq cX12_told 67 (.invokevirtual 252) 3 70 := ⟨by decide +kernel, rfl⟩
theorem qX12_told_70 : Dq cX12_told 70 (.goto 16) 3 73 := ⟨by decide +kernel, rfl⟩
theorem qX12_told_73 : Dq cX12_told 73 (.aload_n 0) 1 74 := ⟨by decide +kernel, rfl⟩
theorem qX12_told_74 : Dq cX12_told 74 (.iload_n 1) 1 75 := ⟨by decide +kernel, rfl⟩
theorem qX12_told_75 : Dq cX12_told 75 (.invokevirtual 255) 3 78 := ⟨by decide +kernel, rfl⟩
theorem qX12_told_78 : Dq cX12_told 78 (.ifCond .eq 7) 3 81 := ⟨by decide +kernel, rfl⟩
theorem qX12_told_81 : Dq cX12_told 81 (.iconst 1) 1 82 := ⟨by decide +kernel, rfl⟩
theorem qX12_told_82 : Dq cX12_told 82 (.goto 4) 3 85 := ⟨by decide +kernel, rfl⟩
theorem qX12_told_85 : Dq cX12_told 85 (.iconst 0) 1 86 := ⟨by decide +kernel, rfl⟩
theorem qX12_told_86 : Dq cX12_told 86 (.ireturn) 1 87 := ⟨by decide +kernel, rfl⟩
set_option maxRecDepth 100000 in
set_option maxHeartbeats 4000000 in
theorem m_told {G : Glb} {h : AHp} {E : Sst} (hc : MW h E) (c w : Int32) : CP G m_X12_told 64 0 0 [.ref 38, .int c, .int w] h (fun r h' => r = some (.int (toldI (sT E) (sB E) c w)) ∧ ∃ σ J, h' = mkH h σ J ∧ MW (mkH h σ J) E ∧ K58 h σ) := by
  suffices key : ∀ P : Option Value → AHp → Prop, (∀ r h', (r = some (.int (toldI (sT E) (sB E) c w)) ∧ ∃ σ J, h' = mkH h σ J ∧ MW (mkH h σ J) E ∧ K58 h σ) → P r h') → CP G m_X12_told 64 0 0 [.ref 38, .int c, .int w] h P from key _ (fun _ _ z => z)
  intro P hP
  obtain ⟨hm, htx, hp, hb, hkp, htp, hst, hok⟩ := id hc
  have hc6 := hok.1
  have hm6 := hok.2.1
  have hkd : ∀ i, i < sM E → sK E i < 6 := fun i hi => (hok.2.2.1 i hi).1
  have hnu : ∀ i, i < sM E → inR (sN E i) 9 := fun i hi => (hok.2.2.1 i hi).2
  have hbe : BeOK (bm h) (sC E) := by rw [hb]; exact hok.2.2.2.1
  refine CP.of (by decide +kernel) (Nat.le_of_ble_eq_true rfl) fun X hX hR hnm => ?_
  show V X G 3 0 0 _ 0 [some (.ref 38), some (.int c), some (.int w)] [] h
  refine v_iload_n hX rfl qX12_told_0 ?_
  refine v_callSq hX hR k_X12_96 (m_isCell _) rfl (Nat.le_of_ble_eq_true rfl) rfl (Nat.le_of_ble_eq_true rfl) ⟨Nat.le_of_ble_eq_true rfl, Nat.le_of_ble_eq_true rfl⟩ qX12_told_1 ?_
  rintro _ _ ⟨rfl, rfl⟩
  first | refine v_if_eqB hX 19 qX12_told_4 rfl (fun q4 => ?_) (fun q4 => ?_) | refine v_if_eq hX 19 qX12_told_4 rfl (fun q4 => ?_) (fun q4 => ?_)
  · skip
    refine v_bipush hX lb_n2 qX12_told_19 ?_
    refine v_ireturn hX qX12_told_21 (hP _ _ ?_)
    first | (rw [toldI, if_neg (fun z => q4 z.1)]; exact ⟨rfl, h.1, h.2.2.1, rfl, hc, fun a _ => rfl⟩) | (rw [toldI, if_neg (fun z => q16 z.2)]; exact ⟨rfl, h.1, h.2.2.1, rfl, hc, fun a _ => rfl⟩)
  · obtain ⟨q, hq, rfl⟩ := isC_ex q4
    refine v_iload_n hX rfl qX12_told_7 ?_
    refine v_i2l hX qX12_told_8 ?_
    refine v_lconst hX ll_0 qX12_told_9 ?_
    refine v_ldc2 hX c_X12_94 qX12_told_10 ?_
    refine v_callSq hX hR k_X12_87 (m_in _ (by exact (0)) (by exact (4))) rfl (Nat.le_of_ble_eq_true rfl) rfl (Nat.le_of_ble_eq_true rfl) ⟨Nat.le_of_ble_eq_true rfl, Nat.le_of_ble_eq_true rfl⟩ qX12_told_13 ?_
    rintro _ _ ⟨rfl, rfl⟩
    first | refine v_if_neB hX 22 qX12_told_16 rfl (fun q16 => ?_) (fun q16 => ?_) | refine v_if_ne hX 22 qX12_told_16 rfl (fun q16 => ?_) (fun q16 => ?_)
    · skip
      refine v_iload_n hX rfl qX12_told_22 ?_
      refine v_iconst hX li_3 qX12_told_23 ?_
      refine v_icmp_geS hX 60 qX12_told_24 rfl (fun q24 => ?_) (fun q24 => ?_)
      · skip
        refine v_iload_n hX rfl qX12_told_60 ?_
        refine v_iconst hX li_4 qX12_told_61 ?_
        refine v_icmp_ne hX 73 qX12_told_62 rfl (fun q62 => ?_) (fun q62 => ?_)
        · skip
          refine v_aload_n hX rfl qX12_told_73 ?_
          refine v_iload_n hX rfl qX12_told_74 ?_
          refine v_callVq hX hR k_X12_255 (hm.kd 38 rfl) (m_isUnder (by exact hm) (by exact htx) (by exact hc6) (by exact hbe) (by exact hq)) rfl (Nat.le_of_ble_eq_true rfl) rfl (Nat.le_of_ble_eq_true rfl) ⟨Nat.le_of_ble_eq_true rfl, Nat.le_of_ble_eq_true rfl⟩ qX12_told_75 ?_
          rintro _ _ ⟨rfl, σ, J, rfl, hf⟩
          first | refine v_if_eqB hX 85 qX12_told_78 rfl (fun q78 => ?_) (fun q78 => ?_) | refine v_if_eq hX 85 qX12_told_78 rfl (fun q78 => ?_) (fun q78 => ?_)
          · skip
            refine v_iconst hX li_0 qX12_told_85 ?_
            refine v_ireturn hX qX12_told_86 (hP _ _ ?_)
            obtain ⟨n0, n1, n2⟩ := wqn q24
            first | (rw [toldI, if_pos (show isC (nI q) ∧ (0 ≤ w ∧ w ≤ 4) from ⟨isCn hq, q16⟩), tn_nI (show q < 2000000 by omega), if_neg n0, if_neg n1, if_neg n2, if_neg (by rw [q62]; decide), ← hb]; exact ⟨rfl, σ, J, rfl, hc.fr hf, hf.k⟩) | (rw [toldI, if_pos (show isC (nI q) ∧ (0 ≤ w ∧ w ≤ 4) from ⟨isCn hq, q16⟩), tn_nI (show q < 2000000 by omega), if_neg n0, if_neg n1, if_neg n2, if_pos (wq3 q24 q16.2 q62), ← hb]; exact ⟨rz (bz_f (fun z => q78 z)), σ, J, rfl, hc.fr hf, hf.k⟩) | (rw [toldI, if_pos (show isC (nI q) ∧ (0 ≤ w ∧ w ≤ 4) from ⟨isCn hq, q16⟩), tn_nI (show q < 2000000 by omega), if_neg n0, if_neg n1, if_neg n2, if_pos (wq3 q24 q16.2 q62), ← hb]; exact ⟨rz (bz_t q78), σ, J, rfl, hc.fr hf, hf.k⟩)
          · skip
            refine v_iconst hX li_1 qX12_told_81 ?_
            refine v_goto hX 86 qX12_told_82 rfl ?_
            refine v_ireturn hX qX12_told_86 (hP _ _ ?_)
            obtain ⟨n0, n1, n2⟩ := wqn q24
            first | (rw [toldI, if_pos (show isC (nI q) ∧ (0 ≤ w ∧ w ≤ 4) from ⟨isCn hq, q16⟩), tn_nI (show q < 2000000 by omega), if_neg n0, if_neg n1, if_neg n2, if_neg (by rw [q62]; decide), ← hb]; exact ⟨rfl, σ, J, rfl, hc.fr hf, hf.k⟩) | (rw [toldI, if_pos (show isC (nI q) ∧ (0 ≤ w ∧ w ≤ 4) from ⟨isCn hq, q16⟩), tn_nI (show q < 2000000 by omega), if_neg n0, if_neg n1, if_neg n2, if_pos (wq3 q24 q16.2 q62), ← hb]; exact ⟨rz (bz_f (fun z => q78 z)), σ, J, rfl, hc.fr hf, hf.k⟩) | (rw [toldI, if_pos (show isC (nI q) ∧ (0 ≤ w ∧ w ≤ 4) from ⟨isCn hq, q16⟩), tn_nI (show q < 2000000 by omega), if_neg n0, if_neg n1, if_neg n2, if_pos (wq3 q24 q16.2 q62), ← hb]; exact ⟨rz (bz_t q78), σ, J, rfl, hc.fr hf, hf.k⟩)
        · skip
          refine v_aload_n hX rfl qX12_told_65 ?_
          refine v_iload_n hX rfl qX12_told_66 ?_
          refine v_callVq hX hR k_X12_252 (hm.kd 38 rfl) (m_shine (by exact hm) (by exact htx) (by exact hc6) (by exact hbe) (by exact hq)) rfl (Nat.le_of_ble_eq_true rfl) rfl (Nat.le_of_ble_eq_true rfl) ⟨Nat.le_of_ble_eq_true rfl, Nat.le_of_ble_eq_true rfl⟩ qX12_told_67 ?_
          rintro _ _ ⟨rfl, σ, J, rfl, hf⟩
          refine v_goto hX 86 qX12_told_70 rfl ?_
          refine v_ireturn hX qX12_told_86 (hP _ _ ?_)
          obtain ⟨n0, n1, n2⟩ := wqn q24
          first | (rw [toldI, if_pos (show isC (nI q) ∧ (0 ≤ w ∧ w ≤ 4) from ⟨isCn hq, q16⟩), tn_nI (show q < 2000000 by omega), if_neg n0, if_neg n1, if_neg n2, if_neg (by rw [q62]; decide), ← hb]; exact ⟨rfl, σ, J, rfl, hc.fr hf, hf.k⟩) | (rw [toldI, if_pos (show isC (nI q) ∧ (0 ≤ w ∧ w ≤ 4) from ⟨isCn hq, q16⟩), tn_nI (show q < 2000000 by omega), if_neg n0, if_neg n1, if_neg n2, if_pos (wq3 q24 q16.2 q62), ← hb]; exact ⟨rz (bz_f (fun z => q78 z)), σ, J, rfl, hc.fr hf, hf.k⟩) | (rw [toldI, if_pos (show isC (nI q) ∧ (0 ≤ w ∧ w ≤ 4) from ⟨isCn hq, q16⟩), tn_nI (show q < 2000000 by omega), if_neg n0, if_neg n1, if_neg n2, if_pos (wq3 q24 q16.2 q62), ← hb]; exact ⟨rz (bz_t q78), σ, J, rfl, hc.fr hf, hf.k⟩)
      · skip
        refine v_iload_n hX rfl qX12_told_27 ?_
        first | refine v_if_neB hX 40 qX12_told_28 rfl (fun q28 => ?_) (fun q28 => ?_) | refine v_if_ne hX 40 qX12_told_28 rfl (fun q28 => ?_) (fun q28 => ?_)
        · skip
          refine v_iload_n hX rfl qX12_told_40 ?_
          refine v_iconst hX li_1 qX12_told_41 ?_
          refine v_icmp_ne hX 54 qX12_told_42 rfl (fun q42 => ?_) (fun q42 => ?_)
          · skip
            refine v_aload_n hX rfl qX12_told_54 ?_
            refine v_iload_n hX rfl qX12_told_55 ?_
            refine v_callVq hX hR k_X12_249 (hm.kd 38 rfl) (m_deep (by exact hm) (by exact htx) (by exact hc6) (by exact hbe) (by exact hq)) rfl (Nat.le_of_ble_eq_true rfl) rfl (Nat.le_of_ble_eq_true rfl) ⟨Nat.le_of_ble_eq_true rfl, Nat.le_of_ble_eq_true rfl⟩ qX12_told_56 ?_
            rintro _ _ ⟨rfl, σ, J, rfl, hf⟩
            refine v_ireturn hX qX12_told_59 (hP _ _ ?_)
            first | (rw [toldI, if_pos (show isC (nI q) ∧ (0 ≤ w ∧ w ≤ 4) from ⟨isCn hq, q16⟩), tn_nI (show q < 2000000 by omega), if_pos q28]; exact ⟨rfl, h.1, h.2.2.1, rfl, hc, fun a _ => rfl⟩) | (rw [toldI, if_pos (show isC (nI q) ∧ (0 ≤ w ∧ w ≤ 4) from ⟨isCn hq, q16⟩), tn_nI (show q < 2000000 by omega), if_neg q28, if_pos q42]; exact ⟨rfl, h.1, h.2.2.1, rfl, hc, fun a _ => rfl⟩) | (rw [toldI, if_pos (show isC (nI q) ∧ (0 ≤ w ∧ w ≤ 4) from ⟨isCn hq, q16⟩), tn_nI (show q < 2000000 by omega), if_neg q28, if_neg q42, if_pos (wq2 q16.1 q24 q28 q42), ← hb]; exact ⟨rfl, σ, J, rfl, hc.fr hf, hf.k⟩)
          · skip
            refine v_aload_n hX rfl qX12_told_45 ?_
            refine v_getR hX g_X12_26 (hm.kd 38 rfl) (hm.rf 4 rfl) qX12_told_46 ?_
            refine v_iload_n hX rfl qX12_told_49 ?_
            refine v_ialdV hX (hm.kd 43 rfl) (hm.ln 43 rfl) (by exact ix_n hq rfl) (show _ = sB E 2 q by rw [← hb, bm2 hq]) qX12_told_50 ?_
            refine v_goto hX 59 qX12_told_51 rfl ?_
            refine v_ireturn hX qX12_told_59 (hP _ _ ?_)
            first | (rw [toldI, if_pos (show isC (nI q) ∧ (0 ≤ w ∧ w ≤ 4) from ⟨isCn hq, q16⟩), tn_nI (show q < 2000000 by omega), if_pos q28]; exact ⟨rfl, h.1, h.2.2.1, rfl, hc, fun a _ => rfl⟩) | (rw [toldI, if_pos (show isC (nI q) ∧ (0 ≤ w ∧ w ≤ 4) from ⟨isCn hq, q16⟩), tn_nI (show q < 2000000 by omega), if_neg q28, if_pos q42]; exact ⟨rfl, h.1, h.2.2.1, rfl, hc, fun a _ => rfl⟩) | (rw [toldI, if_pos (show isC (nI q) ∧ (0 ≤ w ∧ w ≤ 4) from ⟨isCn hq, q16⟩), tn_nI (show q < 2000000 by omega), if_neg q28, if_neg q42, if_pos (wq2 q16.1 q24 q28 q42), ← hb]; exact ⟨rfl, σ, J, rfl, hc.fr hf, hf.k⟩)
        · skip
          refine v_aload_n hX rfl qX12_told_31 ?_
          refine v_getR hX g_X12_23 (hm.kd 38 rfl) (hm.rf 3 rfl) qX12_told_32 ?_
          refine v_iload_n hX rfl qX12_told_35 ?_
          refine v_ialdV hX (hm.kd 42 rfl) (hm.ln 42 rfl) (by exact ix_n hq rfl) (show _ = sB E 1 q by rw [← hb, bm1 hq]) qX12_told_36 ?_
          refine v_goto hX 59 qX12_told_37 rfl ?_
          refine v_ireturn hX qX12_told_59 (hP _ _ ?_)
          first | (rw [toldI, if_pos (show isC (nI q) ∧ (0 ≤ w ∧ w ≤ 4) from ⟨isCn hq, q16⟩), tn_nI (show q < 2000000 by omega), if_pos q28]; exact ⟨rfl, h.1, h.2.2.1, rfl, hc, fun a _ => rfl⟩) | (rw [toldI, if_pos (show isC (nI q) ∧ (0 ≤ w ∧ w ≤ 4) from ⟨isCn hq, q16⟩), tn_nI (show q < 2000000 by omega), if_neg q28, if_pos q42]; exact ⟨rfl, h.1, h.2.2.1, rfl, hc, fun a _ => rfl⟩) | (rw [toldI, if_pos (show isC (nI q) ∧ (0 ≤ w ∧ w ≤ 4) from ⟨isCn hq, q16⟩), tn_nI (show q < 2000000 by omega), if_neg q28, if_neg q42, if_pos (wq2 q16.1 q24 q28 q42), ← hb]; exact ⟨rfl, σ, J, rfl, hc.fr hf, hf.k⟩)
    · skip
      refine v_bipush hX lb_n2 qX12_told_19 ?_
      refine v_ireturn hX qX12_told_21 (hP _ _ ?_)
      first | (rw [toldI, if_neg (fun z => q4 z.1)]; exact ⟨rfl, h.1, h.2.2.1, rfl, hc, fun a _ => rfl⟩) | (rw [toldI, if_neg (fun z => q16 z.2)]; exact ⟨rfl, h.1, h.2.2.1, rfl, hc, fun a _ => rfl⟩)
theorem qX12_asks_0 : Dq cX12_asks 0 (.aload_n 0) 1 1 := ⟨by decide +kernel, rfl⟩
theorem qX12_asks_1 : Dq cX12_asks 1 (.iload_n 1) 1 2 := ⟨by decide +kernel, rfl⟩
theorem qX12_asks_2 : Dq cX12_asks 2 (.invokevirtual 264) 3 5 := ⟨by decide +kernel, rfl⟩
theorem qX12_asks_5 : Dq cX12_asks 5 (.ifCond .eq 22) 3 8 := ⟨by decide +kernel, rfl⟩
theorem qX12_asks_8 : Dq cX12_asks 8 (.iload_n 2) 1 9 := ⟨by decide +kernel, rfl⟩
theorem qX12_asks_9 : Dq cX12_asks 9 (.invokestatic 96) 3 12 := ⟨by decide +kernel, rfl⟩
theorem qX12_asks_12 : Dq cX12_asks 12 (.ifCond .eq 15) 3 15 := ⟨by decide +kernel, rfl⟩
theorem qX12_asks_15 : Dq cX12_asks 15 (.iload_n 3) 1 16 := ⟨by decide +kernel, rfl⟩
theorem qX12_asks_16 : Dq cX12_asks 16 (.i2l) 1 17 := ⟨by decide +kernel, rfl⟩
theorem qX12_asks_17 : Dq cX12_asks 17 (.lconst 0) 1 18 := ⟨by decide +kernel, rfl⟩
theorem qX12_asks_18 : Dq cX12_asks 18 (.ldc2_w 94) 3 21 := ⟨by decide +kernel, rfl⟩
theorem qX12_asks_21 : Dq cX12_asks 21 (.invokestatic 87) 3 24 := ⟨by decide +kernel, rfl⟩
theorem qX12_asks_24 : Dq cX12_asks 24 (.ifCond .ne 6) 3 27 := ⟨by decide +kernel, rfl⟩
theorem qX12_asks_27 : Dq cX12_asks 27 (.bipush (-2)) 2 29 := ⟨by decide +kernel, rfl⟩
theorem qX12_asks_29 : Dq cX12_asks 29 (.ireturn) 1 30 := ⟨by decide +kernel, rfl⟩
theorem qX12_asks_30 : Dq cX12_asks 30 (.iload_n 3) 1 31 := ⟨by decide +kernel, rfl⟩
theorem qX12_asks_31 : Dq cX12_asks 31 (.iconst 3) 1 32 := ⟨by decide +kernel, rfl⟩
theorem qX12_asks_32 : Dq cX12_asks 32 (.if_icmp .ge 35) 3 35 := ⟨by decide +kernel, rfl⟩
theorem qX12_asks_35 : Dq cX12_asks 35 (.iload_n 3) 1 36 := ⟨by decide +kernel, rfl⟩
theorem qX12_asks_36 : Dq cX12_asks 36 (.ifCond .ne 12) 3 39 := ⟨by decide +kernel, rfl⟩
theorem qX12_asks_39 : Dq cX12_asks 39 (.aload_n 0) 1 40 := ⟨by decide +kernel, rfl⟩
theorem qX12_asks_40 : Dq cX12_asks 40 (.iload_n 1) 1 41 := ⟨by decide +kernel, rfl⟩
theorem qX12_asks_41 : Dq cX12_asks 41 (.iload_n 2) 1 42 := ⟨by decide +kernel, rfl⟩
theorem qX12_asks_42 : Dq cX12_asks 42 (.invokevirtual 261) 3 45 := ⟨by decide +kernel, rfl⟩
theorem qX12_asks_45 : Dq cX12_asks 45 (.goto 21) 3 48 := ⟨by decide +kernel, rfl⟩
theorem qX12_asks_48 : Dq cX12_asks 48 (.iload_n 3) 1 49 := ⟨by decide +kernel, rfl⟩
theorem qX12_asks_49 : Dq cX12_asks 49 (.iconst 1) 1 50 := ⟨by decide +kernel, rfl⟩
theorem qX12_asks_50 : Dq cX12_asks 50 (.if_icmp .ne 11) 3 53 := ⟨by decide +kernel, rfl⟩
theorem qX12_asks_53 : Dq cX12_asks 53 (.aload_n 0) 1 54 := ⟨by decide +kernel, rfl⟩
theorem qX12_asks_54 : Dq cX12_asks 54 (.iload_n 1) 1 55 := ⟨by decide +kernel, rfl⟩
theorem qX12_asks_55 : Dq cX12_asks 55 (.invokevirtual 267) 3 58 := ⟨by decide +kernel, rfl⟩
theorem qX12_asks_58 : Dq cX12_asks 58 (.goto 8) 3 61 := ⟨by decide +kernel, rfl⟩
theorem qX12_asks_61 : Dq cX12_asks 61 (.aload_n 0) 1 62 := ⟨by decide +kernel, rfl⟩
theorem qX12_asks_62 : Dq cX12_asks 62 (.iload_n 1) 1 63 := ⟨by decide +kernel, rfl⟩
theorem qX12_asks_63 : Dq cX12_asks 63 (.invokevirtual 270) 3 66 := ⟨by decide +kernel, rfl⟩
theorem qX12_asks_66 : Dq cX12_asks 66 (.ireturn) 1 67 := ⟨by decide +kernel, rfl⟩
theorem qX12_asks_67 : Dq cX12_asks 67 (.iload_n 3) 1 68 := ⟨by decide +kernel, rfl⟩
theorem qX12_asks_68 : Dq cX12_asks 68 (.iconst 3) 1 69 := ⟨by decide +kernel, rfl⟩
theorem qX12_asks_69 : Dq cX12_asks 69 (.if_icmp .ne 12) 3 72 := ⟨by decide +kernel, rfl⟩
theorem qX12_asks_72 : Dq cX12_asks 72 (.aload_n 0) 1 73 := ⟨by decide +kernel, rfl⟩
theorem qX12_asks_73 : Dq cX12_asks 73 (.iload_n 1) 1 74 := ⟨by decide +kernel, rfl⟩
theorem qX12_asks_74 : Dq cX12_asks 74 (.iload_n 2) 1 75 := ⟨by decide +kernel, rfl⟩
theorem qX12_asks_75 : Dq cX12_asks 75 (.invokevirtual 273) 3 78 := ⟨by decide +kernel, rfl⟩
theorem qX12_asks_78 : Dq cX12_asks 78 (.goto 15) 3 81 := ⟨by decide +kernel, rfl⟩
theorem qX12_asks_81 : Dq cX12_asks 81 (.aload_n 0) 1 82 := ⟨by decide +kernel, rfl⟩
theorem qX12_asks_82 : Dq cX12_asks 82 (.iload_n 1) 1 83 := ⟨by decide +kernel, rfl⟩
theorem qX12_asks_83 : Dq cX12_asks 83 (.iload_n 2) 1 84 := ⟨by decide +kernel, rfl⟩
theorem qX12_asks_84 : Dq cX12_asks 84 (.invokevirtual 273) 3 87 := ⟨by decide +kernel, rfl⟩
theorem qX12_asks_87 : Dq cX12_asks 87 (.aload_n 0) 1 88 := ⟨by decide +kernel, rfl⟩
theorem qX12_asks_88 : Dq cX12_asks 88 (.iload_n 1) 1 89 := ⟨by decide +kernel, rfl⟩
theorem qX12_asks_89 : Dq cX12_asks 89 (.invokevirtual 267) 3 92 := ⟨by decide +kernel, rfl⟩
theorem qX12_asks_92 : Dq cX12_asks 92 (.idiv) 1 93 := ⟨by decide +kernel, rfl⟩
theorem qX12_asks_93 : Dq cX12_asks 93 (.ireturn) 1 94 := ⟨by decide +kernel, rfl⟩
set_option maxRecDepth 100000 in
set_option maxHeartbeats 4000000 in
theorem m_asks {G : Glb} {h : AHp} {E : Sst} (hc : MW h E) (ll c w : Int32) : CP G m_X12_asks 66 0 0 [.ref 38, .int ll, .int c, .int w] h (fun r h' => r = some (.int (asksI E ll c w)) ∧ ∃ σ J, h' = mkH h σ J ∧ MW (mkH h σ J) E ∧ K58 h σ) := by
  suffices key : ∀ P : Option Value → AHp → Prop, (∀ r h', (r = some (.int (asksI E ll c w)) ∧ ∃ σ J, h' = mkH h σ J ∧ MW (mkH h σ J) E ∧ K58 h σ) → P r h') → CP G m_X12_asks 66 0 0 [.ref 38, .int ll, .int c, .int w] h P from key _ (fun _ _ z => z)
  intro P hP
  obtain ⟨hm, htx, hp, hb, hkp, htp, hst, hok⟩ := id hc
  have hc6 := hok.1
  have hm6 := hok.2.1
  have hkd : ∀ i, i < sM E → sK E i < 6 := fun i hi => (hok.2.2.1 i hi).1
  have hnu : ∀ i, i < sM E → inR (sN E i) 9 := fun i hi => (hok.2.2.1 i hi).2
  have hbe : BeOK (bm h) (sC E) := by rw [hb]; exact hok.2.2.2.1
  refine CP.of (by decide +kernel) (Nat.le_of_ble_eq_true rfl) fun X hX hR hnm => ?_
  show V X G 4 0 0 _ 0 [some (.ref 38), some (.int ll), some (.int c), some (.int w)] [] h
  refine v_aload_n hX rfl qX12_asks_0 ?_
  refine v_iload_n hX rfl qX12_asks_1 ?_
  refine v_callVq hX hR k_X12_264 (hm.kd 38 rfl) (m_isLooker (by exact hm) (by exact hp.1) (by exact hm6) _) rfl (Nat.le_of_ble_eq_true rfl) rfl (Nat.le_of_ble_eq_true rfl) ⟨Nat.le_of_ble_eq_true rfl, Nat.le_of_ble_eq_true rfl⟩ qX12_asks_2 ?_
  rintro _ _ ⟨rfl, rfl⟩
  first | refine v_if_eqB hX 27 qX12_asks_5 rfl (fun q5 => ?_) (fun q5 => ?_) | refine v_if_eq hX 27 qX12_asks_5 rfl (fun q5 => ?_) (fun q5 => ?_)
  · skip
    refine v_bipush hX lb_n2 qX12_asks_27 ?_
    refine v_ireturn hX qX12_asks_29 (hP _ _ ?_)
    first | (rw [asksI, if_neg (fun z => q5 z.1)]; exact ⟨rfl, h.1, h.2.2.1, rfl, hc, fun a _ => rfl⟩) | (rw [asksI, if_neg (fun z => q12 z.2.1)]; exact ⟨rfl, h.1, h.2.2.1, rfl, hc, fun a _ => rfl⟩) | (rw [asksI, if_neg (fun z => q24 z.2.2)]; exact ⟨rfl, h.1, h.2.2.1, rfl, hc, fun a _ => rfl⟩)
  · obtain ⟨l, hl, rfl⟩ := ofRange q5.1 q5.2 (by omega)
    refine v_iload_n hX rfl qX12_asks_8 ?_
    refine v_callSq hX hR k_X12_96 (m_isCell _) rfl (Nat.le_of_ble_eq_true rfl) rfl (Nat.le_of_ble_eq_true rfl) ⟨Nat.le_of_ble_eq_true rfl, Nat.le_of_ble_eq_true rfl⟩ qX12_asks_9 ?_
    rintro _ _ ⟨rfl, rfl⟩
    first | refine v_if_eqB hX 27 qX12_asks_12 rfl (fun q12 => ?_) (fun q12 => ?_) | refine v_if_eq hX 27 qX12_asks_12 rfl (fun q12 => ?_) (fun q12 => ?_)
    · skip
      refine v_bipush hX lb_n2 qX12_asks_27 ?_
      refine v_ireturn hX qX12_asks_29 (hP _ _ ?_)
      first | (rw [asksI, if_neg (fun z => q5 z.1)]; exact ⟨rfl, h.1, h.2.2.1, rfl, hc, fun a _ => rfl⟩) | (rw [asksI, if_neg (fun z => q12 z.2.1)]; exact ⟨rfl, h.1, h.2.2.1, rfl, hc, fun a _ => rfl⟩) | (rw [asksI, if_neg (fun z => q24 z.2.2)]; exact ⟨rfl, h.1, h.2.2.1, rfl, hc, fun a _ => rfl⟩)
    · obtain ⟨q, hq, rfl⟩ := isC_ex q12
      refine v_iload_n hX rfl qX12_asks_15 ?_
      refine v_i2l hX qX12_asks_16 ?_
      refine v_lconst hX ll_0 qX12_asks_17 ?_
      refine v_ldc2 hX c_X12_94 qX12_asks_18 ?_
      refine v_callSq hX hR k_X12_87 (m_in _ (by exact (0)) (by exact (4))) rfl (Nat.le_of_ble_eq_true rfl) rfl (Nat.le_of_ble_eq_true rfl) ⟨Nat.le_of_ble_eq_true rfl, Nat.le_of_ble_eq_true rfl⟩ qX12_asks_21 ?_
      rintro _ _ ⟨rfl, rfl⟩
      first | refine v_if_neB hX 30 qX12_asks_24 rfl (fun q24 => ?_) (fun q24 => ?_) | refine v_if_ne hX 30 qX12_asks_24 rfl (fun q24 => ?_) (fun q24 => ?_)
      · skip
        refine v_iload_n hX rfl qX12_asks_30 ?_
        refine v_iconst hX li_3 qX12_asks_31 ?_
        refine v_icmp_geS hX 67 qX12_asks_32 rfl (fun q32 => ?_) (fun q32 => ?_)
        · skip
          refine v_iload_n hX rfl qX12_asks_67 ?_
          refine v_iconst hX li_3 qX12_asks_68 ?_
          refine v_icmp_ne hX 81 qX12_asks_69 rfl (fun q69 => ?_) (fun q69 => ?_)
          · skip
            refine v_aload_n hX rfl qX12_asks_81 ?_
            refine v_iload_n hX rfl qX12_asks_82 ?_
            refine v_iload_n hX rfl qX12_asks_83 ?_
            refine v_callVq hX hR k_X12_273 (hm.kd 38 rfl) (m_gain (by exact hm) (by exact htx) (by exact hc6) (by exact hbe) (by exact hp) (by exact hm6) (by exact hkd) (by exact hl) (by exact hq)) rfl (Nat.le_of_ble_eq_true rfl) rfl (Nat.le_of_ble_eq_true rfl) ⟨Nat.le_of_ble_eq_true rfl, Nat.le_of_ble_eq_true rfl⟩ qX12_asks_84 ?_
            rintro _ _ ⟨rfl, σ, J, rfl, hf⟩
            have hp2 := hf.pt hp
            refine v_aload_n hX rfl qX12_asks_87 ?_
            refine v_iload_n hX rfl qX12_asks_88 ?_
            refine v_callVq hX hR k_X12_267 (hm.kd 38 rfl) (m_takes (by exact hm) (by exact hp2) (by exact hm6) (by exact hkd) (by exact hl)) rfl (Nat.le_of_ble_eq_true rfl) rfl (Nat.le_of_ble_eq_true rfl) ⟨Nat.le_of_ble_eq_true rfl, Nat.le_of_ble_eq_true rfl⟩ qX12_asks_89 ?_
            rintro _ _ ⟨rfl, rfl⟩
            rw [tk_eq (hnu l hl)]
            obtain ⟨tk, tk1, tk2, etk⟩ := tkR_in (k := sK E l) (hnu l hl)
            refine v_idiv hX (by rw [etk]; exact nI_ne0 (by omega) (by omega)) qX12_asks_92 ?_
            refine v_ireturn hX qX12_asks_93 (hP _ _ ?_)
            obtain ⟨n0, n1, n2⟩ := wqn q32
            first | (rw [asksI, if_pos (show (0 ≤ nI l ∧ nI l < nI (sM E)) ∧ isC (nI q) ∧ (0 ≤ w ∧ w ≤ 4) from ⟨q5, isCn hq, q24⟩), tn_nI (show l < 2000000 by omega), tn_nI (show q < 2000000 by omega), if_neg n0, if_neg n1, if_neg n2, if_pos q69, ← hb]; exact ⟨rfl, σ, J, rfl, hc.fr hf, hf.k⟩) | (rw [asksI, if_pos (show (0 ≤ nI l ∧ nI l < nI (sM E)) ∧ isC (nI q) ∧ (0 ≤ w ∧ w ≤ 4) from ⟨q5, isCn hq, q24⟩), tn_nI (show l < 2000000 by omega), tn_nI (show q < 2000000 by omega), if_neg n0, if_neg n1, if_neg n2, if_neg q69, ← hb, rateB, if_pos (show 0 < tkB (sK E l) (sN E l) by rw [etk]; exact nI_lt (a := 0) (by omega) (by omega))]; exact ⟨rfl, σ, J, rfl, hc.fr hf, hf.k⟩)
          · skip
            refine v_aload_n hX rfl qX12_asks_72 ?_
            refine v_iload_n hX rfl qX12_asks_73 ?_
            refine v_iload_n hX rfl qX12_asks_74 ?_
            refine v_callVq hX hR k_X12_273 (hm.kd 38 rfl) (m_gain (by exact hm) (by exact htx) (by exact hc6) (by exact hbe) (by exact hp) (by exact hm6) (by exact hkd) (by exact hl) (by exact hq)) rfl (Nat.le_of_ble_eq_true rfl) rfl (Nat.le_of_ble_eq_true rfl) ⟨Nat.le_of_ble_eq_true rfl, Nat.le_of_ble_eq_true rfl⟩ qX12_asks_75 ?_
            rintro _ _ ⟨rfl, σ, J, rfl, hf⟩
            refine v_goto hX 93 qX12_asks_78 rfl ?_
            refine v_ireturn hX qX12_asks_93 (hP _ _ ?_)
            obtain ⟨n0, n1, n2⟩ := wqn q32
            first | (rw [asksI, if_pos (show (0 ≤ nI l ∧ nI l < nI (sM E)) ∧ isC (nI q) ∧ (0 ≤ w ∧ w ≤ 4) from ⟨q5, isCn hq, q24⟩), tn_nI (show l < 2000000 by omega), tn_nI (show q < 2000000 by omega), if_neg n0, if_neg n1, if_neg n2, if_pos q69, ← hb]; exact ⟨rfl, σ, J, rfl, hc.fr hf, hf.k⟩) | (rw [asksI, if_pos (show (0 ≤ nI l ∧ nI l < nI (sM E)) ∧ isC (nI q) ∧ (0 ≤ w ∧ w ≤ 4) from ⟨q5, isCn hq, q24⟩), tn_nI (show l < 2000000 by omega), tn_nI (show q < 2000000 by omega), if_neg n0, if_neg n1, if_neg n2, if_neg q69, ← hb, rateB, if_pos (show 0 < tkB (sK E l) (sN E l) by rw [etk]; exact nI_lt (a := 0) (by omega) (by omega))]; exact ⟨rfl, σ, J, rfl, hc.fr hf, hf.k⟩)
        · skip
          refine v_iload_n hX rfl qX12_asks_35 ?_
          first | refine v_if_neB hX 48 qX12_asks_36 rfl (fun q36 => ?_) (fun q36 => ?_) | refine v_if_ne hX 48 qX12_asks_36 rfl (fun q36 => ?_) (fun q36 => ?_)
          · skip
            refine v_iload_n hX rfl qX12_asks_48 ?_
            refine v_iconst hX li_1 qX12_asks_49 ?_
            refine v_icmp_ne hX 61 qX12_asks_50 rfl (fun q50 => ?_) (fun q50 => ?_)
            · skip
              refine v_aload_n hX rfl qX12_asks_61 ?_
              refine v_iload_n hX rfl qX12_asks_62 ?_
              refine v_callVq hX hR k_X12_270 (hm.kd 38 rfl) (m_stamps (by exact hm) (by exact hp) (by exact hm6) (by exact hkd) (by exact hl)) rfl (Nat.le_of_ble_eq_true rfl) rfl (Nat.le_of_ble_eq_true rfl) ⟨Nat.le_of_ble_eq_true rfl, Nat.le_of_ble_eq_true rfl⟩ qX12_asks_63 ?_
              rintro _ _ ⟨rfl, rfl⟩
              refine v_ireturn hX qX12_asks_66 (hP _ _ ?_)
              first | (rw [asksI, if_pos (show (0 ≤ nI l ∧ nI l < nI (sM E)) ∧ isC (nI q) ∧ (0 ≤ w ∧ w ≤ 4) from ⟨q5, isCn hq, q24⟩), tn_nI (show l < 2000000 by omega), tn_nI (show q < 2000000 by omega), if_pos q36, ← hb]; exact ⟨rfl, σ, J, rfl, hc.fr hf, hf.k⟩) | (rw [asksI, if_pos (show (0 ≤ nI l ∧ nI l < nI (sM E)) ∧ isC (nI q) ∧ (0 ≤ w ∧ w ≤ 4) from ⟨q5, isCn hq, q24⟩), tn_nI (show l < 2000000 by omega), tn_nI (show q < 2000000 by omega), if_neg q36, if_pos q50, ← tk_eq (hnu l hl)]; exact ⟨rfl, h.1, h.2.2.1, rfl, hc, fun a _ => rfl⟩) | (rw [asksI, if_pos (show (0 ≤ nI l ∧ nI l < nI (sM E)) ∧ isC (nI q) ∧ (0 ≤ w ∧ w ≤ 4) from ⟨q5, isCn hq, q24⟩), tn_nI (show l < 2000000 by omega), tn_nI (show q < 2000000 by omega), if_neg q36, if_neg q50, if_pos (wq2 q24.1 q32 q36 q50), ← sm_eq (hnu l hl)]; exact ⟨rfl, h.1, h.2.2.1, rfl, hc, fun a _ => rfl⟩)
            · skip
              refine v_aload_n hX rfl qX12_asks_53 ?_
              refine v_iload_n hX rfl qX12_asks_54 ?_
              refine v_callVq hX hR k_X12_267 (hm.kd 38 rfl) (m_takes (by exact hm) (by exact hp) (by exact hm6) (by exact hkd) (by exact hl)) rfl (Nat.le_of_ble_eq_true rfl) rfl (Nat.le_of_ble_eq_true rfl) ⟨Nat.le_of_ble_eq_true rfl, Nat.le_of_ble_eq_true rfl⟩ qX12_asks_55 ?_
              rintro _ _ ⟨rfl, rfl⟩
              refine v_goto hX 66 qX12_asks_58 rfl ?_
              refine v_ireturn hX qX12_asks_66 (hP _ _ ?_)
              first | (rw [asksI, if_pos (show (0 ≤ nI l ∧ nI l < nI (sM E)) ∧ isC (nI q) ∧ (0 ≤ w ∧ w ≤ 4) from ⟨q5, isCn hq, q24⟩), tn_nI (show l < 2000000 by omega), tn_nI (show q < 2000000 by omega), if_pos q36, ← hb]; exact ⟨rfl, σ, J, rfl, hc.fr hf, hf.k⟩) | (rw [asksI, if_pos (show (0 ≤ nI l ∧ nI l < nI (sM E)) ∧ isC (nI q) ∧ (0 ≤ w ∧ w ≤ 4) from ⟨q5, isCn hq, q24⟩), tn_nI (show l < 2000000 by omega), tn_nI (show q < 2000000 by omega), if_neg q36, if_pos q50, ← tk_eq (hnu l hl)]; exact ⟨rfl, h.1, h.2.2.1, rfl, hc, fun a _ => rfl⟩) | (rw [asksI, if_pos (show (0 ≤ nI l ∧ nI l < nI (sM E)) ∧ isC (nI q) ∧ (0 ≤ w ∧ w ≤ 4) from ⟨q5, isCn hq, q24⟩), tn_nI (show l < 2000000 by omega), tn_nI (show q < 2000000 by omega), if_neg q36, if_neg q50, if_pos (wq2 q24.1 q32 q36 q50), ← sm_eq (hnu l hl)]; exact ⟨rfl, h.1, h.2.2.1, rfl, hc, fun a _ => rfl⟩)
          · skip
            refine v_aload_n hX rfl qX12_asks_39 ?_
            refine v_iload_n hX rfl qX12_asks_40 ?_
            refine v_iload_n hX rfl qX12_asks_41 ?_
            refine v_callVq hX hR k_X12_261 (hm.kd 38 rfl) (m_good (by exact hm) (by exact htx) (by exact hc6) (by exact hbe) (by exact hp) (by exact hm6) (by exact hkd) (by exact hl) (by exact hq)) rfl (Nat.le_of_ble_eq_true rfl) rfl (Nat.le_of_ble_eq_true rfl) ⟨Nat.le_of_ble_eq_true rfl, Nat.le_of_ble_eq_true rfl⟩ qX12_asks_42 ?_
            rintro _ _ ⟨rfl, σ, J, rfl, hf⟩
            refine v_goto hX 66 qX12_asks_45 rfl ?_
            refine v_ireturn hX qX12_asks_66 (hP _ _ ?_)
            first | (rw [asksI, if_pos (show (0 ≤ nI l ∧ nI l < nI (sM E)) ∧ isC (nI q) ∧ (0 ≤ w ∧ w ≤ 4) from ⟨q5, isCn hq, q24⟩), tn_nI (show l < 2000000 by omega), tn_nI (show q < 2000000 by omega), if_pos q36, ← hb]; exact ⟨rfl, σ, J, rfl, hc.fr hf, hf.k⟩) | (rw [asksI, if_pos (show (0 ≤ nI l ∧ nI l < nI (sM E)) ∧ isC (nI q) ∧ (0 ≤ w ∧ w ≤ 4) from ⟨q5, isCn hq, q24⟩), tn_nI (show l < 2000000 by omega), tn_nI (show q < 2000000 by omega), if_neg q36, if_pos q50, ← tk_eq (hnu l hl)]; exact ⟨rfl, h.1, h.2.2.1, rfl, hc, fun a _ => rfl⟩) | (rw [asksI, if_pos (show (0 ≤ nI l ∧ nI l < nI (sM E)) ∧ isC (nI q) ∧ (0 ≤ w ∧ w ≤ 4) from ⟨q5, isCn hq, q24⟩), tn_nI (show l < 2000000 by omega), tn_nI (show q < 2000000 by omega), if_neg q36, if_neg q50, if_pos (wq2 q24.1 q32 q36 q50), ← sm_eq (hnu l hl)]; exact ⟨rfl, h.1, h.2.2.1, rfl, hc, fun a _ => rfl⟩)
      · skip
        refine v_bipush hX lb_n2 qX12_asks_27 ?_
        refine v_ireturn hX qX12_asks_29 (hP _ _ ?_)
        first | (rw [asksI, if_neg (fun z => q5 z.1)]; exact ⟨rfl, h.1, h.2.2.1, rfl, hc, fun a _ => rfl⟩) | (rw [asksI, if_neg (fun z => q12 z.2.1)]; exact ⟨rfl, h.1, h.2.2.1, rfl, hc, fun a _ => rfl⟩) | (rw [asksI, if_neg (fun z => q24 z.2.2)]; exact ⟨rfl, h.1, h.2.2.1, rfl, hc, fun a _ => rfl⟩)
