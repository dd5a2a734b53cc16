/-! the reference: sheet, cell, copy, lookers -/
theorem lt0_n1 {x : Int32} (h : x < 0) (h1 : -1 ≤ x) : x = -1 := by
  rw [ltI] at h; rw [leI] at h1; rw [eqI]
  have e0 : (0 : Int32).toInt = 0 := rfl
  have e1 : (-1 : Int32).toInt = -1 := rfl
  omega
theorem ge0_n1 {x : Int32} (h : 0 ≤ x) : ¬ x = -1 := fun z => by rw [z] at h; exact absurd h (by decide)
theorem so_in {so : Int32} (h : 0 ≤ so) (h2 : so ≤ 2) : so = 0 ∨ so = 1 ∨ so = 2 := by
  obtain ⟨j, hj, rfl⟩ := rng_ex 2 (by omega) ⟨h, h2⟩
  have : j = 0 ∨ j = 1 ∨ j = 2 := by omega
  rcases this with rfl | rfl | rfl
  · exact Or.inl rfl
  · exact Or.inr (Or.inl rfl)
  · exact Or.inr (Or.inr rfl)
theorem qX12_sheet_0 : Dq cX12_sheet 0 (.iload_n 1) 1 1 := ⟨by decide +kernel, rfl⟩
theorem qX12_sheet_1 : Dq cX12_sheet 1 (.invokestatic 333) 3 4 := ⟨by decide +kernel, rfl⟩
theorem qX12_sheet_4 : Dq cX12_sheet 4 (.ifCond .eq 27) 3 7 := ⟨by decide +kernel, rfl⟩
theorem qX12_sheet_7 : Dq cX12_sheet 7 (.iload_n 2) 1 8 := ⟨by decide +kernel, rfl⟩
theorem qX12_sheet_8 : Dq cX12_sheet 8 (.i2l) 1 9 := ⟨by decide +kernel, rfl⟩
theorem qX12_sheet_9 : Dq cX12_sheet 9 (.ldc2_w 366) 3 12 := ⟨by decide +kernel, rfl⟩
theorem qX12_sheet_12 : Dq cX12_sheet 12 (.ldc2_w 289) 3 15 := ⟨by decide +kernel, rfl⟩
theorem qX12_sheet_15 : Dq cX12_sheet 15 (.invokestatic 87) 3 18 := ⟨by decide +kernel, rfl⟩
theorem qX12_sheet_18 : Dq cX12_sheet 18 (.ifCond .eq 13) 3 21 := ⟨by decide +kernel, rfl⟩
theorem qX12_sheet_21 : Dq cX12_sheet 21 (.iload_n 2) 1 22 := ⟨by decide +kernel, rfl⟩
theorem qX12_sheet_22 : Dq cX12_sheet 22 (.ifCond .lt 12) 3 25 := ⟨by decide +kernel, rfl⟩
theorem qX12_sheet_25 : Dq cX12_sheet 25 (.iload_n 3) 1 26 := ⟨by decide +kernel, rfl⟩
theorem qX12_sheet_26 : Dq cX12_sheet 26 (.bipush 40) 2 28 := ⟨by decide +kernel, rfl⟩
theorem qX12_sheet_28 : Dq cX12_sheet 28 (.if_icmp .le 6) 3 31 := ⟨by decide +kernel, rfl⟩
theorem qX12_sheet_31 : Dq cX12_sheet 31 (.bipush (-2)) 2 33 := ⟨by decide +kernel, rfl⟩
theorem qX12_sheet_33 : Dq cX12_sheet 33 (.ireturn) 1 34 := ⟨by decide +kernel, rfl⟩
theorem qX12_sheet_34 : Dq cX12_sheet 34 (.iload_n 2) 1 35 := ⟨by decide +kernel, rfl⟩
theorem qX12_sheet_35 : Dq cX12_sheet 35 (.ifCond .lt 10) 3 38 := ⟨by decide +kernel, rfl⟩
theorem qX12_sheet_38 : Dq cX12_sheet 38 (.iload_n 3) 1 39 := ⟨by decide +kernel, rfl⟩
theorem qX12_sheet_39 : Dq cX12_sheet 39 (.ifCond .ge 6) 3 42 := ⟨by decide +kernel, rfl⟩
theorem qX12_sheet_42 : Dq cX12_sheet 42 (.bipush (-14)) 2 44 := ⟨by decide +kernel, rfl⟩
theorem qX12_sheet_44 : Dq cX12_sheet 44 (.ireturn) 1 45 := ⟨by decide +kernel, rfl⟩
theorem qX12_sheet_45 : Dq cX12_sheet 45 (.aload_n 0) 1 46 := ⟨by decide +kernel, rfl⟩
theorem qX12_sheet_46 : Dq cX12_sheet 46 (.getfield 65) 3 49 := ⟨by decide +kernel, rfl⟩
theorem qX12_sheet_49 : Dq cX12_sheet 49 (.iload_n 1) 1 50 := ⟨by decide +kernel, rfl⟩
theorem qX12_sheet_50 : Dq cX12_sheet 50 (.iload_n 2) 1 51 := ⟨by decide +kernel, rfl⟩
theorem qX12_sheet_51 : Dq cX12_sheet 51 (.ifCond .lt 7) 3 54 := ⟨by decide +kernel, rfl⟩
theorem qX12_sheet_54 : Dq cX12_sheet 54 (.iconst 1) 1 55 := ⟨by decide +kernel, rfl⟩
theorem qX12_sheet_55 : Dq cX12_sheet 55 (.goto 4) 3 58 := ⟨by decide +kernel, rfl⟩
theorem qX12_sheet_58 : Dq cX12_sheet 58 (.iconst 0) 1 59 := ⟨by decide +kernel, rfl⟩
theorem qX12_sheet_59 : Dq cX12_sheet 59 (.bastore) 1 60 := ⟨by decide +kernel, rfl⟩
theorem qX12_sheet_60 : Dq cX12_sheet 60 (.aload_n 0) 1 61 := ⟨by decide +kernel, rfl⟩
theorem qX12_sheet_61 : Dq cX12_sheet 61 (.getfield 69) 3 64 := ⟨by decide +kernel, rfl⟩
theorem qX12_sheet_64 : Dq cX12_sheet 64 (.iload_n 1) 1 65 := ⟨by decide +kernel, rfl⟩
theorem qX12_sheet_65 : Dq cX12_sheet 65 (.iload_n 2) 1 66 := ⟨by decide +kernel, rfl⟩
theorem qX12_sheet_66 : Dq cX12_sheet 66 (.iastore) 1 67 := ⟨by decide +kernel, rfl⟩
theorem qX12_sheet_67 : Dq cX12_sheet 67 (.aload_n 0) 1 68 := ⟨by decide +kernel, rfl⟩
theorem qX12_sheet_68 : Dq cX12_sheet 68 (.getfield 72) 3 71 := ⟨by decide +kernel, rfl⟩
theorem qX12_sheet_71 : Dq cX12_sheet 71 (.iload_n 1) 1 72 := ⟨by decide +kernel, rfl⟩
theorem qX12_sheet_72 : Dq cX12_sheet 72 (.iload_n 3) 1 73 := ⟨by decide +kernel, rfl⟩
theorem qX12_sheet_73 : Dq cX12_sheet 73 (.iastore) 1 74 := ⟨by decide +kernel, rfl⟩
theorem qX12_sheet_74 : Dq cX12_sheet 74 (.iconst 0) 1 75 := ⟨by decide +kernel, rfl⟩
theorem qX12_sheet_75 : Dq cX12_sheet 75 (.istore 4) 2 77 := ⟨by decide +kernel, rfl⟩
theorem qX12_sheet_77 : Dq cX12_sheet 77 (.iload 4) 2 79 := ⟨by decide +kernel, rfl⟩
theorem qX12_sheet_79 : Dq cX12_sheet 79 (.iload_n 3) 1 80 := ⟨by decide +kernel, rfl⟩
theorem qX12_sheet_80 : Dq cX12_sheet 80 (.if_icmp .ge 26) 3 83 := ⟨by decide +kernel, rfl⟩
theorem qX12_sheet_83 : Dq cX12_sheet 83 (.iload_n 2) 1 84 := ⟨by decide +kernel, rfl⟩
theorem qX12_sheet_84 : Dq cX12_sheet 84 (.ifCond .lt 22) 3 87 := ⟨by decide +kernel, rfl⟩
theorem qX12_sheet_87 : Dq cX12_sheet 87 (.aload_n 0) 1 88 := ⟨by decide +kernel, rfl⟩
theorem qX12_sheet_88 : Dq cX12_sheet 88 (.getfield 75) 3 91 := ⟨by decide +kernel, rfl⟩
theorem qX12_sheet_91 : Dq cX12_sheet 91 (.bipush 40) 2 93 := ⟨by decide +kernel, rfl⟩
theorem qX12_sheet_93 : Dq cX12_sheet 93 (.iload_n 1) 1 94 := ⟨by decide +kernel, rfl⟩
theorem qX12_sheet_94 : Dq cX12_sheet 94 (.imul) 1 95 := ⟨by decide +kernel, rfl⟩
theorem qX12_sheet_95 : Dq cX12_sheet 95 (.iload 4) 2 97 := ⟨by decide +kernel, rfl⟩
theorem qX12_sheet_97 : Dq cX12_sheet 97 (.iadd) 1 98 := ⟨by decide +kernel, rfl⟩
theorem qX12_sheet_98 : Dq cX12_sheet 98 (.iconst 0) 1 99 := ⟨by decide +kernel, rfl⟩
theorem qX12_sheet_99 : Dq cX12_sheet 99 (.iastore) 1 100 := ⟨by decide +kernel, rfl⟩
theorem qX12_sheet_100 : Dq cX12_sheet 100 (.iinc 4 1) 3 103 := ⟨by decide +kernel, rfl⟩
theorem qX12_sheet_103 : Dq cX12_sheet 103 (.goto (-26)) 3 106 := ⟨by decide +kernel, rfl⟩
theorem qX12_sheet_106 : Dq cX12_sheet 106 (.iconst 1) 1 107 := ⟨by decide +kernel, rfl⟩
theorem qX12_sheet_107 : Dq cX12_sheet 107 (.ireturn) 1 108 := ⟨by decide +kernel, rfl⟩
set_option maxRecDepth 100000 in
set_option maxHeartbeats 4000000 in
theorem m_sheet {G : Glb} {h : AHp} {E : Sst} (hc : MW h E) (s so n : Int32) : CP G m_X12_sheet 3 0 0 [.ref 38, .int s, .int so, .int n] h (fun r h' => r = some (.int (sheetI E s so n).1) ∧ ∃ σ J, h' = mkH h σ J ∧ MW (mkH h σ J) (setS E (sheetI E s so n).2.1 (sheetI E s so n).2.2.1 (sheetI E s so n).2.2.2) ∧ K58 h σ) := by
  suffices key : ∀ P : Option Value → AHp → Prop, (∀ r h', (r = some (.int (sheetI E s so n).1) ∧ ∃ σ J, h' = mkH h σ J ∧ MW (mkH h σ J) (setS E (sheetI E s so n).2.1 (sheetI E s so n).2.2.1 (sheetI E s so n).2.2.2) ∧ K58 h σ) → P r h') → CP G m_X12_sheet 3 0 0 [.ref 38, .int s, .int so, .int n] h P from key _ (fun _ _ z => z)
  intro P hP
  obtain ⟨hm, htx, hp, hb, hkp, htp, hst, hok⟩ := id hc
  have hc6 := hok.1
  have hm6 := hok.2.1
  have hkd : ∀ i, i < sM E → sK E i < 6 := fun i hi => (hok.2.2.1 i hi).1
  have hnu : ∀ i, i < sM E → inR (sN E i) 9 := fun i hi => (hok.2.2.1 i hi).2
  have hbe : BeOK (bm h) (sC E) := by rw [hb]; exact hok.2.2.2.1
  refine CP.of (by decide +kernel) (Nat.le_of_ble_eq_true rfl) fun X hX hR hnm => ?_
  show V X G 5 0 0 _ 0 [some (.ref 38), some (.int s), some (.int so), some (.int n), none] [] h
  refine v_iload_n hX rfl qX12_sheet_0 ?_
  refine v_callSq hX hR k_X12_333 (m_isSheet _) rfl (Nat.le_of_ble_eq_true rfl) rfl (Nat.le_of_ble_eq_true rfl) ⟨Nat.le_of_ble_eq_true rfl, Nat.le_of_ble_eq_true rfl⟩ qX12_sheet_1 ?_
  rintro _ _ ⟨rfl, rfl⟩
  first | refine v_if_eqB hX 31 qX12_sheet_4 rfl (fun q4 => ?_) (fun q4 => ?_) | refine v_if_eq hX 31 qX12_sheet_4 rfl (fun q4 => ?_) (fun q4 => ?_)
  · skip
    refine v_bipush hX lb_n2 qX12_sheet_31 ?_
    refine v_ireturn hX qX12_sheet_33 (hP _ _ ?_)
    first | (rw [sheetI, if_neg (fun z => q4 z.1)]; exact ⟨rfl, h.1, h.2.2.1, rfl, hc, fun a _ => rfl⟩) | (rw [sheetI, if_neg (fun z => q18 z.2)]; exact ⟨rfl, h.1, h.2.2.1, rfl, hc, fun a _ => rfl⟩) | (rw [sheetI, if_pos (show (0 ≤ nI j ∧ nI j ≤ 3) ∧ (-1 ≤ so ∧ so ≤ 2) from ⟨q4, q18⟩), tn_nI (show j < 2000000 by omega), if_neg (ge0_n1 q22), if_pos q28]; exact ⟨rfl, h.1, h.2.2.1, rfl, hc, fun a _ => rfl⟩)
  · obtain ⟨j, hj, rfl⟩ := rng_ex 3 (by omega) q4
    refine v_iload_n hX rfl qX12_sheet_7 ?_
    refine v_i2l hX qX12_sheet_8 ?_
    refine v_ldc2 hX c_X12_366 qX12_sheet_9 ?_
    refine v_ldc2 hX c_X12_289 qX12_sheet_12 ?_
    refine v_callSq hX hR k_X12_87 (m_in _ (by exact (-1)) (by exact (2))) rfl (Nat.le_of_ble_eq_true rfl) rfl (Nat.le_of_ble_eq_true rfl) ⟨Nat.le_of_ble_eq_true rfl, Nat.le_of_ble_eq_true rfl⟩ qX12_sheet_15 ?_
    rintro _ _ ⟨rfl, rfl⟩
    first | refine v_if_eqB hX 31 qX12_sheet_18 rfl (fun q18 => ?_) (fun q18 => ?_) | refine v_if_eq hX 31 qX12_sheet_18 rfl (fun q18 => ?_) (fun q18 => ?_)
    · skip
      refine v_bipush hX lb_n2 qX12_sheet_31 ?_
      refine v_ireturn hX qX12_sheet_33 (hP _ _ ?_)
      first | (rw [sheetI, if_neg (fun z => q4 z.1)]; exact ⟨rfl, h.1, h.2.2.1, rfl, hc, fun a _ => rfl⟩) | (rw [sheetI, if_neg (fun z => q18 z.2)]; exact ⟨rfl, h.1, h.2.2.1, rfl, hc, fun a _ => rfl⟩) | (rw [sheetI, if_pos (show (0 ≤ nI j ∧ nI j ≤ 3) ∧ (-1 ≤ so ∧ so ≤ 2) from ⟨q4, q18⟩), tn_nI (show j < 2000000 by omega), if_neg (ge0_n1 q22), if_pos q28]; exact ⟨rfl, h.1, h.2.2.1, rfl, hc, fun a _ => rfl⟩)
    · skip
      refine v_iload_n hX rfl qX12_sheet_21 ?_
      refine v_if_ltS hX 34 qX12_sheet_22 rfl (fun q22 => ?_) (fun q22 => ?_)
      · skip
        refine v_iload_n hX rfl qX12_sheet_34 ?_
        refine v_if_ltS hX 45 qX12_sheet_35 rfl (fun q35 => ?_) (fun q35 => ?_)
        · skip
          refine v_aload_n hX rfl qX12_sheet_45 ?_
          refine v_getR hX g_X12_65 (hm.kd 38 rfl) (hm.rf 15 rfl) qX12_sheet_46 ?_
          refine v_iload_n hX rfl qX12_sheet_49 ?_
          refine v_iload_n hX rfl qX12_sheet_50 ?_
          refine v_if_ltS hX 58 qX12_sheet_51 rfl (fun q51 => ?_) (fun q51 => ?_)
          · have eso := lt0_n1 q51 q18.1
            refine v_iconst hX li_0 qX12_sheet_58 ?_
            refine v_zastJ hX (by first | exact nz_0.1 | exact nz_1.1 | exact (nz_b _).1) (hm.kd 54 rfl) (hm.ln 54 rfl) (by exact ix_n (n := j) (by omega) rfl) qX12_sheet_59 ?_
            refine v_aload_n hX rfl qX12_sheet_60 ?_
            refine v_getR hX g_X12_69 (hm.kd 38 rfl) (hm.rf 16 rfl) qX12_sheet_61 ?_
            refine v_iload_n hX rfl qX12_sheet_64 ?_
            refine v_iload_n hX rfl qX12_sheet_65 ?_
            refine v_iastJ hX (hm.kd 55 rfl) (hm.ln 55 rfl) (by exact ix_n (n := j) (by omega) rfl) qX12_sheet_66 ?_
            refine v_aload_n hX rfl qX12_sheet_67 ?_
            refine v_getR hX g_X12_72 (hm.kd 38 rfl) (hm.rf 17 rfl) qX12_sheet_68 ?_
            refine v_iload_n hX rfl qX12_sheet_71 ?_
            refine v_iload_n hX rfl qX12_sheet_72 ?_
            refine v_iastJ hX (hm.kd 56 rfl) (hm.ln 56 rfl) (by exact ix_n (n := j) (by omega) rfl) qX12_sheet_73 ?_
            refine v_iconst hX li_0 qX12_sheet_74 ?_
            refine v_istore hX (Nat.le_of_ble_eq_true rfl) rfl (ls' := [some _, some _, some _, some _, some _]) rfl qX12_sheet_75 ?_
            refine v_iload hX rfl qX12_sheet_77 ?_
            refine v_iload_n hX rfl qX12_sheet_79 ?_
            refine v_icmp_geS hX 106 qX12_sheet_80 rfl (fun q80 => ?_) (fun q80 => ?_)
            · skip
              refine v_iconst hX li_1 qX12_sheet_106 ?_
              refine v_ireturn hX qX12_sheet_107 (hP _ _ ?_)
              rw [sheetI, if_pos (show (0 ≤ nI j ∧ nI j ≤ 3) ∧ (-1 ≤ so ∧ so ≤ 2) from ⟨q4, q18⟩), tn_nI (show j < 2000000 by omega), if_pos eso]
              refine ⟨rfl, (stI (stI (stI h 54 j 0) 55 j so) 56 j n).1, h.2.2.1, rfl, hc.sht (fun a k a1 => ?_) (fun i hi => ?_) (fun i hi => ?_), fun a ha => funext fun k => ?_⟩
              · show hpI (stI (stI (stI h 54 j 0) 55 j so) 56 j n) _ _ = _; rw [hpI_st, if_neg (by omega), hpI_st, if_neg (by omega), hpI_st, if_neg (by omega)]
              · show hpI (stI (stI (stI h 54 j 0) 55 j so) 56 j n) 54 i = bz (¬ (if i = j then (-1 : Int32) else sS E i) = -1) ∧ _
                by_cases e : i = j
                · rw [if_pos e, bz_f (fun z => z rfl)]
                  exact ⟨by rw [hpI_st, if_neg (by omega), hpI_st, if_neg (by omega), hpI_st, if_pos ⟨rfl, e⟩], fun z => absurd (show (if i = j then (-1 : Int32) else sS E i) = -1 from if_pos e) z⟩
                · obtain ⟨g1, g2⟩ := hst i hi
                  rw [if_neg e]
                  refine ⟨by rw [hpI_st, if_neg (by omega), hpI_st, if_neg (by omega), hpI_st, if_neg (by omega)]; exact g1, fun z => ?_⟩
                  have z2 : ¬ sS E i = -1 := fun y => z ((show (if i = j then (-1 : Int32) else sS E i) = -1 from (if_neg e).trans y))
                  obtain ⟨g3, g4, g5⟩ := g2 z2
                  refine ⟨?_, ?_, fun k hk => ?_⟩
                  · show hpI (stI (stI (stI h 54 j 0) 55 j so) 56 j n) 55 i = if i = j then (-1 : Int32) else sS E i
                    rw [if_neg e, hpI_st, if_neg (by omega), hpI_st, if_neg (by omega), hpI_st, if_neg (by omega)]; exact g3
                  · show hpI (stI (stI (stI h 54 j 0) 55 j so) 56 j n) 56 i = nI (if i = j then 0 else sL E i)
                    rw [if_neg e, hpI_st, if_neg (by omega), hpI_st, if_neg (by omega), hpI_st, if_neg (by omega)]; exact g4
                  · show hpI (stI (stI (stI h 54 j 0) 55 j so) 56 j n) 57 (40 * i + k) = sI' E i k
                    have hk : k < if i = j then 0 else sL E i := hk
                    rw [if_neg e] at hk
                    rw [hpI_st, if_neg (by omega), hpI_st, if_neg (by omega), hpI_st, if_neg (by omega)]; exact g5 k hk
              · show (if i = j then 0 else sL E i) ≤ 40 ∧ ((if i = j then (-1 : Int32) else sS E i) = -1 ∨ (if i = j then (-1 : Int32) else sS E i) = 0 ∨ (if i = j then (-1 : Int32) else sS E i) = 1 ∨ (if i = j then (-1 : Int32) else sS E i) = 2)
                by_cases e : i = j
                · rw [if_pos e, if_pos e]; exact ⟨by omega, Or.inl rfl⟩
                · rw [if_neg e, if_neg e]; exact hok.2.2.2.2.2.2.2 i hi
              · show hpI (stI (stI (stI h 54 j 0) 55 j so) 56 j n) _ _ = _; rw [hpI_st, if_neg (by omega), hpI_st, if_neg (by omega), hpI_st, if_neg (by omega)]
            · skip
              refine v_iload_n hX rfl qX12_sheet_83 ?_
              refine v_if_ltS hX 106 qX12_sheet_84 rfl (fun q84 => ?_) (fun q84 => ?_)
              · skip
                refine v_iconst hX li_1 qX12_sheet_106 ?_
                refine v_ireturn hX qX12_sheet_107 (hP _ _ ?_)
                rw [sheetI, if_pos (show (0 ≤ nI j ∧ nI j ≤ 3) ∧ (-1 ≤ so ∧ so ≤ 2) from ⟨q4, q18⟩), tn_nI (show j < 2000000 by omega), if_pos eso]
                refine ⟨rfl, (stI (stI (stI h 54 j 0) 55 j so) 56 j n).1, h.2.2.1, rfl, hc.sht (fun a k a1 => ?_) (fun i hi => ?_) (fun i hi => ?_), fun a ha => funext fun k => ?_⟩
                · show hpI (stI (stI (stI h 54 j 0) 55 j so) 56 j n) _ _ = _; rw [hpI_st, if_neg (by omega), hpI_st, if_neg (by omega), hpI_st, if_neg (by omega)]
                · show hpI (stI (stI (stI h 54 j 0) 55 j so) 56 j n) 54 i = bz (¬ (if i = j then (-1 : Int32) else sS E i) = -1) ∧ _
                  by_cases e : i = j
                  · rw [if_pos e, bz_f (fun z => z rfl)]
                    exact ⟨by rw [hpI_st, if_neg (by omega), hpI_st, if_neg (by omega), hpI_st, if_pos ⟨rfl, e⟩], fun z => absurd (show (if i = j then (-1 : Int32) else sS E i) = -1 from if_pos e) z⟩
                  · obtain ⟨g1, g2⟩ := hst i hi
                    rw [if_neg e]
                    refine ⟨by rw [hpI_st, if_neg (by omega), hpI_st, if_neg (by omega), hpI_st, if_neg (by omega)]; exact g1, fun z => ?_⟩
                    have z2 : ¬ sS E i = -1 := fun y => z ((show (if i = j then (-1 : Int32) else sS E i) = -1 from (if_neg e).trans y))
                    obtain ⟨g3, g4, g5⟩ := g2 z2
                    refine ⟨?_, ?_, fun k hk => ?_⟩
                    · show hpI (stI (stI (stI h 54 j 0) 55 j so) 56 j n) 55 i = if i = j then (-1 : Int32) else sS E i
                      rw [if_neg e, hpI_st, if_neg (by omega), hpI_st, if_neg (by omega), hpI_st, if_neg (by omega)]; exact g3
                    · show hpI (stI (stI (stI h 54 j 0) 55 j so) 56 j n) 56 i = nI (if i = j then 0 else sL E i)
                      rw [if_neg e, hpI_st, if_neg (by omega), hpI_st, if_neg (by omega), hpI_st, if_neg (by omega)]; exact g4
                    · show hpI (stI (stI (stI h 54 j 0) 55 j so) 56 j n) 57 (40 * i + k) = sI' E i k
                      have hk : k < if i = j then 0 else sL E i := hk
                      rw [if_neg e] at hk
                      rw [hpI_st, if_neg (by omega), hpI_st, if_neg (by omega), hpI_st, if_neg (by omega)]; exact g5 k hk
                · show (if i = j then 0 else sL E i) ≤ 40 ∧ ((if i = j then (-1 : Int32) else sS E i) = -1 ∨ (if i = j then (-1 : Int32) else sS E i) = 0 ∨ (if i = j then (-1 : Int32) else sS E i) = 1 ∨ (if i = j then (-1 : Int32) else sS E i) = 2)
                  by_cases e : i = j
                  · rw [if_pos e, if_pos e]; exact ⟨by omega, Or.inl rfl⟩
                  · rw [if_neg e, if_neg e]; exact hok.2.2.2.2.2.2.2 i hi
                · show hpI (stI (stI (stI h 54 j 0) 55 j so) 56 j n) _ _ = _; rw [hpI_st, if_neg (by omega), hpI_st, if_neg (by omega), hpI_st, if_neg (by omega)]
              · exact absurd q51 (Int32.not_lt.mpr q84)
          · exact absurd q22 (Int32.not_lt.mpr q51)
        · exact absurd q22 (Int32.not_lt.mpr q35)
      · skip
        refine v_iload_n hX rfl qX12_sheet_25 ?_
        refine v_bipush hX lb_40 qX12_sheet_26 ?_
        refine v_icmp_leS hX 34 qX12_sheet_28 rfl (fun q28 => ?_) (fun q28 => ?_)
        · skip
          refine v_iload_n hX rfl qX12_sheet_34 ?_
          refine v_if_ltS hX 45 qX12_sheet_35 rfl (fun q35 => ?_) (fun q35 => ?_)
          · exact absurd q35 (Int32.not_lt.mpr q22)
          · skip
            refine v_iload_n hX rfl qX12_sheet_38 ?_
            refine v_if_geS hX 45 qX12_sheet_39 rfl (fun q39 => ?_) (fun q39 => ?_)
            · skip
              refine v_aload_n hX rfl qX12_sheet_45 ?_
              refine v_getR hX g_X12_65 (hm.kd 38 rfl) (hm.rf 15 rfl) qX12_sheet_46 ?_
              refine v_iload_n hX rfl qX12_sheet_49 ?_
              refine v_iload_n hX rfl qX12_sheet_50 ?_
              refine v_if_ltS hX 58 qX12_sheet_51 rfl (fun q51 => ?_) (fun q51 => ?_)
              · exact absurd q51 (Int32.not_lt.mpr q22)
              · obtain ⟨nn, hnn, rfl⟩ := rng_ex 40 (by omega) ⟨q39, q28⟩
                refine v_iconst hX li_1 qX12_sheet_54 ?_
                refine v_goto hX 59 qX12_sheet_55 rfl ?_
                refine v_zastJ hX (by first | exact nz_0.1 | exact nz_1.1 | exact (nz_b _).1) (hm.kd 54 rfl) (hm.ln 54 rfl) (by exact ix_n (n := j) (by omega) rfl) qX12_sheet_59 ?_
                refine v_aload_n hX rfl qX12_sheet_60 ?_
                refine v_getR hX g_X12_69 (hm.kd 38 rfl) (hm.rf 16 rfl) qX12_sheet_61 ?_
                refine v_iload_n hX rfl qX12_sheet_64 ?_
                refine v_iload_n hX rfl qX12_sheet_65 ?_
                refine v_iastJ hX (hm.kd 55 rfl) (hm.ln 55 rfl) (by exact ix_n (n := j) (by omega) rfl) qX12_sheet_66 ?_
                refine v_aload_n hX rfl qX12_sheet_67 ?_
                refine v_getR hX g_X12_72 (hm.kd 38 rfl) (hm.rf 17 rfl) qX12_sheet_68 ?_
                refine v_iload_n hX rfl qX12_sheet_71 ?_
                refine v_iload_n hX rfl qX12_sheet_72 ?_
                refine v_iastJ hX (hm.kd 56 rfl) (hm.ln 56 rfl) (by exact ix_n (n := j) (by omega) rfl) qX12_sheet_73 ?_
                refine v_iconst hX li_0 qX12_sheet_74 ?_
                refine v_istore hX (Nat.le_of_ble_eq_true rfl) rfl (ls' := [some _, some _, some _, some _, some _]) rfl qX12_sheet_75 ?_
                have L77 : ∀ (mz : Nat) (i : Nat) (σ : Nat → Nat → Int32), nn - i = mz → (i ≤ nn) → (∀ a k, ¬ (a = 57 ∧ 40 * j ≤ k ∧ k < 40 * j + 40) → σ a k = hpI (stI (stI (stI h 54 j 1) 55 j so) 56 j (nI nn)) a k) → (∀ k, k < i → σ 57 (40 * j + k) = 0) → V X G 5 0 0 (QM X G P 0 0) 77 [some (.ref 38), some (.int (nI j)), some (.int so), some (.int (nI nn)), some (.int (nI i))] [] (mkH h σ h.2.2.1) := by
                  intro mz
                  induction mz using Nat.strongRecOn with
                  | _ mz ih =>
                  intro i σ hmz hi hf h0
                  refine v_iload hX rfl qX12_sheet_77 ?_
                  refine v_iload_n hX rfl qX12_sheet_79 ?_
                  refine v_icmp_geS hX 106 qX12_sheet_80 rfl (fun q80 => ?_) (fun q80 => ?_)
                  · have e1 : i = nn := Nat.le_antisymm hi (nI_le' (by omega) (by omega) q80)
                    refine v_iconst hX li_1 qX12_sheet_106 ?_
                    refine v_ireturn hX qX12_sheet_107 (hP _ _ ?_)
                    rw [sheetI, if_pos (show (0 ≤ nI j ∧ nI j ≤ 3) ∧ (-1 ≤ so ∧ so ≤ 2) from ⟨q4, q18⟩), tn_nI (show j < 2000000 by omega), if_neg (ge0_n1 q51), if_neg (Int32.not_lt.mpr q28), if_neg (Int32.not_lt.mpr q39)]
                    refine ⟨rfl, σ, h.2.2.1, rfl, hc.sht (fun a k a1 => ?_) (fun i hi => ?_) (fun i hi => ?_), fun a ha => funext fun k => ?_⟩
                    · rw [hf a k (by omega)]; show hpI (stI (stI (stI h 54 j 1) 55 j so) 56 j (nI nn)) _ _ = _; rw [hpI_st, if_neg (by omega), hpI_st, if_neg (by omega), hpI_st, if_neg (by omega)]
                    · show σ 54 i = bz (¬ (if i = j then so else sS E i) = -1) ∧ _
                      by_cases e : i = j
                      · rw [if_pos e, bz_t (ge0_n1 q51)]
                        refine ⟨by rw [hf 54 i (by omega), hpI_st, if_neg (by omega), hpI_st, if_neg (by omega), hpI_st, if_pos ⟨rfl, e⟩], fun _ => ⟨?_, ?_, fun k hk => ?_⟩⟩
                        · show σ 55 i = if i = j then so else sS E i
                          rw [if_pos e, hf 55 i (by omega), hpI_st, if_neg (by omega), hpI_st, if_pos ⟨rfl, e⟩]
                        · show σ 56 i = nI (if i = j then tn (nI nn) else sL E i)
                          rw [if_pos e, hf 56 i (by omega), hpI_st, if_pos ⟨rfl, e⟩, tn_nI (by omega)]
                        · show σ 57 (40 * i + k) = if i = j then 0 else sI' E i k
                          have hk : k < if i = j then tn (nI nn) else sL E i := hk
                          rw [if_pos e, tn_nI (by omega)] at hk
                          rw [if_pos e, e]
                          exact h0 k (by omega)
                      · obtain ⟨g1, g2⟩ := hst i hi
                        rw [if_neg e]
                        refine ⟨by rw [hf 54 i (by omega), hpI_st, if_neg (by omega), hpI_st, if_neg (by omega), hpI_st, if_neg (by omega)]; exact g1, fun z => ?_⟩
                        have z2 : ¬ sS E i = -1 := fun y => z ((show (if i = j then so else sS E i) = -1 from (if_neg e).trans y))
                        obtain ⟨g3, g4, g5⟩ := g2 z2
                        refine ⟨?_, ?_, fun k hk => ?_⟩
                        · show σ 55 i = if i = j then so else sS E i
                          rw [if_neg e, hf 55 i (by omega), hpI_st, if_neg (by omega), hpI_st, if_neg (by omega), hpI_st, if_neg (by omega)]; exact g3
                        · show σ 56 i = nI (if i = j then tn (nI nn) else sL E i)
                          rw [if_neg e, hf 56 i (by omega), hpI_st, if_neg (by omega), hpI_st, if_neg (by omega), hpI_st, if_neg (by omega)]; exact g4
                        · show σ 57 (40 * i + k) = if i = j then 0 else sI' E i k
                          have hk : k < if i = j then tn (nI nn) else sL E i := hk
                          rw [if_neg e] at hk
                          have h40 := (hok.2.2.2.2.2.2.2 i hi).1
                          rw [if_neg e, hf 57 _ (by omega), hpI_st, if_neg (by omega), hpI_st, if_neg (by omega), hpI_st, if_neg (by omega)]; exact g5 k hk
                    · show (if i = j then tn (nI nn) else sL E i) ≤ 40 ∧ ((if i = j then so else sS E i) = -1 ∨ (if i = j then so else sS E i) = 0 ∨ (if i = j then so else sS E i) = 1 ∨ (if i = j then so else sS E i) = 2)
                      by_cases e : i = j
                      · rw [if_pos e, if_pos e, tn_nI (by omega)]; exact ⟨by omega, Or.inr (so_in q51 q18.2)⟩
                      · rw [if_neg e, if_neg e]; exact hok.2.2.2.2.2.2.2 i hi
                    · rw [hf a k (by omega)]; show hpI (stI (stI (stI h 54 j 1) 55 j so) 56 j (nI nn)) _ _ = _; rw [hpI_st, if_neg (by omega), hpI_st, if_neg (by omega), hpI_st, if_neg (by omega)]
                  · have hl := nI_lt' (by omega) (by omega) q80
                    refine v_iload_n hX rfl qX12_sheet_83 ?_
                    refine v_if_ltS hX 106 qX12_sheet_84 rfl (fun q84 => ?_) (fun q84 => ?_)
                    · exact absurd q84 (Int32.not_lt.mpr q51)
                    · skip
                      refine v_aload_n hX rfl qX12_sheet_87 ?_
                      refine v_getR hX g_X12_75 (hm.kd 38 rfl) (hm.rf 18 rfl) qX12_sheet_88 ?_
                      refine v_bipush hX lb_40 qX12_sheet_91 ?_
                      refine v_iload_n hX rfl qX12_sheet_93 ?_
                      refine v_imul hX qX12_sheet_94 ?_
                      refine v_iload hX rfl qX12_sheet_95 ?_
                      refine v_iadd hX qX12_sheet_97 ?_
                      refine v_eqI (show _ = nI (40 * j + i) by rw [show (40 : Int32) = nI 40 from rfl, pk_mul, nI_add]) ?_
                      refine v_iconst hX li_0 qX12_sheet_98 ?_
                      refine v_iastJ hX (hm.kd 57 rfl) (hm.ln 57 rfl) (by exact ix_n (n := 40 * j + i) (by omega) rfl) qX12_sheet_99 ?_
                      refine v_iinc hX rfl (by first | exact ii_nI _ | exact ii_1 _) (Nat.le_of_ble_eq_true rfl) rfl (ls' := [some _, some _, some _, some _, some _]) rfl qX12_sheet_100 ?_
                      refine v_goto hX 77 qX12_sheet_103 rfl ?_
                      exact ih _ (by omega) (i + 1) (stI (mkH h σ h.2.2.1) 57 (40 * j + i) 0).1 rfl (by omega) (fun a k a1 => by show hpI (stI _ _ _ _) _ _ = _; rw [hpI_st, if_neg (by omega)]; exact hf a k a1) (fun k hk => by
                        show hpI (stI _ _ _ _) _ _ = _
                        rw [hpI_st]
                        by_cases e : k = i
                        · rw [if_pos ⟨rfl, by omega⟩]
                        · rw [if_neg (by omega)]; exact h0 k (by omega))
                exact L77 _ 0 (stI (stI (stI h 54 j 1) 55 j so) 56 j (nI nn)).1 rfl (by omega) (fun a k _ => rfl) (fun k hk => absurd hk (by omega))
            · skip
              refine v_bipush hX lb_n14 qX12_sheet_42 ?_
              refine v_ireturn hX qX12_sheet_44 (hP _ _ ?_)
              rw [sheetI, if_pos (show (0 ≤ nI j ∧ nI j ≤ 3) ∧ (-1 ≤ so ∧ so ≤ 2) from ⟨q4, q18⟩), tn_nI (show j < 2000000 by omega), if_neg (ge0_n1 q35), if_neg (Int32.not_lt.mpr q28), if_pos q39]
              exact ⟨rfl, h.1, h.2.2.1, rfl, hc, fun a _ => rfl⟩
        · skip
          refine v_bipush hX lb_n2 qX12_sheet_31 ?_
          refine v_ireturn hX qX12_sheet_33 (hP _ _ ?_)
          first | (rw [sheetI, if_neg (fun z => q4 z.1)]; exact ⟨rfl, h.1, h.2.2.1, rfl, hc, fun a _ => rfl⟩) | (rw [sheetI, if_neg (fun z => q18 z.2)]; exact ⟨rfl, h.1, h.2.2.1, rfl, hc, fun a _ => rfl⟩) | (rw [sheetI, if_pos (show (0 ≤ nI j ∧ nI j ≤ 3) ∧ (-1 ≤ so ∧ so ≤ 2) from ⟨q4, q18⟩), tn_nI (show j < 2000000 by omega), if_neg (ge0_n1 q22), if_pos q28]; exact ⟨rfl, h.1, h.2.2.1, rfl, hc, fun a _ => rfl⟩)
theorem qX12_cell_0 : Dq cX12_cell 0 (.iload_n 1) 1 1 := ⟨by decide +kernel, rfl⟩
theorem qX12_cell_1 : Dq cX12_cell 1 (.invokestatic 333) 3 4 := ⟨by decide +kernel, rfl⟩
theorem qX12_cell_4 : Dq cX12_cell 4 (.ifCond .ne 6) 3 7 := ⟨by decide +kernel, rfl⟩
theorem qX12_cell_7 : Dq cX12_cell 7 (.bipush (-2)) 2 9 := ⟨by decide +kernel, rfl⟩
theorem qX12_cell_9 : Dq cX12_cell 9 (.ireturn) 1 10 := ⟨by decide +kernel, rfl⟩
theorem qX12_cell_10 : Dq cX12_cell 10 (.aload_n 0) 1 11 := ⟨by decide +kernel, rfl⟩
theorem qX12_cell_11 : Dq cX12_cell 11 (.getfield 65) 3 14 := ⟨by decide +kernel, rfl⟩
theorem qX12_cell_14 : Dq cX12_cell 14 (.iload_n 1) 1 15 := ⟨by decide +kernel, rfl⟩
theorem qX12_cell_15 : Dq cX12_cell 15 (.baload) 1 16 := ⟨by decide +kernel, rfl⟩
theorem qX12_cell_16 : Dq cX12_cell 16 (.ifCond .ne 6) 3 19 := ⟨by decide +kernel, rfl⟩
theorem qX12_cell_19 : Dq cX12_cell 19 (.bipush (-11)) 2 21 := ⟨by decide +kernel, rfl⟩
theorem qX12_cell_21 : Dq cX12_cell 21 (.ireturn) 1 22 := ⟨by decide +kernel, rfl⟩
theorem qX12_cell_22 : Dq cX12_cell 22 (.iload_n 2) 1 23 := ⟨by decide +kernel, rfl⟩
theorem qX12_cell_23 : Dq cX12_cell 23 (.i2l) 1 24 := ⟨by decide +kernel, rfl⟩
theorem qX12_cell_24 : Dq cX12_cell 24 (.lconst 0) 1 25 := ⟨by decide +kernel, rfl⟩
theorem qX12_cell_25 : Dq cX12_cell 25 (.aload_n 0) 1 26 := ⟨by decide +kernel, rfl⟩
theorem qX12_cell_26 : Dq cX12_cell 26 (.getfield 72) 3 29 := ⟨by decide +kernel, rfl⟩
theorem qX12_cell_29 : Dq cX12_cell 29 (.iload_n 1) 1 30 := ⟨by decide +kernel, rfl⟩
theorem qX12_cell_30 : Dq cX12_cell 30 (.iaload) 1 31 := ⟨by decide +kernel, rfl⟩
theorem qX12_cell_31 : Dq cX12_cell 31 (.iconst 1) 1 32 := ⟨by decide +kernel, rfl⟩
theorem qX12_cell_32 : Dq cX12_cell 32 (.isub) 1 33 := ⟨by decide +kernel, rfl⟩
theorem qX12_cell_33 : Dq cX12_cell 33 (.i2l) 1 34 := ⟨by decide +kernel, rfl⟩
theorem qX12_cell_34 : Dq cX12_cell 34 (.invokestatic 87) 3 37 := ⟨by decide +kernel, rfl⟩
theorem qX12_cell_37 : Dq cX12_cell 37 (.ifCond .ne 6) 3 40 := ⟨by decide +kernel, rfl⟩
theorem qX12_cell_40 : Dq cX12_cell 40 (.bipush (-12)) 2 42 := ⟨by decide +kernel, rfl⟩
theorem qX12_cell_42 : Dq cX12_cell 42 (.ireturn) 1 43 := ⟨by decide +kernel, rfl⟩
theorem qX12_cell_43 : Dq cX12_cell 43 (.aload_n 0) 1 44 := ⟨by decide +kernel, rfl⟩
theorem qX12_cell_44 : Dq cX12_cell 44 (.getfield 75) 3 47 := ⟨by decide +kernel, rfl⟩
theorem qX12_cell_47 : Dq cX12_cell 47 (.bipush 40) 2 49 := ⟨by decide +kernel, rfl⟩
theorem qX12_cell_49 : Dq cX12_cell 49 (.iload_n 1) 1 50 := ⟨by decide +kernel, rfl⟩
theorem qX12_cell_50 : Dq cX12_cell 50 (.imul) 1 51 := ⟨by decide +kernel, rfl⟩
theorem qX12_cell_51 : Dq cX12_cell 51 (.iload_n 2) 1 52 := ⟨by decide +kernel, rfl⟩
theorem qX12_cell_52 : Dq cX12_cell 52 (.iadd) 1 53 := ⟨by decide +kernel, rfl⟩
theorem qX12_cell_53 : Dq cX12_cell 53 (.aload_n 0) 1 54 := ⟨by decide +kernel, rfl⟩
theorem qX12_cell_54 : Dq cX12_cell 54 (.getfield 69) 3 57 := ⟨by decide +kernel, rfl⟩
theorem qX12_cell_57 : Dq cX12_cell 57 (.iload_n 1) 1 58 := ⟨by decide +kernel, rfl⟩
theorem qX12_cell_58 : Dq cX12_cell 58 (.iaload) 1 59 := ⟨by decide +kernel, rfl⟩
theorem qX12_cell_59 : Dq cX12_cell 59 (.ifCond .ne 8) 3 62 := ⟨by decide +kernel, rfl⟩
theorem qX12_cell_62 : Dq cX12_cell 62 (.iload_n 3) 1 63 := ⟨by decide +kernel, rfl⟩
theorem qX12_cell_63 : Dq cX12_cell 63 (.i2b) 1 64 := ⟨by decide +kernel, rfl⟩
theorem qX12_cell_64 : Dq cX12_cell 64 (.goto 19) 3 67 := ⟨by decide +kernel, rfl⟩
theorem qX12_cell_67 : Dq cX12_cell 67 (.aload_n 0) 1 68 := ⟨by decide +kernel, rfl⟩
theorem qX12_cell_68 : Dq cX12_cell 68 (.getfield 69) 3 71 := ⟨by decide +kernel, rfl⟩
theorem qX12_cell_71 : Dq cX12_cell 71 (.iload_n 1) 1 72 := ⟨by decide +kernel, rfl⟩
theorem qX12_cell_72 : Dq cX12_cell 72 (.iaload) 1 73 := ⟨by decide +kernel, rfl⟩
theorem qX12_cell_73 : Dq cX12_cell 73 (.iconst 1) 1 74 := ⟨by decide +kernel, rfl⟩
theorem qX12_cell_74 : Dq cX12_cell 74 (.if_icmp .ne 8) 3 77 := ⟨by decide +kernel, rfl⟩
theorem qX12_cell_77 : Dq cX12_cell 77 (.iload_n 3) 1 78 := ⟨by decide +kernel, rfl⟩
theorem qX12_cell_78 : Dq cX12_cell 78 (.i2s) 1 79 := ⟨by decide +kernel, rfl⟩
theorem qX12_cell_79 : Dq cX12_cell 79 (.goto 4) 3 82 := ⟨by decide +kernel, rfl⟩
theorem qX12_cell_82 : Dq cX12_cell 82 (.iload_n 3) 1 83 := ⟨by decide +kernel, rfl⟩
theorem qX12_cell_83 : Dq cX12_cell 83 (.iastore) 1 84 := ⟨by decide +kernel, rfl⟩
theorem qX12_cell_84 : Dq cX12_cell 84 (.iconst 1) 1 85 := ⟨by decide +kernel, rfl⟩
theorem qX12_cell_85 : Dq cX12_cell 85 (.ireturn) 1 86 := ⟨by decide +kernel, rfl⟩
set_option maxRecDepth 100000 in
set_option maxHeartbeats 4000000 in
theorem m_cell {G : Glb} {h : AHp} {E : Sst} (hc : MW h E) (s i v : Int32) : CP G m_X12_cell 3 0 0 [.ref 38, .int s, .int i, .int v] h (fun r h' => r = some (.int (cellI E s i v).1) ∧ ∃ σ J, h' = mkH h σ J ∧ MW (mkH h σ J) (setS E (sS E) (sL E) (cellI E s i v).2) ∧ K58 h σ) := by
  suffices key : ∀ P : Option Value → AHp → Prop, (∀ r h', (r = some (.int (cellI E s i v).1) ∧ ∃ σ J, h' = mkH h σ J ∧ MW (mkH h σ J) (setS E (sS E) (sL E) (cellI E s i v).2) ∧ K58 h σ) → P r h') → CP G m_X12_cell 3 0 0 [.ref 38, .int s, .int i, .int v] h P from key _ (fun _ _ z => z)
  intro P hP
  obtain ⟨hm, htx, hp, hb, hkp, htp, hst, hok⟩ := id hc
  have hc6 := hok.1
  have hm6 := hok.2.1
  have hkd : ∀ i, i < sM E → sK E i < 6 := fun i hi => (hok.2.2.1 i hi).1
  have hnu : ∀ i, i < sM E → inR (sN E i) 9 := fun i hi => (hok.2.2.1 i hi).2
  have hbe : BeOK (bm h) (sC E) := by rw [hb]; exact hok.2.2.2.1
  refine CP.of (by decide +kernel) (Nat.le_of_ble_eq_true rfl) fun X hX hR hnm => ?_
  show V X G 4 0 0 _ 0 [some (.ref 38), some (.int s), some (.int i), some (.int v)] [] h
  refine v_iload_n hX rfl qX12_cell_0 ?_
  refine v_callSq hX hR k_X12_333 (m_isSheet _) rfl (Nat.le_of_ble_eq_true rfl) rfl (Nat.le_of_ble_eq_true rfl) ⟨Nat.le_of_ble_eq_true rfl, Nat.le_of_ble_eq_true rfl⟩ qX12_cell_1 ?_
  rintro _ _ ⟨rfl, rfl⟩
  first | refine v_if_neB hX 10 qX12_cell_4 rfl (fun q4 => ?_) (fun q4 => ?_) | refine v_if_ne hX 10 qX12_cell_4 rfl (fun q4 => ?_) (fun q4 => ?_)
  · skip
    obtain ⟨j, hj, rfl⟩ := rng_ex 3 (by omega) q4
    refine v_aload_n hX rfl qX12_cell_10 ?_
    refine v_getR hX g_X12_65 (hm.kd 38 rfl) (hm.rf 15 rfl) qX12_cell_11 ?_
    refine v_iload_n hX rfl qX12_cell_14 ?_
    refine v_zaldV hX (hm.kd 54 rfl) (hm.ln 54 rfl) (by exact ix_n (n := j) (by omega) rfl) (hst j (by omega)).1 qX12_cell_15 ?_
    first | refine v_if_neB hX 22 qX12_cell_16 rfl (fun q16 => ?_) (fun q16 => ?_) | refine v_if_ne hX 22 qX12_cell_16 rfl (fun q16 => ?_) (fun q16 => ?_)
    · skip
      obtain ⟨s1, s2, s3⟩ := (hst j (by omega)).2 q16
      obtain ⟨sl40, -⟩ := hok.2.2.2.2.2.2.2 j (by omega)
      refine v_iload_n hX rfl qX12_cell_22 ?_
      refine v_i2l hX qX12_cell_23 ?_
      refine v_lconst hX ll_0 qX12_cell_24 ?_
      refine v_aload_n hX rfl qX12_cell_25 ?_
      refine v_getR hX g_X12_72 (hm.kd 38 rfl) (hm.rf 17 rfl) qX12_cell_26 ?_
      refine v_iload_n hX rfl qX12_cell_29 ?_
      refine v_ialdV hX (hm.kd 56 rfl) (hm.ln 56 rfl) (by exact ix_n (n := j) (by omega) rfl) s2 qX12_cell_30 ?_
      refine v_iconst hX li_1 qX12_cell_31 ?_
      refine v_isub hX qX12_cell_32 ?_
      refine v_i2l hX qX12_cell_33 ?_
      refine v_callSq hX hR k_X12_87 (m_in _ (by exact (0)) _) rfl (Nat.le_of_ble_eq_true rfl) rfl (Nat.le_of_ble_eq_true rfl) ⟨Nat.le_of_ble_eq_true rfl, Nat.le_of_ble_eq_true rfl⟩ qX12_cell_34 ?_
      rintro _ _ ⟨rfl, rfl⟩
      first | refine v_if_neB hX 43 qX12_cell_37 rfl (fun q37 => ?_) (fun q37 => ?_) | refine v_if_ne hX 43 qX12_cell_37 rfl (fun q37 => ?_) (fun q37 => ?_)
      · obtain ⟨k, hk, rfl⟩ := ofRange q37.1 ((leM1 (by omega)).mp q37.2) (by omega)
        refine v_aload_n hX rfl qX12_cell_43 ?_
        refine v_getR hX g_X12_75 (hm.kd 38 rfl) (hm.rf 18 rfl) qX12_cell_44 ?_
        refine v_bipush hX lb_40 qX12_cell_47 ?_
        refine v_iload_n hX rfl qX12_cell_49 ?_
        refine v_imul hX qX12_cell_50 ?_
        refine v_iload_n hX rfl qX12_cell_51 ?_
        refine v_iadd hX qX12_cell_52 ?_
        refine v_eqI (show _ = nI (40 * j + k) by rw [show (40 : Int32) = nI 40 from rfl, pk_mul, nI_add]) ?_
        refine v_aload_n hX rfl qX12_cell_53 ?_
        refine v_getR hX g_X12_69 (hm.kd 38 rfl) (hm.rf 16 rfl) qX12_cell_54 ?_
        refine v_iload_n hX rfl qX12_cell_57 ?_
        refine v_ialdV hX (hm.kd 55 rfl) (hm.ln 55 rfl) (by exact ix_n (n := j) (by omega) rfl) s1 qX12_cell_58 ?_
        first | refine v_if_neB hX 67 qX12_cell_59 rfl (fun q59 => ?_) (fun q59 => ?_) | refine v_if_ne hX 67 qX12_cell_59 rfl (fun q59 => ?_) (fun q59 => ?_)
        · skip
          refine v_aload_n hX rfl qX12_cell_67 ?_
          refine v_getR hX g_X12_69 (hm.kd 38 rfl) (hm.rf 16 rfl) qX12_cell_68 ?_
          refine v_iload_n hX rfl qX12_cell_71 ?_
          refine v_ialdV hX (hm.kd 55 rfl) (hm.ln 55 rfl) (by exact ix_n (n := j) (by omega) rfl) s1 qX12_cell_72 ?_
          refine v_iconst hX li_1 qX12_cell_73 ?_
          refine v_icmp_ne hX 82 qX12_cell_74 rfl (fun q74 => ?_) (fun q74 => ?_)
          · skip
            refine v_iload_n hX rfl qX12_cell_82 ?_
            refine v_eqI (show _ = nrw (sS E j) v by first | exact (if_pos q59).symm | (rw [nrw, if_neg q59, if_pos q74]) | (rw [nrw, if_neg q59, if_neg q74])) ?_
            refine v_iastJ hX (hm.kd 57 rfl) (hm.ln 57 rfl) (by exact ix_n (n := 40 * j + k) (by omega) rfl) qX12_cell_83 ?_
            refine v_iconst hX li_1 qX12_cell_84 ?_
            refine v_ireturn hX qX12_cell_85 (hP _ _ ?_)
            rw [cellI, if_pos q4, tn_nI (show j < 2000000 by omega), if_neg q16, if_pos ⟨q37.1, (leM1 (by omega)).mp q37.2⟩, tn_nI (show k < 2000000 by omega)]
            refine ⟨rfl, (stI h 57 (40 * j + k) (nrw (sS E j) v)).1, h.2.2.1, rfl, hc.sht (fun a kx a1 => ?_) (fun i hi => ?_) hok.2.2.2.2.2.2.2, fun a ha => funext fun kx => ?_⟩
            · show hpI (stI h 57 (40 * j + k) (nrw (sS E j) v)) _ _ = _; rw [hpI_st, if_neg (by omega)]
            · obtain ⟨g1, g2⟩ := hst i hi
              refine ⟨(show hpI (stI h 57 (40 * j + k) (nrw (sS E j) v)) 54 i = _ by rw [hpI_st, if_neg (by omega)]; exact g1), fun z => ?_⟩
              obtain ⟨g3, g4, g5⟩ := g2 z
              refine ⟨(show hpI (stI h 57 (40 * j + k) (nrw (sS E j) v)) 55 i = _ by rw [hpI_st, if_neg (by omega)]; exact g3), (show hpI (stI h 57 (40 * j + k) (nrw (sS E j) v)) 56 i = _ by rw [hpI_st, if_neg (by omega)]; exact g4), fun kk hkk => ?_⟩
              have hkk : kk < sL E i := hkk
              have h40 := (hok.2.2.2.2.2.2.2 i hi).1
              show hpI (stI h 57 (40 * j + k) (nrw (sS E j) v)) 57 (40 * i + kk) = if i = j ∧ kk = k then _ else sI' E i kk
              rw [hpI_st]
              by_cases e : i = j ∧ kk = k
              · rw [if_pos e, if_pos ⟨rfl, by omega⟩]
              · rw [if_neg e, if_neg (by omega)]; exact g5 kk hkk
            · show hpI (stI h 57 (40 * j + k) (nrw (sS E j) v)) _ _ = _; rw [hpI_st, if_neg (by omega)]
          · skip
            refine v_iload_n hX rfl qX12_cell_77 ?_
            refine v_i2s hX qX12_cell_78 ?_
            refine v_goto hX 83 qX12_cell_79 rfl ?_
            refine v_eqI (show _ = nrw (sS E j) v by first | exact (if_pos q59).symm | (rw [nrw, if_neg q59, if_pos q74]) | (rw [nrw, if_neg q59, if_neg q74])) ?_
            refine v_iastJ hX (hm.kd 57 rfl) (hm.ln 57 rfl) (by exact ix_n (n := 40 * j + k) (by omega) rfl) qX12_cell_83 ?_
            refine v_iconst hX li_1 qX12_cell_84 ?_
            refine v_ireturn hX qX12_cell_85 (hP _ _ ?_)
            rw [cellI, if_pos q4, tn_nI (show j < 2000000 by omega), if_neg q16, if_pos ⟨q37.1, (leM1 (by omega)).mp q37.2⟩, tn_nI (show k < 2000000 by omega)]
            refine ⟨rfl, (stI h 57 (40 * j + k) (nrw (sS E j) v)).1, h.2.2.1, rfl, hc.sht (fun a kx a1 => ?_) (fun i hi => ?_) hok.2.2.2.2.2.2.2, fun a ha => funext fun kx => ?_⟩
            · show hpI (stI h 57 (40 * j + k) (nrw (sS E j) v)) _ _ = _; rw [hpI_st, if_neg (by omega)]
            · obtain ⟨g1, g2⟩ := hst i hi
              refine ⟨(show hpI (stI h 57 (40 * j + k) (nrw (sS E j) v)) 54 i = _ by rw [hpI_st, if_neg (by omega)]; exact g1), fun z => ?_⟩
              obtain ⟨g3, g4, g5⟩ := g2 z
              refine ⟨(show hpI (stI h 57 (40 * j + k) (nrw (sS E j) v)) 55 i = _ by rw [hpI_st, if_neg (by omega)]; exact g3), (show hpI (stI h 57 (40 * j + k) (nrw (sS E j) v)) 56 i = _ by rw [hpI_st, if_neg (by omega)]; exact g4), fun kk hkk => ?_⟩
              have hkk : kk < sL E i := hkk
              have h40 := (hok.2.2.2.2.2.2.2 i hi).1
              show hpI (stI h 57 (40 * j + k) (nrw (sS E j) v)) 57 (40 * i + kk) = if i = j ∧ kk = k then _ else sI' E i kk
              rw [hpI_st]
              by_cases e : i = j ∧ kk = k
              · rw [if_pos e, if_pos ⟨rfl, by omega⟩]
              · rw [if_neg e, if_neg (by omega)]; exact g5 kk hkk
            · show hpI (stI h 57 (40 * j + k) (nrw (sS E j) v)) _ _ = _; rw [hpI_st, if_neg (by omega)]
        · skip
          refine v_iload_n hX rfl qX12_cell_62 ?_
          refine v_i2b hX qX12_cell_63 ?_
          refine v_goto hX 83 qX12_cell_64 rfl ?_
          refine v_eqI (show _ = nrw (sS E j) v by first | exact (if_pos q59).symm | (rw [nrw, if_neg q59, if_pos q74]) | (rw [nrw, if_neg q59, if_neg q74])) ?_
          refine v_iastJ hX (hm.kd 57 rfl) (hm.ln 57 rfl) (by exact ix_n (n := 40 * j + k) (by omega) rfl) qX12_cell_83 ?_
          refine v_iconst hX li_1 qX12_cell_84 ?_
          refine v_ireturn hX qX12_cell_85 (hP _ _ ?_)
          rw [cellI, if_pos q4, tn_nI (show j < 2000000 by omega), if_neg q16, if_pos ⟨q37.1, (leM1 (by omega)).mp q37.2⟩, tn_nI (show k < 2000000 by omega)]
          refine ⟨rfl, (stI h 57 (40 * j + k) (nrw (sS E j) v)).1, h.2.2.1, rfl, hc.sht (fun a kx a1 => ?_) (fun i hi => ?_) hok.2.2.2.2.2.2.2, fun a ha => funext fun kx => ?_⟩
          · show hpI (stI h 57 (40 * j + k) (nrw (sS E j) v)) _ _ = _; rw [hpI_st, if_neg (by omega)]
          · obtain ⟨g1, g2⟩ := hst i hi
            refine ⟨(show hpI (stI h 57 (40 * j + k) (nrw (sS E j) v)) 54 i = _ by rw [hpI_st, if_neg (by omega)]; exact g1), fun z => ?_⟩
            obtain ⟨g3, g4, g5⟩ := g2 z
            refine ⟨(show hpI (stI h 57 (40 * j + k) (nrw (sS E j) v)) 55 i = _ by rw [hpI_st, if_neg (by omega)]; exact g3), (show hpI (stI h 57 (40 * j + k) (nrw (sS E j) v)) 56 i = _ by rw [hpI_st, if_neg (by omega)]; exact g4), fun kk hkk => ?_⟩
            have hkk : kk < sL E i := hkk
            have h40 := (hok.2.2.2.2.2.2.2 i hi).1
            show hpI (stI h 57 (40 * j + k) (nrw (sS E j) v)) 57 (40 * i + kk) = if i = j ∧ kk = k then _ else sI' E i kk
            rw [hpI_st]
            by_cases e : i = j ∧ kk = k
            · rw [if_pos e, if_pos ⟨rfl, by omega⟩]
            · rw [if_neg e, if_neg (by omega)]; exact g5 kk hkk
          · show hpI (stI h 57 (40 * j + k) (nrw (sS E j) v)) _ _ = _; rw [hpI_st, if_neg (by omega)]
      · have hno : ¬ (0 ≤ i ∧ i < nI (sL E j)) := fun z => q37 ⟨z.1, (leM1 (by omega)).mpr z.2⟩
        refine v_bipush hX lb_n12 qX12_cell_40 ?_
        refine v_ireturn hX qX12_cell_42 (hP _ _ ?_)
        rw [cellI, if_pos q4, tn_nI (show j < 2000000 by omega), if_neg q16, if_neg hno]
        exact ⟨rfl, h.1, h.2.2.1, rfl, hc, fun a _ => rfl⟩
    · skip
      refine v_bipush hX lb_n11 qX12_cell_19 ?_
      refine v_ireturn hX qX12_cell_21 (hP _ _ ?_)
      rw [cellI, if_pos q4, tn_nI (show j < 2000000 by omega), if_pos (Classical.byContradiction q16)]
      exact ⟨rfl, h.1, h.2.2.1, rfl, hc, fun a _ => rfl⟩
  · skip
    refine v_bipush hX lb_n2 qX12_cell_7 ?_
    refine v_ireturn hX qX12_cell_9 (hP _ _ ?_)
    rw [cellI, if_neg q4]
    exact ⟨rfl, h.1, h.2.2.1, rfl, hc, fun a _ => rfl⟩
theorem cp_c : ∀ a : Nat, a < 41 → ∀ i n : Int32, 0 ≤ i → 0 ≤ n → (i ≤ nI a - n ↔ (0 ≤ i ∧ 0 ≤ n ∧ n ≤ nI a ∧ i ≤ nI a - n)) := by
  intro a ha i n hi hn
  refine ⟨fun h => ⟨hi, hn, ?_, h⟩, fun h => h.2.2.2⟩
  obtain ⟨m, hm, rfl⟩ := nI_of (x := n) (Int32.not_lt.mpr hn)
  obtain ⟨k, hk, rfl⟩ := nI_of (x := i) (Int32.not_lt.mpr hi)
  by_cases h2 : m ≤ a
  · exact nI_le h2 (by omega)
  · have e : (nI a - nI m).toInt = (a : Int) - m := by
      rw [Int32.toInt_sub, nI_toInt (by omega), nI_toInt hm]
      exact Int.bmod_eq_of_le (by omega) (by omega)
    rw [leI, e, nI_toInt hk] at h
    omega
def CpW (h : AHp) (s o i j lo hi : Nat) (σ : Nat → Nat → Int32) : Prop := ∀ x, σ 57 x = if 40 * o + j + lo ≤ x ∧ x < 40 * o + j + hi then hpI h 57 (40 * s + i + (x - (40 * o + j))) else hpI h 57 x
theorem CpW.put {h : AHp} {s o i j lo hi lo' hi' d : Nat} {σ : Nat → Nat → Int32} (hw : CpW h s o i j lo hi σ) (hd : ∀ x, (lo' ≤ x ∧ x < hi') ↔ (x = d ∨ (lo ≤ x ∧ x < hi))) {v : Int32} (hv : v = hpI h 57 (40 * s + i + d)) {J : Nat → Nat → Int64} : CpW h s o i j lo' hi' (stI (mkH h σ J) 57 (40 * o + j + d) v).1 := by
  intro x
  show hpI (stI (mkH h σ J) 57 (40 * o + j + d) v) 57 x = _
  rw [hpI_st]
  by_cases e : x = 40 * o + j + d
  · have h1 := (hd d).mpr (Or.inl rfl)
    rw [if_pos ⟨rfl, e⟩, if_pos (by omega), hv, e, show 40 * o + j + d - (40 * o + j) = d by omega]
  · rw [if_neg (fun z => e z.2)]
    show σ 57 x = _
    rw [hw x]
    by_cases hx : 40 * o + j ≤ x
    · have h1 := hd (x - (40 * o + j))
      by_cases h2 : 40 * o + j + lo ≤ x ∧ x < 40 * o + j + hi
      · have := h1.mpr (Or.inr ⟨by omega, by omega⟩)
        rw [if_pos h2, if_pos (by omega)]
      · rw [if_neg h2, if_neg (fun z => by
          have := h1.mp ⟨by omega, by omega⟩
          rcases this with y | y <;> omega)]
    · rw [if_neg (by omega), if_neg (by omega)]
theorem qX12_copy_0 : Dq cX12_copy 0 (.iload_n 1) 1 1 := ⟨by decide +kernel, rfl⟩
theorem qX12_copy_1 : Dq cX12_copy 1 (.invokestatic 333) 3 4 := ⟨by decide +kernel, rfl⟩
theorem qX12_copy_4 : Dq cX12_copy 4 (.ifCond .eq 10) 3 7 := ⟨by decide +kernel, rfl⟩
theorem qX12_copy_7 : Dq cX12_copy 7 (.iload_n 3) 1 8 := ⟨by decide +kernel, rfl⟩
theorem qX12_copy_8 : Dq cX12_copy 8 (.invokestatic 333) 3 11 := ⟨by decide +kernel, rfl⟩
theorem qX12_copy_11 : Dq cX12_copy 11 (.ifCond .ne 6) 3 14 := ⟨by decide +kernel, rfl⟩
theorem qX12_copy_14 : Dq cX12_copy 14 (.bipush (-2)) 2 16 := ⟨by decide +kernel, rfl⟩
theorem qX12_copy_16 : Dq cX12_copy 16 (.ireturn) 1 17 := ⟨by decide +kernel, rfl⟩
theorem qX12_copy_17 : Dq cX12_copy 17 (.aload_n 0) 1 18 := ⟨by decide +kernel, rfl⟩
theorem qX12_copy_18 : Dq cX12_copy 18 (.getfield 65) 3 21 := ⟨by decide +kernel, rfl⟩
theorem qX12_copy_21 : Dq cX12_copy 21 (.iload_n 1) 1 22 := ⟨by decide +kernel, rfl⟩
theorem qX12_copy_22 : Dq cX12_copy 22 (.baload) 1 23 := ⟨by decide +kernel, rfl⟩
theorem qX12_copy_23 : Dq cX12_copy 23 (.ifCond .eq 12) 3 26 := ⟨by decide +kernel, rfl⟩
theorem qX12_copy_26 : Dq cX12_copy 26 (.aload_n 0) 1 27 := ⟨by decide +kernel, rfl⟩
theorem qX12_copy_27 : Dq cX12_copy 27 (.getfield 65) 3 30 := ⟨by decide +kernel, rfl⟩
theorem qX12_copy_30 : Dq cX12_copy 30 (.iload_n 3) 1 31 := ⟨by decide +kernel, rfl⟩
theorem qX12_copy_31 : Dq cX12_copy 31 (.baload) 1 32 := ⟨by decide +kernel, rfl⟩
theorem qX12_copy_32 : Dq cX12_copy 32 (.ifCond .ne 6) 3 35 := ⟨by decide +kernel, rfl⟩
theorem qX12_copy_35 : Dq cX12_copy 35 (.bipush (-11)) 2 37 := ⟨by decide +kernel, rfl⟩
theorem qX12_copy_37 : Dq cX12_copy 37 (.ireturn) 1 38 := ⟨by decide +kernel, rfl⟩
theorem qX12_copy_38 : Dq cX12_copy 38 (.aload_n 0) 1 39 := ⟨by decide +kernel, rfl⟩
theorem qX12_copy_39 : Dq cX12_copy 39 (.getfield 69) 3 42 := ⟨by decide +kernel, rfl⟩
theorem qX12_copy_42 : Dq cX12_copy 42 (.iload_n 1) 1 43 := ⟨by decide +kernel, rfl⟩
theorem qX12_copy_43 : Dq cX12_copy 43 (.iaload) 1 44 := ⟨by decide +kernel, rfl⟩
theorem qX12_copy_44 : Dq cX12_copy 44 (.aload_n 0) 1 45 := ⟨by decide +kernel, rfl⟩
theorem qX12_copy_45 : Dq cX12_copy 45 (.getfield 69) 3 48 := ⟨by decide +kernel, rfl⟩
theorem qX12_copy_48 : Dq cX12_copy 48 (.iload_n 3) 1 49 := ⟨by decide +kernel, rfl⟩
theorem qX12_copy_49 : Dq cX12_copy 49 (.iaload) 1 50 := ⟨by decide +kernel, rfl⟩
theorem qX12_copy_50 : Dq cX12_copy 50 (.if_icmp .eq 6) 3 53 := ⟨by decide +kernel, rfl⟩
theorem qX12_copy_53 : Dq cX12_copy 53 (.bipush (-13)) 2 55 := ⟨by decide +kernel, rfl⟩
theorem qX12_copy_55 : Dq cX12_copy 55 (.ireturn) 1 56 := ⟨by decide +kernel, rfl⟩
theorem qX12_copy_56 : Dq cX12_copy 56 (.iload 5) 2 58 := ⟨by decide +kernel, rfl⟩
theorem qX12_copy_58 : Dq cX12_copy 58 (.ifCond .lt 39) 3 61 := ⟨by decide +kernel, rfl⟩
theorem qX12_copy_61 : Dq cX12_copy 61 (.iload_n 2) 1 62 := ⟨by decide +kernel, rfl⟩
theorem qX12_copy_62 : Dq cX12_copy 62 (.ifCond .lt 35) 3 65 := ⟨by decide +kernel, rfl⟩
theorem qX12_copy_65 : Dq cX12_copy 65 (.iload 4) 2 67 := ⟨by decide +kernel, rfl⟩
theorem qX12_copy_67 : Dq cX12_copy 67 (.ifCond .lt 30) 3 70 := ⟨by decide +kernel, rfl⟩
theorem qX12_copy_70 : Dq cX12_copy 70 (.iload_n 2) 1 71 := ⟨by decide +kernel, rfl⟩
theorem qX12_copy_71 : Dq cX12_copy 71 (.aload_n 0) 1 72 := ⟨by decide +kernel, rfl⟩
theorem qX12_copy_72 : Dq cX12_copy 72 (.getfield 72) 3 75 := ⟨by decide +kernel, rfl⟩
theorem qX12_copy_75 : Dq cX12_copy 75 (.iload_n 1) 1 76 := ⟨by decide +kernel, rfl⟩
theorem qX12_copy_76 : Dq cX12_copy 76 (.iaload) 1 77 := ⟨by decide +kernel, rfl⟩
theorem qX12_copy_77 : Dq cX12_copy 77 (.iload 5) 2 79 := ⟨by decide +kernel, rfl⟩
theorem qX12_copy_79 : Dq cX12_copy 79 (.isub) 1 80 := ⟨by decide +kernel, rfl⟩
theorem qX12_copy_80 : Dq cX12_copy 80 (.if_icmp .gt 17) 3 83 := ⟨by decide +kernel, rfl⟩
theorem qX12_copy_83 : Dq cX12_copy 83 (.iload 4) 2 85 := ⟨by decide +kernel, rfl⟩
theorem qX12_copy_85 : Dq cX12_copy 85 (.aload_n 0) 1 86 := ⟨by decide +kernel, rfl⟩
theorem qX12_copy_86 : Dq cX12_copy 86 (.getfield 72) 3 89 := ⟨by decide +kernel, rfl⟩
theorem qX12_copy_89 : Dq cX12_copy 89 (.iload_n 3) 1 90 := ⟨by decide +kernel, rfl⟩
theorem qX12_copy_90 : Dq cX12_copy 90 (.iaload) 1 91 := ⟨by decide +kernel, rfl⟩
theorem qX12_copy_91 : Dq cX12_copy 91 (.iload 5) 2 93 := ⟨by decide +kernel, rfl⟩
theorem qX12_copy_93 : Dq cX12_copy 93 (.isub) 1 94 := ⟨by decide +kernel, rfl⟩
theorem qX12_copy_94 : Dq cX12_copy 94 (.if_icmp .le 6) 3 97 := ⟨by decide +kernel, rfl⟩
theorem qX12_copy_97 : Dq cX12_copy 97 (.bipush (-12)) 2 99 := ⟨by decide +kernel, rfl⟩
theorem qX12_copy_99 : Dq cX12_copy 99 (.ireturn) 1 100 := ⟨by decide +kernel, rfl⟩
theorem qX12_copy_100 : Dq cX12_copy 100 (.iload_n 1) 1 101 := ⟨by decide +kernel, rfl⟩
theorem qX12_copy_101 : Dq cX12_copy 101 (.iload_n 3) 1 102 := ⟨by decide +kernel, rfl⟩
theorem qX12_copy_102 : Dq cX12_copy 102 (.if_icmp .ne 13) 3 105 := ⟨by decide +kernel, rfl⟩
theorem qX12_copy_105 : Dq cX12_copy 105 (.iload_n 2) 1 106 := ⟨by decide +kernel, rfl⟩
theorem qX12_copy_106 : Dq cX12_copy 106 (.iload 4) 2 108 := ⟨by decide +kernel, rfl⟩
theorem qX12_copy_108 : Dq cX12_copy 108 (.if_icmp .ge 7) 3 111 := ⟨by decide +kernel, rfl⟩
theorem qX12_copy_111 : Dq cX12_copy 111 (.iconst 1) 1 112 := ⟨by decide +kernel, rfl⟩
theorem qX12_copy_112 : Dq cX12_copy 112 (.goto 4) 3 115 := ⟨by decide +kernel, rfl⟩
theorem qX12_copy_115 : Dq cX12_copy 115 (.iconst 0) 1 116 := ⟨by decide +kernel, rfl⟩
theorem qX12_copy_116 : Dq cX12_copy 116 (.istore 6) 2 118 := ⟨by decide +kernel, rfl⟩
theorem qX12_copy_118 : Dq cX12_copy 118 (.iconst 0) 1 119 := ⟨by decide +kernel, rfl⟩
theorem qX12_copy_119 : Dq cX12_copy 119 (.istore 7) 2 121 := ⟨by decide +kernel, rfl⟩
theorem qX12_copy_121 : Dq cX12_copy 121 (.iload 7) 2 123 := ⟨by decide +kernel, rfl⟩
theorem qX12_copy_123 : Dq cX12_copy 123 (.iload 5) 2 125 := ⟨by decide +kernel, rfl⟩
theorem qX12_copy_125 : Dq cX12_copy 125 (.if_icmp .ge 57) 3 128 := ⟨by decide +kernel, rfl⟩
theorem qX12_copy_128 : Dq cX12_copy 128 (.iload 6) 2 130 := ⟨by decide +kernel, rfl⟩
theorem qX12_copy_130 : Dq cX12_copy 130 (.ifCond .eq 13) 3 133 := ⟨by decide +kernel, rfl⟩
theorem qX12_copy_133 : Dq cX12_copy 133 (.iload 5) 2 135 := ⟨by decide +kernel, rfl⟩
theorem qX12_copy_135 : Dq cX12_copy 135 (.iconst 1) 1 136 := ⟨by decide +kernel, rfl⟩
theorem qX12_copy_136 : Dq cX12_copy 136 (.isub) 1 137 := ⟨by decide +kernel, rfl⟩
theorem qX12_copy_137 : Dq cX12_copy 137 (.iload 7) 2 139 := ⟨by decide +kernel, rfl⟩
theorem qX12_copy_139 : Dq cX12_copy 139 (.isub) 1 140 := ⟨by decide +kernel, rfl⟩
theorem qX12_copy_140 : Dq cX12_copy 140 (.goto 5) 3 143 := ⟨by decide +kernel, rfl⟩
theorem qX12_copy_143 : Dq cX12_copy 143 (.iload 7) 2 145 := ⟨by decide +kernel, rfl⟩
theorem qX12_copy_145 : Dq cX12_copy 145 (.istore 8) 2 147 := ⟨by decide +kernel, rfl⟩
theorem qX12_copy_147 : Dq cX12_copy 147 (.aload_n 0) 1 148 := ⟨by decide +kernel, rfl⟩
theorem qX12_copy_148 : Dq cX12_copy 148 (.getfield 75) 3 151 := ⟨by decide +kernel, rfl⟩
theorem qX12_copy_151 : Dq cX12_copy 151 (.bipush 40) 2 153 := ⟨by decide +kernel, rfl⟩
theorem qX12_copy_153 : Dq cX12_copy 153 (.iload_n 3) 1 154 := ⟨by decide +kernel, rfl⟩
theorem qX12_copy_154 : Dq cX12_copy 154 (.imul) 1 155 := ⟨by decide +kernel, rfl⟩
theorem qX12_copy_155 : Dq cX12_copy 155 (.iload 4) 2 157 := ⟨by decide +kernel, rfl⟩
theorem qX12_copy_157 : Dq cX12_copy 157 (.iadd) 1 158 := ⟨by decide +kernel, rfl⟩
theorem qX12_copy_158 : Dq cX12_copy 158 (.iload 8) 2 160 := ⟨by decide +kernel, rfl⟩
theorem qX12_copy_160 : Dq cX12_copy 160 (.iadd) 1 161 := ⟨by decide +kernel, rfl⟩
theorem qX12_copy_161 : Dq cX12_copy 161 (.aload_n 0) 1 162 := ⟨by decide +kernel, rfl⟩
theorem qX12_copy_162 : Dq cX12_copy 162 (.getfield 75) 3 165 := ⟨by decide +kernel, rfl⟩
theorem qX12_copy_165 : Dq cX12_copy 165 (.bipush 40) 2 167 := ⟨by decide +kernel, rfl⟩
theorem qX12_copy_167 : Dq cX12_copy 167 (.iload_n 1) 1 168 := ⟨by decide +kernel, rfl⟩
theorem qX12_copy_168 : Dq cX12_copy 168 (.imul) 1 169 := ⟨by decide +kernel, rfl⟩
theorem qX12_copy_169 : Dq cX12_copy 169 (.iload_n 2) 1 170 := ⟨by decide +kernel, rfl⟩
theorem qX12_copy_170 : Dq cX12_copy 170 (.iadd) 1 171 := ⟨by decide +kernel, rfl⟩
theorem qX12_copy_171 : Dq cX12_copy 171 (.iload 8) 2 173 := ⟨by decide +kernel, rfl⟩
theorem qX12_copy_173 : Dq cX12_copy 173 (.iadd) 1 174 := ⟨by decide +kernel, rfl⟩
theorem qX12_copy_174 : Dq cX12_copy 174 (.iaload) 1 175 := ⟨by decide +kernel, rfl⟩
theorem qX12_copy_175 : Dq cX12_copy 175 (.iastore) 1 176 := ⟨by decide +kernel, rfl⟩
theorem qX12_copy_176 : Dq cX12_copy 176 (.iinc 7 1) 3 179 := ⟨by decide +kernel, rfl⟩
theorem qX12_copy_179 : Dq cX12_copy 179 (.goto (-58)) 3 182 := ⟨by decide +kernel, rfl⟩
theorem qX12_copy_182 : Dq cX12_copy 182 (.iload 5) 2 184 := ⟨by decide +kernel, rfl⟩
theorem qX12_copy_184 : Dq cX12_copy 184 (.ireturn) 1 185 := ⟨by decide +kernel, rfl⟩
set_option maxRecDepth 100000 in
set_option maxHeartbeats 4000000 in
theorem m_copy {G : Glb} {h : AHp} {E : Sst} (hc : MW h E) (s i o j n : Int32) : CP G m_X12_copy 3 0 0 [.ref 38, .int s, .int i, .int o, .int j, .int n] h (fun r h' => r = some (.int (copyI E s i o j n).1) ∧ ∃ σ J, h' = mkH h σ J ∧ MW (mkH h σ J) (setS E (sS E) (sL E) (copyI E s i o j n).2) ∧ K58 h σ) := by
  suffices key : ∀ P : Option Value → AHp → Prop, (∀ r h', (r = some (.int (copyI E s i o j n).1) ∧ ∃ σ J, h' = mkH h σ J ∧ MW (mkH h σ J) (setS E (sS E) (sL E) (copyI E s i o j n).2) ∧ K58 h σ) → P r h') → CP G m_X12_copy 3 0 0 [.ref 38, .int s, .int i, .int o, .int j, .int n] h P from key _ (fun _ _ z => z)
  intro P hP
  obtain ⟨hm, htx, hp, hb, hkp, htp, hst, hok⟩ := id hc
  have hc6 := hok.1
  have hm6 := hok.2.1
  have hkd : ∀ i, i < sM E → sK E i < 6 := fun i hi => (hok.2.2.1 i hi).1
  have hnu : ∀ i, i < sM E → inR (sN E i) 9 := fun i hi => (hok.2.2.1 i hi).2
  have hbe : BeOK (bm h) (sC E) := by rw [hb]; exact hok.2.2.2.1
  refine CP.of (by decide +kernel) (Nat.le_of_ble_eq_true rfl) fun X hX hR hnm => ?_
  show V X G 9 0 0 _ 0 [some (.ref 38), some (.int s), some (.int i), some (.int o), some (.int j), some (.int n), none, none, none] [] h
  refine v_iload_n hX rfl qX12_copy_0 ?_
  refine v_callSq hX hR k_X12_333 (m_isSheet _) rfl (Nat.le_of_ble_eq_true rfl) rfl (Nat.le_of_ble_eq_true rfl) ⟨Nat.le_of_ble_eq_true rfl, Nat.le_of_ble_eq_true rfl⟩ qX12_copy_1 ?_
  rintro _ _ ⟨rfl, rfl⟩
  first | refine v_if_eqB hX 14 qX12_copy_4 rfl (fun q4 => ?_) (fun q4 => ?_) | refine v_if_eq hX 14 qX12_copy_4 rfl (fun q4 => ?_) (fun q4 => ?_)
  · skip
    refine v_bipush hX lb_n2 qX12_copy_14 ?_
    refine v_ireturn hX qX12_copy_16 (hP _ _ ?_)
    first | (rw [copyI, if_neg (fun z => q4 z.1)]; exact ⟨rfl, h.1, h.2.2.1, rfl, hc, fun a _ => rfl⟩) | (rw [copyI, if_neg (fun z => q11 z.2)]; exact ⟨rfl, h.1, h.2.2.1, rfl, hc, fun a _ => rfl⟩)
  · skip
    refine v_iload_n hX rfl qX12_copy_7 ?_
    refine v_callSq hX hR k_X12_333 (m_isSheet _) rfl (Nat.le_of_ble_eq_true rfl) rfl (Nat.le_of_ble_eq_true rfl) ⟨Nat.le_of_ble_eq_true rfl, Nat.le_of_ble_eq_true rfl⟩ qX12_copy_8 ?_
    rintro _ _ ⟨rfl, rfl⟩
    first | refine v_if_neB hX 17 qX12_copy_11 rfl (fun q11 => ?_) (fun q11 => ?_) | refine v_if_ne hX 17 qX12_copy_11 rfl (fun q11 => ?_) (fun q11 => ?_)
    · skip
      obtain ⟨a, ha, rfl⟩ := rng_ex 3 (by omega) q4
      obtain ⟨b, hb3, rfl⟩ := rng_ex 3 (by omega) q11
      refine v_aload_n hX rfl qX12_copy_17 ?_
      refine v_getR hX g_X12_65 (hm.kd 38 rfl) (hm.rf 15 rfl) qX12_copy_18 ?_
      refine v_iload_n hX rfl qX12_copy_21 ?_
      refine v_zaldV hX (hm.kd 54 rfl) (hm.ln 54 rfl) (by exact ix_n (n := a) (by omega) rfl) (hst a (by omega)).1 qX12_copy_22 ?_
      first | refine v_if_eqB hX 35 qX12_copy_23 rfl (fun q23 => ?_) (fun q23 => ?_) | refine v_if_eq hX 35 qX12_copy_23 rfl (fun q23 => ?_) (fun q23 => ?_)
      · skip
        refine v_bipush hX lb_n11 qX12_copy_35 ?_
        refine v_ireturn hX qX12_copy_37 (hP _ _ ?_)
        first | (rw [copyI, if_pos (show (0 ≤ nI a ∧ nI a ≤ 3) ∧ (0 ≤ nI b ∧ nI b ≤ 3) from ⟨q4, q11⟩), tn_nI (show a < 2000000 by omega), tn_nI (show b < 2000000 by omega), if_pos (Or.inl (Classical.byContradiction q23))]; exact ⟨rfl, h.1, h.2.2.1, rfl, hc, fun a _ => rfl⟩) | (rw [copyI, if_pos (show (0 ≤ nI a ∧ nI a ≤ 3) ∧ (0 ≤ nI b ∧ nI b ≤ 3) from ⟨q4, q11⟩), tn_nI (show a < 2000000 by omega), tn_nI (show b < 2000000 by omega), if_pos (Or.inr (Classical.byContradiction q32))]; exact ⟨rfl, h.1, h.2.2.1, rfl, hc, fun a _ => rfl⟩)
      · skip
        refine v_aload_n hX rfl qX12_copy_26 ?_
        refine v_getR hX g_X12_65 (hm.kd 38 rfl) (hm.rf 15 rfl) qX12_copy_27 ?_
        refine v_iload_n hX rfl qX12_copy_30 ?_
        refine v_zaldV hX (hm.kd 54 rfl) (hm.ln 54 rfl) (by exact ix_n (n := b) (by omega) rfl) (hst b (by omega)).1 qX12_copy_31 ?_
        first | refine v_if_neB hX 38 qX12_copy_32 rfl (fun q32 => ?_) (fun q32 => ?_) | refine v_if_ne hX 38 qX12_copy_32 rfl (fun q32 => ?_) (fun q32 => ?_)
        · skip
          obtain ⟨a1, a2, a3⟩ := (hst a (by omega)).2 q23
          obtain ⟨b1, b2, b3⟩ := (hst b (by omega)).2 q32
          have la := (hok.2.2.2.2.2.2.2 a (by omega)).1
          have lb := (hok.2.2.2.2.2.2.2 b (by omega)).1
          refine v_aload_n hX rfl qX12_copy_38 ?_
          refine v_getR hX g_X12_69 (hm.kd 38 rfl) (hm.rf 16 rfl) qX12_copy_39 ?_
          refine v_iload_n hX rfl qX12_copy_42 ?_
          refine v_ialdV hX (hm.kd 55 rfl) (hm.ln 55 rfl) (by exact ix_n (n := a) (by omega) rfl) a1 qX12_copy_43 ?_
          refine v_aload_n hX rfl qX12_copy_44 ?_
          refine v_getR hX g_X12_69 (hm.kd 38 rfl) (hm.rf 16 rfl) qX12_copy_45 ?_
          refine v_iload_n hX rfl qX12_copy_48 ?_
          refine v_ialdV hX (hm.kd 55 rfl) (hm.ln 55 rfl) (by exact ix_n (n := b) (by omega) rfl) b1 qX12_copy_49 ?_
          refine v_icmp_eq hX 56 qX12_copy_50 rfl (fun q50 => ?_) (fun q50 => ?_)
          · skip
            refine v_iload hX rfl qX12_copy_56 ?_
            refine v_if_ltS hX 97 qX12_copy_58 rfl (fun q58 => ?_) (fun q58 => ?_)
            · skip
              refine v_bipush hX lb_n12 qX12_copy_97 ?_
              refine v_ireturn hX qX12_copy_99 (hP _ _ ?_)
              rw [copyI, if_pos (show (0 ≤ nI a ∧ nI a ≤ 3) ∧ (0 ≤ nI b ∧ nI b ≤ 3) from ⟨q4, q11⟩), tn_nI (show a < 2000000 by omega), tn_nI (show b < 2000000 by omega), if_neg (fun z => z.elim q23 q32), if_neg (fun z => z q50)]
              first | (rw [if_neg (fun z => absurd q58 (Int32.not_lt.mpr z.1.2.1))]; exact ⟨rfl, h.1, h.2.2.1, rfl, hc, fun a _ => rfl⟩) | (rw [if_neg (fun z => absurd q62 (Int32.not_lt.mpr z.1.1))]; exact ⟨rfl, h.1, h.2.2.1, rfl, hc, fun a _ => rfl⟩) | (rw [if_neg (fun z => absurd q67 (Int32.not_lt.mpr z.2.1))]; exact ⟨rfl, h.1, h.2.2.1, rfl, hc, fun a _ => rfl⟩) | (rw [if_neg (fun z => absurd q80 (Int32.not_lt.mpr z.1.2.2.2))]; exact ⟨rfl, h.1, h.2.2.1, rfl, hc, fun a _ => rfl⟩) | (rw [if_neg (fun z => absurd q94 (Int32.not_lt.mpr z.2.2.2.2))]; exact ⟨rfl, h.1, h.2.2.1, rfl, hc, fun a _ => rfl⟩)
            · skip
              refine v_iload_n hX rfl qX12_copy_61 ?_
              refine v_if_ltS hX 97 qX12_copy_62 rfl (fun q62 => ?_) (fun q62 => ?_)
              · skip
                refine v_bipush hX lb_n12 qX12_copy_97 ?_
                refine v_ireturn hX qX12_copy_99 (hP _ _ ?_)
                rw [copyI, if_pos (show (0 ≤ nI a ∧ nI a ≤ 3) ∧ (0 ≤ nI b ∧ nI b ≤ 3) from ⟨q4, q11⟩), tn_nI (show a < 2000000 by omega), tn_nI (show b < 2000000 by omega), if_neg (fun z => z.elim q23 q32), if_neg (fun z => z q50)]
                first | (rw [if_neg (fun z => absurd q58 (Int32.not_lt.mpr z.1.2.1))]; exact ⟨rfl, h.1, h.2.2.1, rfl, hc, fun a _ => rfl⟩) | (rw [if_neg (fun z => absurd q62 (Int32.not_lt.mpr z.1.1))]; exact ⟨rfl, h.1, h.2.2.1, rfl, hc, fun a _ => rfl⟩) | (rw [if_neg (fun z => absurd q67 (Int32.not_lt.mpr z.2.1))]; exact ⟨rfl, h.1, h.2.2.1, rfl, hc, fun a _ => rfl⟩) | (rw [if_neg (fun z => absurd q80 (Int32.not_lt.mpr z.1.2.2.2))]; exact ⟨rfl, h.1, h.2.2.1, rfl, hc, fun a _ => rfl⟩) | (rw [if_neg (fun z => absurd q94 (Int32.not_lt.mpr z.2.2.2.2))]; exact ⟨rfl, h.1, h.2.2.1, rfl, hc, fun a _ => rfl⟩)
              · skip
                refine v_iload hX rfl qX12_copy_65 ?_
                refine v_if_ltS hX 97 qX12_copy_67 rfl (fun q67 => ?_) (fun q67 => ?_)
                · skip
                  refine v_bipush hX lb_n12 qX12_copy_97 ?_
                  refine v_ireturn hX qX12_copy_99 (hP _ _ ?_)
                  rw [copyI, if_pos (show (0 ≤ nI a ∧ nI a ≤ 3) ∧ (0 ≤ nI b ∧ nI b ≤ 3) from ⟨q4, q11⟩), tn_nI (show a < 2000000 by omega), tn_nI (show b < 2000000 by omega), if_neg (fun z => z.elim q23 q32), if_neg (fun z => z q50)]
                  first | (rw [if_neg (fun z => absurd q58 (Int32.not_lt.mpr z.1.2.1))]; exact ⟨rfl, h.1, h.2.2.1, rfl, hc, fun a _ => rfl⟩) | (rw [if_neg (fun z => absurd q62 (Int32.not_lt.mpr z.1.1))]; exact ⟨rfl, h.1, h.2.2.1, rfl, hc, fun a _ => rfl⟩) | (rw [if_neg (fun z => absurd q67 (Int32.not_lt.mpr z.2.1))]; exact ⟨rfl, h.1, h.2.2.1, rfl, hc, fun a _ => rfl⟩) | (rw [if_neg (fun z => absurd q80 (Int32.not_lt.mpr z.1.2.2.2))]; exact ⟨rfl, h.1, h.2.2.1, rfl, hc, fun a _ => rfl⟩) | (rw [if_neg (fun z => absurd q94 (Int32.not_lt.mpr z.2.2.2.2))]; exact ⟨rfl, h.1, h.2.2.1, rfl, hc, fun a _ => rfl⟩)
                · skip
                  refine v_iload_n hX rfl qX12_copy_70 ?_
                  refine v_aload_n hX rfl qX12_copy_71 ?_
                  refine v_getR hX g_X12_72 (hm.kd 38 rfl) (hm.rf 17 rfl) qX12_copy_72 ?_
                  refine v_iload_n hX rfl qX12_copy_75 ?_
                  refine v_ialdV hX (hm.kd 56 rfl) (hm.ln 56 rfl) (by exact ix_n (n := a) (by omega) rfl) a2 qX12_copy_76 ?_
                  refine v_iload hX rfl qX12_copy_77 ?_
                  refine v_isub hX qX12_copy_79 ?_
                  refine v_icmp_gtS hX 97 qX12_copy_80 rfl (fun q80 => ?_) (fun q80 => ?_)
                  · skip
                    refine v_bipush hX lb_n12 qX12_copy_97 ?_
                    refine v_ireturn hX qX12_copy_99 (hP _ _ ?_)
                    rw [copyI, if_pos (show (0 ≤ nI a ∧ nI a ≤ 3) ∧ (0 ≤ nI b ∧ nI b ≤ 3) from ⟨q4, q11⟩), tn_nI (show a < 2000000 by omega), tn_nI (show b < 2000000 by omega), if_neg (fun z => z.elim q23 q32), if_neg (fun z => z q50)]
                    first | (rw [if_neg (fun z => absurd q58 (Int32.not_lt.mpr z.1.2.1))]; exact ⟨rfl, h.1, h.2.2.1, rfl, hc, fun a _ => rfl⟩) | (rw [if_neg (fun z => absurd q62 (Int32.not_lt.mpr z.1.1))]; exact ⟨rfl, h.1, h.2.2.1, rfl, hc, fun a _ => rfl⟩) | (rw [if_neg (fun z => absurd q67 (Int32.not_lt.mpr z.2.1))]; exact ⟨rfl, h.1, h.2.2.1, rfl, hc, fun a _ => rfl⟩) | (rw [if_neg (fun z => absurd q80 (Int32.not_lt.mpr z.1.2.2.2))]; exact ⟨rfl, h.1, h.2.2.1, rfl, hc, fun a _ => rfl⟩) | (rw [if_neg (fun z => absurd q94 (Int32.not_lt.mpr z.2.2.2.2))]; exact ⟨rfl, h.1, h.2.2.1, rfl, hc, fun a _ => rfl⟩)
                  · skip
                    refine v_iload hX rfl qX12_copy_83 ?_
                    refine v_aload_n hX rfl qX12_copy_85 ?_
                    refine v_getR hX g_X12_72 (hm.kd 38 rfl) (hm.rf 17 rfl) qX12_copy_86 ?_
                    refine v_iload_n hX rfl qX12_copy_89 ?_
                    refine v_ialdV hX (hm.kd 56 rfl) (hm.ln 56 rfl) (by exact ix_n (n := b) (by omega) rfl) b2 qX12_copy_90 ?_
                    refine v_iload hX rfl qX12_copy_91 ?_
                    refine v_isub hX qX12_copy_93 ?_
                    refine v_icmp_leS hX 100 qX12_copy_94 rfl (fun q94 => ?_) (fun q94 => ?_)
                    · skip
                      have hcd : (0 ≤ i ∧ 0 ≤ n ∧ n ≤ nI (sL E a) ∧ i ≤ nI (sL E a) - n) ∧ (0 ≤ j ∧ 0 ≤ n ∧ n ≤ nI (sL E b) ∧ j ≤ nI (sL E b) - n) := ⟨(cp_c _ (by omega) i n q62 q58).mp q80, (cp_c _ (by omega) j n q67 q58).mp q94⟩
                      obtain ⟨i0, n0, rfl, rfl, hi0⟩ := rg_ex la hcd.1
                      obtain ⟨j0, n1, rfl, en, hj0⟩ := rg_ex lb hcd.2
                      have en : n0 = n1 := (nI_eq (by omega) (by omega)).mp en
                      subst en
                      refine v_iload_n hX rfl qX12_copy_100 ?_
                      refine v_iload_n hX rfl qX12_copy_101 ?_
                      refine v_icmp_ne hX 115 qX12_copy_102 rfl (fun q102 => ?_) (fun q102 => ?_)
                      · skip
                        refine v_iconst hX li_0 qX12_copy_115 ?_
                        have hfl : ∃ g : Nat, (0 : Int32) = nI g ∧ ((g = 0 ∧ ¬ (a = b ∧ i0 < j0)) ∨ (g = 1 ∧ a = b ∧ i0 < j0)) := by
                          first
                          | exact ⟨1, rfl, Or.inr ⟨rfl, (nI_eq (by omega) (by omega)).mp q102, nI_lt' (by omega) (by omega) q108⟩⟩
                          | exact ⟨0, rfl, Or.inl ⟨rfl, fun z => q102 (congrArg nI z.1)⟩⟩
                          | exact ⟨0, rfl, Or.inl ⟨rfl, fun z => by have := nI_le' (by omega) (by omega) q108; omega⟩⟩
                        obtain ⟨g, eg, hg⟩ := hfl
                        refine v_eqI eg ?_
                        refine v_istore hX (Nat.le_of_ble_eq_true rfl) rfl (ls' := [some _, some _, some _, some _, some _, some _, some _, none, none]) rfl qX12_copy_116 ?_
                        refine v_iconst hX li_0 qX12_copy_118 ?_
                        refine v_istore hX (Nat.le_of_ble_eq_true rfl) rfl (ls' := [some _, some _, some _, some _, some _, some _, some _, some _, none]) rfl qX12_copy_119 ?_
                        have L121 : ∀ (mz : Nat) (k lo hi_ : Nat) (σ : Nat → Nat → Int32), n0 - k = mz → (k ≤ n0) → (∀ x y, ¬ x = 57 → σ x y = hpI h x y) → (CpW h a b i0 j0 lo hi_ σ) → ((g = 0 ∧ lo = 0 ∧ hi_ = k) ∨ (g = 1 ∧ lo = n0 - k ∧ hi_ = n0)) → V X G 9 0 0 (QM X G P 0 0) 121 [some (.ref 38), some (.int (nI a)), some (.int (nI i0)), some (.int (nI b)), some (.int (nI j0)), some (.int (nI n0)), some (.int (nI g)), some (.int (nI k)), none] [] (mkH h σ h.2.2.1) := by
                          intro mz
                          induction mz using Nat.strongRecOn with
                          | _ mz ih =>
                          intro k lo hi_ σ hmz hi hf hw hm3
                          refine v_iload hX rfl qX12_copy_121 ?_
                          refine v_iload hX rfl qX12_copy_123 ?_
                          refine v_icmp_geS hX 182 qX12_copy_125 rfl (fun q125 => ?_) (fun q125 => ?_)
                          · have e1 : k = n0 := Nat.le_antisymm hi (nI_le' (by omega) (by omega) q125)
                            refine v_iload hX rfl qX12_copy_182 ?_
                            refine v_ireturn hX qX12_copy_184 (hP _ _ ?_)
                            rw [copyI, if_pos (show (0 ≤ nI a ∧ nI a ≤ 3) ∧ (0 ≤ nI b ∧ nI b ≤ 3) from ⟨q4, q11⟩), tn_nI (show a < 2000000 by omega), tn_nI (show b < 2000000 by omega), if_neg (fun z => z.elim q23 q32), if_neg (fun z => z q50), if_pos hcd, tn_nI (show i0 < 2000000 by omega), tn_nI (show j0 < 2000000 by omega), tn_nI (show n0 < 2000000 by omega)]
                            have hlh : lo = 0 ∧ hi_ = n0 := by rcases hm3 with z | z <;> omega
                            refine ⟨rfl, σ, h.2.2.1, rfl, hc.sht (fun x y z => hf x y (by omega)) (fun x hx => ?_) hok.2.2.2.2.2.2.2, fun x hx => funext fun y => hf x y (by omega)⟩
                            obtain ⟨g1, g2⟩ := hst x hx
                            refine ⟨(hf 54 x (by omega)).trans g1, fun z => ?_⟩
                            obtain ⟨g3, g4, g5⟩ := g2 z
                            refine ⟨(hf 55 x (by omega)).trans g3, (hf 56 x (by omega)).trans g4, fun y hy => ?_⟩
                            have hy : y < sL E x := hy
                            have h40 := (hok.2.2.2.2.2.2.2 x hx).1
                            show σ 57 (40 * x + y) = if x = b ∧ j0 ≤ y ∧ y < j0 + n0 then sI' E a (i0 + (y - j0)) else sI' E x y
                            rw [hw]
                            by_cases e : x = b ∧ j0 ≤ y ∧ y < j0 + n0
                            · rw [if_pos e, if_pos (by omega), ← a3 (i0 + (y - j0)) (by omega)]
                              exact congrArg (hpI h 57) (by omega)
                            · rw [if_neg e, if_neg (by omega)]; exact g5 y hy
                          · have hl := nI_lt' (by omega) (by omega) q125
                            refine v_iload hX rfl qX12_copy_128 ?_
                            first | refine v_if_eqB hX 143 qX12_copy_130 rfl (fun q130 => ?_) (fun q130 => ?_) | refine v_if_eq hX 143 qX12_copy_130 rfl (fun q130 => ?_) (fun q130 => ?_)
                            · have hg0 : g = 0 ∧ lo = 0 ∧ hi_ = k := by
                                rcases hm3 with z | z
                                · exact z
                                · rw [z.1] at q130; exact absurd q130 (by decide)
                              refine v_iload hX rfl qX12_copy_143 ?_
                              refine v_istore hX (Nat.le_of_ble_eq_true rfl) rfl (ls' := [some _, some _, some _, some _, some _, some _, some _, some _, some _]) rfl qX12_copy_145 ?_
                              refine v_aload_n hX rfl qX12_copy_147 ?_
                              refine v_getR hX g_X12_75 (hm.kd 38 rfl) (hm.rf 18 rfl) qX12_copy_148 ?_
                              refine v_bipush hX lb_40 qX12_copy_151 ?_
                              refine v_iload_n hX rfl qX12_copy_153 ?_
                              refine v_imul hX qX12_copy_154 ?_
                              refine v_iload hX rfl qX12_copy_155 ?_
                              refine v_iadd hX qX12_copy_157 ?_
                              refine v_iload hX rfl qX12_copy_158 ?_
                              refine v_iadd hX qX12_copy_160 ?_
                              refine v_eqI (show _ = nI (40 * b + j0 + k) by rw [show (40 : Int32) = nI 40 from rfl, pk_mul, nI_add, nI_add]) ?_
                              refine v_aload_n hX rfl qX12_copy_161 ?_
                              refine v_getR hX g_X12_75 (hm.kd 38 rfl) (hm.rf 18 rfl) qX12_copy_162 ?_
                              refine v_bipush hX lb_40 qX12_copy_165 ?_
                              refine v_iload_n hX rfl qX12_copy_167 ?_
                              refine v_imul hX qX12_copy_168 ?_
                              refine v_iload_n hX rfl qX12_copy_169 ?_
                              refine v_iadd hX qX12_copy_170 ?_
                              refine v_iload hX rfl qX12_copy_171 ?_
                              refine v_iadd hX qX12_copy_173 ?_
                              refine v_eqI (show _ = nI (40 * a + i0 + k) by rw [show (40 : Int32) = nI 40 from rfl, pk_mul, nI_add, nI_add]) ?_
                              refine v_ialdV hX (hm.kd 57 rfl) (hm.ln 57 rfl) (by exact ix_n (n := 40 * a + i0 + k) (by omega) rfl) (show _ = hpI h 57 (40 * a + i0 + k) from (hw _).trans (if_neg (by omega))) qX12_copy_174 ?_
                              refine v_iastJ hX (hm.kd 57 rfl) (hm.ln 57 rfl) (by exact ix_n (n := 40 * b + j0 + k) (by omega) rfl) qX12_copy_175 ?_
                              refine v_iinc hX rfl (by first | exact ii_nI _ | exact ii_1 _) (Nat.le_of_ble_eq_true rfl) rfl (ls' := [some _, some _, some _, some _, some _, some _, some _, some _, some _]) rfl qX12_copy_176 ?_
                              refine v_goto hX 121 qX12_copy_179 rfl ?_
                              refine v_forget (ls' := [_, _, _, _, _, _, _, _, none]) ⟨Or.inr rfl, Or.inr rfl, Or.inr rfl, Or.inr rfl, Or.inr rfl, Or.inr rfl, Or.inr rfl, Or.inr rfl, Or.inl rfl, trivial⟩ ?_
                              first | exact ih _ (by omega) (k + 1) lo (k + 1) (stI (mkH h σ h.2.2.1) 57 (40 * b + j0 + k) (hpI h 57 (40 * a + i0 + k))).1 rfl (by omega) (fun x y z => by show hpI (stI _ _ _ _) _ _ = _; rw [hpI_st, if_neg (fun w => z w.1)]; exact hf x y z) (hw.put (d := k) (fun x => by omega) rfl) (Or.inl ⟨hg0.1, hg0.2.1, rfl⟩) | exact ih _ (by omega) (k + 1) (n0 - 1 - k) n0 (stI (mkH h σ h.2.2.1) 57 (40 * b + j0 + (n0 - 1 - k)) (hpI h 57 (40 * a + i0 + (n0 - 1 - k)))).1 rfl (by omega) (fun x y z => by show hpI (stI _ _ _ _) _ _ = _; rw [hpI_st, if_neg (fun w => z w.1)]; exact hf x y z) (hw.put (d := n0 - 1 - k) (fun x => by omega) rfl) (Or.inr ⟨hg0.1, by omega, rfl⟩)
                            · have hg0 : g = 1 ∧ lo = n0 - k ∧ hi_ = n0 := by
                                rcases hm3 with z | z
                                · rw [z.1] at q130; exact absurd rfl q130
                                · exact z
                              refine v_iload hX rfl qX12_copy_133 ?_
                              refine v_iconst hX li_1 qX12_copy_135 ?_
                              refine v_isub hX qX12_copy_136 ?_
                              refine v_eqI (show _ = nI (n0 - 1) from pk_sub (b := 1) (by omega)) ?_
                              refine v_iload hX rfl qX12_copy_137 ?_
                              refine v_isub hX qX12_copy_139 ?_
                              refine v_eqI (show _ = nI (n0 - 1 - k) from pk_sub (by omega)) ?_
                              refine v_goto hX 145 qX12_copy_140 rfl ?_
                              refine v_istore hX (Nat.le_of_ble_eq_true rfl) rfl (ls' := [some _, some _, some _, some _, some _, some _, some _, some _, some _]) rfl qX12_copy_145 ?_
                              refine v_aload_n hX rfl qX12_copy_147 ?_
                              refine v_getR hX g_X12_75 (hm.kd 38 rfl) (hm.rf 18 rfl) qX12_copy_148 ?_
                              refine v_bipush hX lb_40 qX12_copy_151 ?_
                              refine v_iload_n hX rfl qX12_copy_153 ?_
                              refine v_imul hX qX12_copy_154 ?_
                              refine v_iload hX rfl qX12_copy_155 ?_
                              refine v_iadd hX qX12_copy_157 ?_
                              refine v_iload hX rfl qX12_copy_158 ?_
                              refine v_iadd hX qX12_copy_160 ?_
                              refine v_eqI (show _ = nI (40 * b + j0 + (n0 - 1 - k)) by rw [show (40 : Int32) = nI 40 from rfl, pk_mul, nI_add, nI_add]) ?_
                              refine v_aload_n hX rfl qX12_copy_161 ?_
                              refine v_getR hX g_X12_75 (hm.kd 38 rfl) (hm.rf 18 rfl) qX12_copy_162 ?_
                              refine v_bipush hX lb_40 qX12_copy_165 ?_
                              refine v_iload_n hX rfl qX12_copy_167 ?_
                              refine v_imul hX qX12_copy_168 ?_
                              refine v_iload_n hX rfl qX12_copy_169 ?_
                              refine v_iadd hX qX12_copy_170 ?_
                              refine v_iload hX rfl qX12_copy_171 ?_
                              refine v_iadd hX qX12_copy_173 ?_
                              refine v_eqI (show _ = nI (40 * a + i0 + (n0 - 1 - k)) by rw [show (40 : Int32) = nI 40 from rfl, pk_mul, nI_add, nI_add]) ?_
                              refine v_ialdV hX (hm.kd 57 rfl) (hm.ln 57 rfl) (by exact ix_n (n := 40 * a + i0 + (n0 - 1 - k)) (by omega) rfl) (show _ = hpI h 57 (40 * a + i0 + (n0 - 1 - k)) from (hw _).trans (if_neg (by omega))) qX12_copy_174 ?_
                              refine v_iastJ hX (hm.kd 57 rfl) (hm.ln 57 rfl) (by exact ix_n (n := 40 * b + j0 + (n0 - 1 - k)) (by omega) rfl) qX12_copy_175 ?_
                              refine v_iinc hX rfl (by first | exact ii_nI _ | exact ii_1 _) (Nat.le_of_ble_eq_true rfl) rfl (ls' := [some _, some _, some _, some _, some _, some _, some _, some _, some _]) rfl qX12_copy_176 ?_
                              refine v_goto hX 121 qX12_copy_179 rfl ?_
                              refine v_forget (ls' := [_, _, _, _, _, _, _, _, none]) ⟨Or.inr rfl, Or.inr rfl, Or.inr rfl, Or.inr rfl, Or.inr rfl, Or.inr rfl, Or.inr rfl, Or.inr rfl, Or.inl rfl, trivial⟩ ?_
                              first | exact ih _ (by omega) (k + 1) lo (k + 1) (stI (mkH h σ h.2.2.1) 57 (40 * b + j0 + k) (hpI h 57 (40 * a + i0 + k))).1 rfl (by omega) (fun x y z => by show hpI (stI _ _ _ _) _ _ = _; rw [hpI_st, if_neg (fun w => z w.1)]; exact hf x y z) (hw.put (d := k) (fun x => by omega) rfl) (Or.inl ⟨hg0.1, hg0.2.1, rfl⟩) | exact ih _ (by omega) (k + 1) (n0 - 1 - k) n0 (stI (mkH h σ h.2.2.1) 57 (40 * b + j0 + (n0 - 1 - k)) (hpI h 57 (40 * a + i0 + (n0 - 1 - k)))).1 rfl (by omega) (fun x y z => by show hpI (stI _ _ _ _) _ _ = _; rw [hpI_st, if_neg (fun w => z w.1)]; exact hf x y z) (hw.put (d := n0 - 1 - k) (fun x => by omega) rfl) (Or.inr ⟨hg0.1, by omega, rfl⟩)
                        rcases hg with hgg | hgg
                        · exact L121 _ 0 0 0 h.1 rfl (by omega) (fun _ _ _ => rfl) (fun x => by rw [if_neg (by omega)]; rfl) (Or.inl ⟨hgg.1, rfl, rfl⟩)
                        · exact L121 _ 0 n0 n0 h.1 rfl (by omega) (fun _ _ _ => rfl) (fun x => by rw [if_neg (by omega)]; rfl) (Or.inr ⟨hgg.1, by omega, rfl⟩)
                      · skip
                        refine v_iload_n hX rfl qX12_copy_105 ?_
                        refine v_iload hX rfl qX12_copy_106 ?_
                        refine v_icmp_geS hX 115 qX12_copy_108 rfl (fun q108 => ?_) (fun q108 => ?_)
                        · skip
                          refine v_iconst hX li_0 qX12_copy_115 ?_
                          have hfl : ∃ g : Nat, (0 : Int32) = nI g ∧ ((g = 0 ∧ ¬ (a = b ∧ i0 < j0)) ∨ (g = 1 ∧ a = b ∧ i0 < j0)) := by
                            first
                            | exact ⟨1, rfl, Or.inr ⟨rfl, (nI_eq (by omega) (by omega)).mp q102, nI_lt' (by omega) (by omega) q108⟩⟩
                            | exact ⟨0, rfl, Or.inl ⟨rfl, fun z => q102 (congrArg nI z.1)⟩⟩
                            | exact ⟨0, rfl, Or.inl ⟨rfl, fun z => by have := nI_le' (by omega) (by omega) q108; omega⟩⟩
                          obtain ⟨g, eg, hg⟩ := hfl
                          refine v_eqI eg ?_
                          refine v_istore hX (Nat.le_of_ble_eq_true rfl) rfl (ls' := [some _, some _, some _, some _, some _, some _, some _, none, none]) rfl qX12_copy_116 ?_
                          refine v_iconst hX li_0 qX12_copy_118 ?_
                          refine v_istore hX (Nat.le_of_ble_eq_true rfl) rfl (ls' := [some _, some _, some _, some _, some _, some _, some _, some _, none]) rfl qX12_copy_119 ?_
                          have L121 : ∀ (mz : Nat) (k lo hi_ : Nat) (σ : Nat → Nat → Int32), n0 - k = mz → (k ≤ n0) → (∀ x y, ¬ x = 57 → σ x y = hpI h x y) → (CpW h a b i0 j0 lo hi_ σ) → ((g = 0 ∧ lo = 0 ∧ hi_ = k) ∨ (g = 1 ∧ lo = n0 - k ∧ hi_ = n0)) → V X G 9 0 0 (QM X G P 0 0) 121 [some (.ref 38), some (.int (nI a)), some (.int (nI i0)), some (.int (nI b)), some (.int (nI j0)), some (.int (nI n0)), some (.int (nI g)), some (.int (nI k)), none] [] (mkH h σ h.2.2.1) := by
                            intro mz
                            induction mz using Nat.strongRecOn with
                            | _ mz ih =>
                            intro k lo hi_ σ hmz hi hf hw hm3
                            refine v_iload hX rfl qX12_copy_121 ?_
                            refine v_iload hX rfl qX12_copy_123 ?_
                            refine v_icmp_geS hX 182 qX12_copy_125 rfl (fun q125 => ?_) (fun q125 => ?_)
                            · have e1 : k = n0 := Nat.le_antisymm hi (nI_le' (by omega) (by omega) q125)
                              refine v_iload hX rfl qX12_copy_182 ?_
                              refine v_ireturn hX qX12_copy_184 (hP _ _ ?_)
                              rw [copyI, if_pos (show (0 ≤ nI a ∧ nI a ≤ 3) ∧ (0 ≤ nI b ∧ nI b ≤ 3) from ⟨q4, q11⟩), tn_nI (show a < 2000000 by omega), tn_nI (show b < 2000000 by omega), if_neg (fun z => z.elim q23 q32), if_neg (fun z => z q50), if_pos hcd, tn_nI (show i0 < 2000000 by omega), tn_nI (show j0 < 2000000 by omega), tn_nI (show n0 < 2000000 by omega)]
                              have hlh : lo = 0 ∧ hi_ = n0 := by rcases hm3 with z | z <;> omega
                              refine ⟨rfl, σ, h.2.2.1, rfl, hc.sht (fun x y z => hf x y (by omega)) (fun x hx => ?_) hok.2.2.2.2.2.2.2, fun x hx => funext fun y => hf x y (by omega)⟩
                              obtain ⟨g1, g2⟩ := hst x hx
                              refine ⟨(hf 54 x (by omega)).trans g1, fun z => ?_⟩
                              obtain ⟨g3, g4, g5⟩ := g2 z
                              refine ⟨(hf 55 x (by omega)).trans g3, (hf 56 x (by omega)).trans g4, fun y hy => ?_⟩
                              have hy : y < sL E x := hy
                              have h40 := (hok.2.2.2.2.2.2.2 x hx).1
                              show σ 57 (40 * x + y) = if x = b ∧ j0 ≤ y ∧ y < j0 + n0 then sI' E a (i0 + (y - j0)) else sI' E x y
                              rw [hw]
                              by_cases e : x = b ∧ j0 ≤ y ∧ y < j0 + n0
                              · rw [if_pos e, if_pos (by omega), ← a3 (i0 + (y - j0)) (by omega)]
                                exact congrArg (hpI h 57) (by omega)
                              · rw [if_neg e, if_neg (by omega)]; exact g5 y hy
                            · have hl := nI_lt' (by omega) (by omega) q125
                              refine v_iload hX rfl qX12_copy_128 ?_
                              first | refine v_if_eqB hX 143 qX12_copy_130 rfl (fun q130 => ?_) (fun q130 => ?_) | refine v_if_eq hX 143 qX12_copy_130 rfl (fun q130 => ?_) (fun q130 => ?_)
                              · have hg0 : g = 0 ∧ lo = 0 ∧ hi_ = k := by
                                  rcases hm3 with z | z
                                  · exact z
                                  · rw [z.1] at q130; exact absurd q130 (by decide)
                                refine v_iload hX rfl qX12_copy_143 ?_
                                refine v_istore hX (Nat.le_of_ble_eq_true rfl) rfl (ls' := [some _, some _, some _, some _, some _, some _, some _, some _, some _]) rfl qX12_copy_145 ?_
                                refine v_aload_n hX rfl qX12_copy_147 ?_
                                refine v_getR hX g_X12_75 (hm.kd 38 rfl) (hm.rf 18 rfl) qX12_copy_148 ?_
                                refine v_bipush hX lb_40 qX12_copy_151 ?_
                                refine v_iload_n hX rfl qX12_copy_153 ?_
                                refine v_imul hX qX12_copy_154 ?_
                                refine v_iload hX rfl qX12_copy_155 ?_
                                refine v_iadd hX qX12_copy_157 ?_
                                refine v_iload hX rfl qX12_copy_158 ?_
                                refine v_iadd hX qX12_copy_160 ?_
                                refine v_eqI (show _ = nI (40 * b + j0 + k) by rw [show (40 : Int32) = nI 40 from rfl, pk_mul, nI_add, nI_add]) ?_
                                refine v_aload_n hX rfl qX12_copy_161 ?_
                                refine v_getR hX g_X12_75 (hm.kd 38 rfl) (hm.rf 18 rfl) qX12_copy_162 ?_
                                refine v_bipush hX lb_40 qX12_copy_165 ?_
                                refine v_iload_n hX rfl qX12_copy_167 ?_
                                refine v_imul hX qX12_copy_168 ?_
                                refine v_iload_n hX rfl qX12_copy_169 ?_
                                refine v_iadd hX qX12_copy_170 ?_
                                refine v_iload hX rfl qX12_copy_171 ?_
                                refine v_iadd hX qX12_copy_173 ?_
                                refine v_eqI (show _ = nI (40 * a + i0 + k) by rw [show (40 : Int32) = nI 40 from rfl, pk_mul, nI_add, nI_add]) ?_
                                refine v_ialdV hX (hm.kd 57 rfl) (hm.ln 57 rfl) (by exact ix_n (n := 40 * a + i0 + k) (by omega) rfl) (show _ = hpI h 57 (40 * a + i0 + k) from (hw _).trans (if_neg (by omega))) qX12_copy_174 ?_
                                refine v_iastJ hX (hm.kd 57 rfl) (hm.ln 57 rfl) (by exact ix_n (n := 40 * b + j0 + k) (by omega) rfl) qX12_copy_175 ?_
                                refine v_iinc hX rfl (by first | exact ii_nI _ | exact ii_1 _) (Nat.le_of_ble_eq_true rfl) rfl (ls' := [some _, some _, some _, some _, some _, some _, some _, some _, some _]) rfl qX12_copy_176 ?_
                                refine v_goto hX 121 qX12_copy_179 rfl ?_
                                refine v_forget (ls' := [_, _, _, _, _, _, _, _, none]) ⟨Or.inr rfl, Or.inr rfl, Or.inr rfl, Or.inr rfl, Or.inr rfl, Or.inr rfl, Or.inr rfl, Or.inr rfl, Or.inl rfl, trivial⟩ ?_
                                first | exact ih _ (by omega) (k + 1) lo (k + 1) (stI (mkH h σ h.2.2.1) 57 (40 * b + j0 + k) (hpI h 57 (40 * a + i0 + k))).1 rfl (by omega) (fun x y z => by show hpI (stI _ _ _ _) _ _ = _; rw [hpI_st, if_neg (fun w => z w.1)]; exact hf x y z) (hw.put (d := k) (fun x => by omega) rfl) (Or.inl ⟨hg0.1, hg0.2.1, rfl⟩) | exact ih _ (by omega) (k + 1) (n0 - 1 - k) n0 (stI (mkH h σ h.2.2.1) 57 (40 * b + j0 + (n0 - 1 - k)) (hpI h 57 (40 * a + i0 + (n0 - 1 - k)))).1 rfl (by omega) (fun x y z => by show hpI (stI _ _ _ _) _ _ = _; rw [hpI_st, if_neg (fun w => z w.1)]; exact hf x y z) (hw.put (d := n0 - 1 - k) (fun x => by omega) rfl) (Or.inr ⟨hg0.1, by omega, rfl⟩)
                              · have hg0 : g = 1 ∧ lo = n0 - k ∧ hi_ = n0 := by
                                  rcases hm3 with z | z
                                  · rw [z.1] at q130; exact absurd rfl q130
                                  · exact z
                                refine v_iload hX rfl qX12_copy_133 ?_
                                refine v_iconst hX li_1 qX12_copy_135 ?_
                                refine v_isub hX qX12_copy_136 ?_
                                refine v_eqI (show _ = nI (n0 - 1) from pk_sub (b := 1) (by omega)) ?_
                                refine v_iload hX rfl qX12_copy_137 ?_
                                refine v_isub hX qX12_copy_139 ?_
                                refine v_eqI (show _ = nI (n0 - 1 - k) from pk_sub (by omega)) ?_
                                refine v_goto hX 145 qX12_copy_140 rfl ?_
                                refine v_istore hX (Nat.le_of_ble_eq_true rfl) rfl (ls' := [some _, some _, some _, some _, some _, some _, some _, some _, some _]) rfl qX12_copy_145 ?_
                                refine v_aload_n hX rfl qX12_copy_147 ?_
                                refine v_getR hX g_X12_75 (hm.kd 38 rfl) (hm.rf 18 rfl) qX12_copy_148 ?_
                                refine v_bipush hX lb_40 qX12_copy_151 ?_
                                refine v_iload_n hX rfl qX12_copy_153 ?_
                                refine v_imul hX qX12_copy_154 ?_
                                refine v_iload hX rfl qX12_copy_155 ?_
                                refine v_iadd hX qX12_copy_157 ?_
                                refine v_iload hX rfl qX12_copy_158 ?_
                                refine v_iadd hX qX12_copy_160 ?_
                                refine v_eqI (show _ = nI (40 * b + j0 + (n0 - 1 - k)) by rw [show (40 : Int32) = nI 40 from rfl, pk_mul, nI_add, nI_add]) ?_
                                refine v_aload_n hX rfl qX12_copy_161 ?_
                                refine v_getR hX g_X12_75 (hm.kd 38 rfl) (hm.rf 18 rfl) qX12_copy_162 ?_
                                refine v_bipush hX lb_40 qX12_copy_165 ?_
                                refine v_iload_n hX rfl qX12_copy_167 ?_
                                refine v_imul hX qX12_copy_168 ?_
                                refine v_iload_n hX rfl qX12_copy_169 ?_
                                refine v_iadd hX qX12_copy_170 ?_
                                refine v_iload hX rfl qX12_copy_171 ?_
                                refine v_iadd hX qX12_copy_173 ?_
                                refine v_eqI (show _ = nI (40 * a + i0 + (n0 - 1 - k)) by rw [show (40 : Int32) = nI 40 from rfl, pk_mul, nI_add, nI_add]) ?_
                                refine v_ialdV hX (hm.kd 57 rfl) (hm.ln 57 rfl) (by exact ix_n (n := 40 * a + i0 + (n0 - 1 - k)) (by omega) rfl) (show _ = hpI h 57 (40 * a + i0 + (n0 - 1 - k)) from (hw _).trans (if_neg (by omega))) qX12_copy_174 ?_
                                refine v_iastJ hX (hm.kd 57 rfl) (hm.ln 57 rfl) (by exact ix_n (n := 40 * b + j0 + (n0 - 1 - k)) (by omega) rfl) qX12_copy_175 ?_
                                refine v_iinc hX rfl (by first | exact ii_nI _ | exact ii_1 _) (Nat.le_of_ble_eq_true rfl) rfl (ls' := [some _, some _, some _, some _, some _, some _, some _, some _, some _]) rfl qX12_copy_176 ?_
                                refine v_goto hX 121 qX12_copy_179 rfl ?_
                                refine v_forget (ls' := [_, _, _, _, _, _, _, _, none]) ⟨Or.inr rfl, Or.inr rfl, Or.inr rfl, Or.inr rfl, Or.inr rfl, Or.inr rfl, Or.inr rfl, Or.inr rfl, Or.inl rfl, trivial⟩ ?_
                                first | exact ih _ (by omega) (k + 1) lo (k + 1) (stI (mkH h σ h.2.2.1) 57 (40 * b + j0 + k) (hpI h 57 (40 * a + i0 + k))).1 rfl (by omega) (fun x y z => by show hpI (stI _ _ _ _) _ _ = _; rw [hpI_st, if_neg (fun w => z w.1)]; exact hf x y z) (hw.put (d := k) (fun x => by omega) rfl) (Or.inl ⟨hg0.1, hg0.2.1, rfl⟩) | exact ih _ (by omega) (k + 1) (n0 - 1 - k) n0 (stI (mkH h σ h.2.2.1) 57 (40 * b + j0 + (n0 - 1 - k)) (hpI h 57 (40 * a + i0 + (n0 - 1 - k)))).1 rfl (by omega) (fun x y z => by show hpI (stI _ _ _ _) _ _ = _; rw [hpI_st, if_neg (fun w => z w.1)]; exact hf x y z) (hw.put (d := n0 - 1 - k) (fun x => by omega) rfl) (Or.inr ⟨hg0.1, by omega, rfl⟩)
                          rcases hg with hgg | hgg
                          · exact L121 _ 0 0 0 h.1 rfl (by omega) (fun _ _ _ => rfl) (fun x => by rw [if_neg (by omega)]; rfl) (Or.inl ⟨hgg.1, rfl, rfl⟩)
                          · exact L121 _ 0 n0 n0 h.1 rfl (by omega) (fun _ _ _ => rfl) (fun x => by rw [if_neg (by omega)]; rfl) (Or.inr ⟨hgg.1, by omega, rfl⟩)
                        · skip
                          refine v_iconst hX li_1 qX12_copy_111 ?_
                          refine v_goto hX 116 qX12_copy_112 rfl ?_
                          have hfl : ∃ g : Nat, (1 : Int32) = nI g ∧ ((g = 0 ∧ ¬ (a = b ∧ i0 < j0)) ∨ (g = 1 ∧ a = b ∧ i0 < j0)) := by
                            first
                            | exact ⟨1, rfl, Or.inr ⟨rfl, (nI_eq (by omega) (by omega)).mp q102, nI_lt' (by omega) (by omega) q108⟩⟩
                            | exact ⟨0, rfl, Or.inl ⟨rfl, fun z => q102 (congrArg nI z.1)⟩⟩
                            | exact ⟨0, rfl, Or.inl ⟨rfl, fun z => by have := nI_le' (by omega) (by omega) q108; omega⟩⟩
                          obtain ⟨g, eg, hg⟩ := hfl
                          refine v_eqI eg ?_
                          refine v_istore hX (Nat.le_of_ble_eq_true rfl) rfl (ls' := [some _, some _, some _, some _, some _, some _, some _, none, none]) rfl qX12_copy_116 ?_
                          refine v_iconst hX li_0 qX12_copy_118 ?_
                          refine v_istore hX (Nat.le_of_ble_eq_true rfl) rfl (ls' := [some _, some _, some _, some _, some _, some _, some _, some _, none]) rfl qX12_copy_119 ?_
                          have L121 : ∀ (mz : Nat) (k lo hi_ : Nat) (σ : Nat → Nat → Int32), n0 - k = mz → (k ≤ n0) → (∀ x y, ¬ x = 57 → σ x y = hpI h x y) → (CpW h a b i0 j0 lo hi_ σ) → ((g = 0 ∧ lo = 0 ∧ hi_ = k) ∨ (g = 1 ∧ lo = n0 - k ∧ hi_ = n0)) → V X G 9 0 0 (QM X G P 0 0) 121 [some (.ref 38), some (.int (nI a)), some (.int (nI i0)), some (.int (nI b)), some (.int (nI j0)), some (.int (nI n0)), some (.int (nI g)), some (.int (nI k)), none] [] (mkH h σ h.2.2.1) := by
                            intro mz
                            induction mz using Nat.strongRecOn with
                            | _ mz ih =>
                            intro k lo hi_ σ hmz hi hf hw hm3
                            refine v_iload hX rfl qX12_copy_121 ?_
                            refine v_iload hX rfl qX12_copy_123 ?_
                            refine v_icmp_geS hX 182 qX12_copy_125 rfl (fun q125 => ?_) (fun q125 => ?_)
                            · have e1 : k = n0 := Nat.le_antisymm hi (nI_le' (by omega) (by omega) q125)
                              refine v_iload hX rfl qX12_copy_182 ?_
                              refine v_ireturn hX qX12_copy_184 (hP _ _ ?_)
                              rw [copyI, if_pos (show (0 ≤ nI a ∧ nI a ≤ 3) ∧ (0 ≤ nI b ∧ nI b ≤ 3) from ⟨q4, q11⟩), tn_nI (show a < 2000000 by omega), tn_nI (show b < 2000000 by omega), if_neg (fun z => z.elim q23 q32), if_neg (fun z => z q50), if_pos hcd, tn_nI (show i0 < 2000000 by omega), tn_nI (show j0 < 2000000 by omega), tn_nI (show n0 < 2000000 by omega)]
                              have hlh : lo = 0 ∧ hi_ = n0 := by rcases hm3 with z | z <;> omega
                              refine ⟨rfl, σ, h.2.2.1, rfl, hc.sht (fun x y z => hf x y (by omega)) (fun x hx => ?_) hok.2.2.2.2.2.2.2, fun x hx => funext fun y => hf x y (by omega)⟩
                              obtain ⟨g1, g2⟩ := hst x hx
                              refine ⟨(hf 54 x (by omega)).trans g1, fun z => ?_⟩
                              obtain ⟨g3, g4, g5⟩ := g2 z
                              refine ⟨(hf 55 x (by omega)).trans g3, (hf 56 x (by omega)).trans g4, fun y hy => ?_⟩
                              have hy : y < sL E x := hy
                              have h40 := (hok.2.2.2.2.2.2.2 x hx).1
                              show σ 57 (40 * x + y) = if x = b ∧ j0 ≤ y ∧ y < j0 + n0 then sI' E a (i0 + (y - j0)) else sI' E x y
                              rw [hw]
                              by_cases e : x = b ∧ j0 ≤ y ∧ y < j0 + n0
                              · rw [if_pos e, if_pos (by omega), ← a3 (i0 + (y - j0)) (by omega)]
                                exact congrArg (hpI h 57) (by omega)
                              · rw [if_neg e, if_neg (by omega)]; exact g5 y hy
                            · have hl := nI_lt' (by omega) (by omega) q125
                              refine v_iload hX rfl qX12_copy_128 ?_
                              first | refine v_if_eqB hX 143 qX12_copy_130 rfl (fun q130 => ?_) (fun q130 => ?_) | refine v_if_eq hX 143 qX12_copy_130 rfl (fun q130 => ?_) (fun q130 => ?_)
                              · have hg0 : g = 0 ∧ lo = 0 ∧ hi_ = k := by
                                  rcases hm3 with z | z
                                  · exact z
                                  · rw [z.1] at q130; exact absurd q130 (by decide)
                                refine v_iload hX rfl qX12_copy_143 ?_
                                refine v_istore hX (Nat.le_of_ble_eq_true rfl) rfl (ls' := [some _, some _, some _, some _, some _, some _, some _, some _, some _]) rfl qX12_copy_145 ?_
                                refine v_aload_n hX rfl qX12_copy_147 ?_
                                refine v_getR hX g_X12_75 (hm.kd 38 rfl) (hm.rf 18 rfl) qX12_copy_148 ?_
                                refine v_bipush hX lb_40 qX12_copy_151 ?_
                                refine v_iload_n hX rfl qX12_copy_153 ?_
                                refine v_imul hX qX12_copy_154 ?_
                                refine v_iload hX rfl qX12_copy_155 ?_
                                refine v_iadd hX qX12_copy_157 ?_
                                refine v_iload hX rfl qX12_copy_158 ?_
                                refine v_iadd hX qX12_copy_160 ?_
                                refine v_eqI (show _ = nI (40 * b + j0 + k) by rw [show (40 : Int32) = nI 40 from rfl, pk_mul, nI_add, nI_add]) ?_
                                refine v_aload_n hX rfl qX12_copy_161 ?_
                                refine v_getR hX g_X12_75 (hm.kd 38 rfl) (hm.rf 18 rfl) qX12_copy_162 ?_
                                refine v_bipush hX lb_40 qX12_copy_165 ?_
                                refine v_iload_n hX rfl qX12_copy_167 ?_
                                refine v_imul hX qX12_copy_168 ?_
                                refine v_iload_n hX rfl qX12_copy_169 ?_
                                refine v_iadd hX qX12_copy_170 ?_
                                refine v_iload hX rfl qX12_copy_171 ?_
                                refine v_iadd hX qX12_copy_173 ?_
                                refine v_eqI (show _ = nI (40 * a + i0 + k) by rw [show (40 : Int32) = nI 40 from rfl, pk_mul, nI_add, nI_add]) ?_
                                refine v_ialdV hX (hm.kd 57 rfl) (hm.ln 57 rfl) (by exact ix_n (n := 40 * a + i0 + k) (by omega) rfl) (show _ = hpI h 57 (40 * a + i0 + k) from (hw _).trans (if_neg (by omega))) qX12_copy_174 ?_
                                refine v_iastJ hX (hm.kd 57 rfl) (hm.ln 57 rfl) (by exact ix_n (n := 40 * b + j0 + k) (by omega) rfl) qX12_copy_175 ?_
                                refine v_iinc hX rfl (by first | exact ii_nI _ | exact ii_1 _) (Nat.le_of_ble_eq_true rfl) rfl (ls' := [some _, some _, some _, some _, some _, some _, some _, some _, some _]) rfl qX12_copy_176 ?_
                                refine v_goto hX 121 qX12_copy_179 rfl ?_
                                refine v_forget (ls' := [_, _, _, _, _, _, _, _, none]) ⟨Or.inr rfl, Or.inr rfl, Or.inr rfl, Or.inr rfl, Or.inr rfl, Or.inr rfl, Or.inr rfl, Or.inr rfl, Or.inl rfl, trivial⟩ ?_
                                first | exact ih _ (by omega) (k + 1) lo (k + 1) (stI (mkH h σ h.2.2.1) 57 (40 * b + j0 + k) (hpI h 57 (40 * a + i0 + k))).1 rfl (by omega) (fun x y z => by show hpI (stI _ _ _ _) _ _ = _; rw [hpI_st, if_neg (fun w => z w.1)]; exact hf x y z) (hw.put (d := k) (fun x => by omega) rfl) (Or.inl ⟨hg0.1, hg0.2.1, rfl⟩) | exact ih _ (by omega) (k + 1) (n0 - 1 - k) n0 (stI (mkH h σ h.2.2.1) 57 (40 * b + j0 + (n0 - 1 - k)) (hpI h 57 (40 * a + i0 + (n0 - 1 - k)))).1 rfl (by omega) (fun x y z => by show hpI (stI _ _ _ _) _ _ = _; rw [hpI_st, if_neg (fun w => z w.1)]; exact hf x y z) (hw.put (d := n0 - 1 - k) (fun x => by omega) rfl) (Or.inr ⟨hg0.1, by omega, rfl⟩)
                              · have hg0 : g = 1 ∧ lo = n0 - k ∧ hi_ = n0 := by
                                  rcases hm3 with z | z
                                  · rw [z.1] at q130; exact absurd rfl q130
                                  · exact z
                                refine v_iload hX rfl qX12_copy_133 ?_
                                refine v_iconst hX li_1 qX12_copy_135 ?_
                                refine v_isub hX qX12_copy_136 ?_
                                refine v_eqI (show _ = nI (n0 - 1) from pk_sub (b := 1) (by omega)) ?_
                                refine v_iload hX rfl qX12_copy_137 ?_
                                refine v_isub hX qX12_copy_139 ?_
                                refine v_eqI (show _ = nI (n0 - 1 - k) from pk_sub (by omega)) ?_
                                refine v_goto hX 145 qX12_copy_140 rfl ?_
                                refine v_istore hX (Nat.le_of_ble_eq_true rfl) rfl (ls' := [some _, some _, some _, some _, some _, some _, some _, some _, some _]) rfl qX12_copy_145 ?_
                                refine v_aload_n hX rfl qX12_copy_147 ?_
                                refine v_getR hX g_X12_75 (hm.kd 38 rfl) (hm.rf 18 rfl) qX12_copy_148 ?_
                                refine v_bipush hX lb_40 qX12_copy_151 ?_
                                refine v_iload_n hX rfl qX12_copy_153 ?_
                                refine v_imul hX qX12_copy_154 ?_
                                refine v_iload hX rfl qX12_copy_155 ?_
                                refine v_iadd hX qX12_copy_157 ?_
                                refine v_iload hX rfl qX12_copy_158 ?_
                                refine v_iadd hX qX12_copy_160 ?_
                                refine v_eqI (show _ = nI (40 * b + j0 + (n0 - 1 - k)) by rw [show (40 : Int32) = nI 40 from rfl, pk_mul, nI_add, nI_add]) ?_
                                refine v_aload_n hX rfl qX12_copy_161 ?_
                                refine v_getR hX g_X12_75 (hm.kd 38 rfl) (hm.rf 18 rfl) qX12_copy_162 ?_
                                refine v_bipush hX lb_40 qX12_copy_165 ?_
                                refine v_iload_n hX rfl qX12_copy_167 ?_
                                refine v_imul hX qX12_copy_168 ?_
                                refine v_iload_n hX rfl qX12_copy_169 ?_
                                refine v_iadd hX qX12_copy_170 ?_
                                refine v_iload hX rfl qX12_copy_171 ?_
                                refine v_iadd hX qX12_copy_173 ?_
                                refine v_eqI (show _ = nI (40 * a + i0 + (n0 - 1 - k)) by rw [show (40 : Int32) = nI 40 from rfl, pk_mul, nI_add, nI_add]) ?_
                                refine v_ialdV hX (hm.kd 57 rfl) (hm.ln 57 rfl) (by exact ix_n (n := 40 * a + i0 + (n0 - 1 - k)) (by omega) rfl) (show _ = hpI h 57 (40 * a + i0 + (n0 - 1 - k)) from (hw _).trans (if_neg (by omega))) qX12_copy_174 ?_
                                refine v_iastJ hX (hm.kd 57 rfl) (hm.ln 57 rfl) (by exact ix_n (n := 40 * b + j0 + (n0 - 1 - k)) (by omega) rfl) qX12_copy_175 ?_
                                refine v_iinc hX rfl (by first | exact ii_nI _ | exact ii_1 _) (Nat.le_of_ble_eq_true rfl) rfl (ls' := [some _, some _, some _, some _, some _, some _, some _, some _, some _]) rfl qX12_copy_176 ?_
                                refine v_goto hX 121 qX12_copy_179 rfl ?_
                                refine v_forget (ls' := [_, _, _, _, _, _, _, _, none]) ⟨Or.inr rfl, Or.inr rfl, Or.inr rfl, Or.inr rfl, Or.inr rfl, Or.inr rfl, Or.inr rfl, Or.inr rfl, Or.inl rfl, trivial⟩ ?_
                                first | exact ih _ (by omega) (k + 1) lo (k + 1) (stI (mkH h σ h.2.2.1) 57 (40 * b + j0 + k) (hpI h 57 (40 * a + i0 + k))).1 rfl (by omega) (fun x y z => by show hpI (stI _ _ _ _) _ _ = _; rw [hpI_st, if_neg (fun w => z w.1)]; exact hf x y z) (hw.put (d := k) (fun x => by omega) rfl) (Or.inl ⟨hg0.1, hg0.2.1, rfl⟩) | exact ih _ (by omega) (k + 1) (n0 - 1 - k) n0 (stI (mkH h σ h.2.2.1) 57 (40 * b + j0 + (n0 - 1 - k)) (hpI h 57 (40 * a + i0 + (n0 - 1 - k)))).1 rfl (by omega) (fun x y z => by show hpI (stI _ _ _ _) _ _ = _; rw [hpI_st, if_neg (fun w => z w.1)]; exact hf x y z) (hw.put (d := n0 - 1 - k) (fun x => by omega) rfl) (Or.inr ⟨hg0.1, by omega, rfl⟩)
                          rcases hg with hgg | hgg
                          · exact L121 _ 0 0 0 h.1 rfl (by omega) (fun _ _ _ => rfl) (fun x => by rw [if_neg (by omega)]; rfl) (Or.inl ⟨hgg.1, rfl, rfl⟩)
                          · exact L121 _ 0 n0 n0 h.1 rfl (by omega) (fun _ _ _ => rfl) (fun x => by rw [if_neg (by omega)]; rfl) (Or.inr ⟨hgg.1, by omega, rfl⟩)
                    · skip
                      refine v_bipush hX lb_n12 qX12_copy_97 ?_
                      refine v_ireturn hX qX12_copy_99 (hP _ _ ?_)
                      rw [copyI, if_pos (show (0 ≤ nI a ∧ nI a ≤ 3) ∧ (0 ≤ nI b ∧ nI b ≤ 3) from ⟨q4, q11⟩), tn_nI (show a < 2000000 by omega), tn_nI (show b < 2000000 by omega), if_neg (fun z => z.elim q23 q32), if_neg (fun z => z q50)]
                      first | (rw [if_neg (fun z => absurd q58 (Int32.not_lt.mpr z.1.2.1))]; exact ⟨rfl, h.1, h.2.2.1, rfl, hc, fun a _ => rfl⟩) | (rw [if_neg (fun z => absurd q62 (Int32.not_lt.mpr z.1.1))]; exact ⟨rfl, h.1, h.2.2.1, rfl, hc, fun a _ => rfl⟩) | (rw [if_neg (fun z => absurd q67 (Int32.not_lt.mpr z.2.1))]; exact ⟨rfl, h.1, h.2.2.1, rfl, hc, fun a _ => rfl⟩) | (rw [if_neg (fun z => absurd q80 (Int32.not_lt.mpr z.1.2.2.2))]; exact ⟨rfl, h.1, h.2.2.1, rfl, hc, fun a _ => rfl⟩) | (rw [if_neg (fun z => absurd q94 (Int32.not_lt.mpr z.2.2.2.2))]; exact ⟨rfl, h.1, h.2.2.1, rfl, hc, fun a _ => rfl⟩)
          · skip
            refine v_bipush hX lb_n13 qX12_copy_53 ?_
            refine v_ireturn hX qX12_copy_55 (hP _ _ ?_)
            rw [copyI, if_pos (show (0 ≤ nI a ∧ nI a ≤ 3) ∧ (0 ≤ nI b ∧ nI b ≤ 3) from ⟨q4, q11⟩), tn_nI (show a < 2000000 by omega), tn_nI (show b < 2000000 by omega), if_neg (fun z => z.elim q23 q32), if_pos q50]
            exact ⟨rfl, h.1, h.2.2.1, rfl, hc, fun a _ => rfl⟩
        · skip
          refine v_bipush hX lb_n11 qX12_copy_35 ?_
          refine v_ireturn hX qX12_copy_37 (hP _ _ ?_)
          first | (rw [copyI, if_pos (show (0 ≤ nI a ∧ nI a ≤ 3) ∧ (0 ≤ nI b ∧ nI b ≤ 3) from ⟨q4, q11⟩), tn_nI (show a < 2000000 by omega), tn_nI (show b < 2000000 by omega), if_pos (Or.inl (Classical.byContradiction q23))]; exact ⟨rfl, h.1, h.2.2.1, rfl, hc, fun a _ => rfl⟩) | (rw [copyI, if_pos (show (0 ≤ nI a ∧ nI a ≤ 3) ∧ (0 ≤ nI b ∧ nI b ≤ 3) from ⟨q4, q11⟩), tn_nI (show a < 2000000 by omega), tn_nI (show b < 2000000 by omega), if_pos (Or.inr (Classical.byContradiction q32))]; exact ⟨rfl, h.1, h.2.2.1, rfl, hc, fun a _ => rfl⟩)
    · skip
      refine v_bipush hX lb_n2 qX12_copy_14 ?_
      refine v_ireturn hX qX12_copy_16 (hP _ _ ?_)
      first | (rw [copyI, if_neg (fun z => q4 z.1)]; exact ⟨rfl, h.1, h.2.2.1, rfl, hc, fun a _ => rfl⟩) | (rw [copyI, if_neg (fun z => q11 z.2)]; exact ⟨rfl, h.1, h.2.2.1, rfl, hc, fun a _ => rfl⟩)
