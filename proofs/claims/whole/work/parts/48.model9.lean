/-! the reference: plans, plan, planned, giveUp, foundBy -/
theorem pl_step {h : AHp} {σ σ1 σ2 σ3 : Nat → Nat → Int32} {J J1 J2 : Nat → Nat → Int64} {i : Nat} {vc vg vt vl : Int32} (hf1 : FrX (mkH h σ J) σ1) (hf2 : FrR (stI (mkH h σ1 J1) 50 i vc) σ2 J2) (hf3 : FrY (stI (stI (stI (mkH h σ2 J2) 51 i vg) 38 42 vt) 38 41 vl) σ3) :
    (∀ a k, ¬ (a = 42 ∨ a = 43) → ¬ (a = 46 ∨ a = 47) → ¬ (a = 50 ∧ k = i) → ¬ (a = 51 ∧ k = i) → ¬ (a = 38 ∧ (k = 10 ∨ k = 11 ∨ (15 ≤ k ∧ k ≤ 32) ∨ k = 41 ∨ k = 42)) → σ3 a k = σ a k) ∧ σ3 50 i = vc ∧ σ3 51 i = vg ∧ σ3 38 42 = vt ∧ σ3 38 41 = vl := by
  refine ⟨fun a k a1 a2 a3 a4 a5 => ?_, ?_, ?_, ?_, ?_⟩
  · rw [hf3 a k a1 a2 (by omega), hpI_st, if_neg (by omega), hpI_st, if_neg (by omega), hpI_st, if_neg (by omega)]
    show σ2 a k = _
    rw [hf2.1 a k (by omega), hpI_st, if_neg (by omega)]
    exact hf1 a k (by omega) (by omega)
  · rw [hf3 50 i (by omega) (by omega) (by omega), hpI_st, if_neg (by omega), hpI_st, if_neg (by omega), hpI_st, if_neg (by omega)]
    show σ2 50 i = _
    rw [hf2.1 50 i (by omega), hpI_st, if_pos ⟨rfl, rfl⟩]
  · rw [hf3 51 i (by omega) (by omega) (by omega), hpI_st, if_neg (by omega), hpI_st, if_neg (by omega), hpI_st, if_pos ⟨rfl, rfl⟩]
  · rw [hf3 38 42 (by omega) (by omega) (by omega), hpI_st, if_neg (by omega), hpI_st, if_pos ⟨rfl, rfl⟩]
  · rw [hf3 38 41 (by omega) (by omega) (by omega), hpI_st, if_pos ⟨rfl, rfl⟩]
abbrev pbE (E : Sst) : Nat → Bch := pbs (sT E) (sM E) (sK E) (sN E) (sB E)
abbrev psE (E : Sst) : Nat → Bool := pSt (sT E) (sM E) (sK E) (sN E) (sB E)
/-- what plans knows behind c looks -/
def PlI (h : AHp) (E : Sst) (c : Nat) (σ : Nat → Nat → Int32) (J : Nat → Nat → Int64) : Prop := MW (mkH h σ J) (setB E (pbE E c)) ∧ FrZ h σ ∧ Was σ (sB E) ∧ σ 38 41 = nI c ∧ σ 38 42 = sumN (tkE E) c ∧ (∀ j, j < c → σ 50 j = ceE E j ∧ σ 51 j = gaE E j) ∧ ∀ j, j < c → psE E j = false
theorem PlI.X {h : AHp} {E : Sst} {c : Nat} {σ σ1 : Nat → Nat → Int32} {J J1 : Nat → Nat → Int64} (hp : PlI h E c σ J) (hf : FrX (mkH h σ J) σ1) : PlI h E c σ1 J1 := by
  obtain ⟨h1, h2, h3, h4, h5, h6, h7⟩ := hp
  exact ⟨hf.mw h1 J1, h2.tr hf.z, h3.z (h := mkH h σ J) (fun a k ha => hf a k (by omega) (by omega)), (hf 38 41 (by omega) (by omega)).trans h4, (hf 38 42 (by omega) (by omega)).trans h5, fun j hj => ⟨(hf 50 j (by omega) (by omega)).trans (h6 j hj).1, (hf 51 j (by omega) (by omega)).trans (h6 j hj).2⟩, h7⟩
theorem PlI.next {h : AHp} {E : Sst} {i : Nat} {σ σ1 σ2 σ3 : Nat → Nat → Int32} {J J1 J2 J3 : Nat → Nat → Int64} (hp : PlI h E i σ J) {l w : Nat} (hl : l < 2000000) (hw : w < 2000000) (hn : ¬ (chE (setB E (pbE E i))).1 = -1) (hch : chE (setB E (pbE E i)) = (nI l, nI w, rateB (sT E) (pbE E i) (sK E l) (sN E l) w)) {vl : Int32} (el : vl = nI (i + 1)) (hf1 : FrX (mkH h σ J) σ1) (hf2 : FrR (stI (mkH h σ1 J1) 50 i (nI w)) σ2 J2) (hf3 : FrY (stI (stI (stI (mkH h σ2 J2) 51 i (gainB (sT E) (pbE E i) (sK E l) (sN E l) w)) 38 42 (sumN (tkE E) i + tkB (sK E l) (sN E l))) 38 41 vl) σ3) (hm : MW (mkH h σ3 J3) (setB E (lookB (sT E) (pbE E i) (sK E l) (sN E l) w))) : PlI h E (i + 1) σ3 J3 := by
  subst el
  obtain ⟨h1, h2, h3, h4, h5, h6, h7⟩ := hp
  obtain ⟨g1, g2, g3, g4, g5⟩ := pl_step hf1 hf2 hf3
  have hch2 : pCh (sT E) (sM E) (sK E) (sN E) (sB E) i = (nI l, nI w, rateB (sT E) (pbE E i) (sK E l) (sN E l) w) := hch
  have es : pbE E (i + 1) = lookB (sT E) (pbE E i) (sK E l) (sN E l) w := by
    show stB (sT E) (sM E) (sK E) (sN E) (pbE E i) = _
    have hch3 : chB (sT E) (sM E) (sK E) (sN E) (pbE E i) = _ := hch
    have hn3 : ¬ (chB (sT E) (sM E) (sK E) (sN E) (pbE E i)).1 = -1 := hn
    unfold stB
    rw [if_neg hn3, hch3]
    show lookB _ _ (sK E (tn (nI l))) (sN E (tn (nI l))) (tn (nI w)) = _
    rw [tn_nI hl, tn_nI hw]
  have ec : ceE E i = nI w := by
    show (pCh (sT E) (sM E) (sK E) (sN E) (sB E) i).2.1 = _
    rw [hch2]
  have eg : gaE E i = gainB (sT E) (pbE E i) (sK E l) (sN E l) w := by
    show gainB (sT E) (pbE E i) (sK E (tn (pCh (sT E) (sM E) (sK E) (sN E) (sB E) i).1)) (sN E (tn (pCh (sT E) (sM E) (sK E) (sN E) (sB E) i).1)) (tn (pCh (sT E) (sM E) (sK E) (sN E) (sB E) i).2.1) = _
    rw [hch2]
    show gainB _ _ (sK E (tn (nI l))) (sN E (tn (nI l))) (tn (nI w)) = _
    rw [tn_nI hl, tn_nI hw]
  have et : tkE E i = tkB (sK E l) (sN E l) := by
    show tkB (sK E (tn (pCh (sT E) (sM E) (sK E) (sN E) (sB E) i).1)) (sN E (tn (pCh (sT E) (sM E) (sK E) (sN E) (sB E) i).1)) = _
    rw [hch2]
    show tkB (sK E (tn (nI l))) (sN E (tn (nI l))) = _
    rw [tn_nI hl]
  have hs : psE E i = false := decide_eq_false hn
  refine ⟨by rw [es]; exact hm, fun a k a1 a2 a3 => (g1 a k a1 (by omega) (by omega) (by omega) (by omega)).trans (h2 a k a1 a2 a3), h3.z (h := mkH h σ J) (fun a k ha => g1 a k (by omega) (by omega) (by omega) (by omega) (by omega)), g5, ?_, fun j hj => ?_, fun j hj => ?_⟩
  · rw [g4]; show _ = sumN (tkE E) i + tkE E i; rw [et]
  · by_cases e : j = i
    · subst e; rw [g2, g3, ec, eg]; exact ⟨rfl, rfl⟩
    · rw [g1 50 j (by omega) (by omega) (by omega) (by omega) (by omega), g1 51 j (by omega) (by omega) (by omega) (by omega) (by omega)]; exact h6 j (by omega)
  · by_cases e : j = i
    · subst e; exact hs
    · exact h7 j (by omega)
theorem qX12_plans_0 : Dq cX12_plans 0 (.aload_n 0) 1 1 := ⟨by decide +kernel, rfl⟩
theorem qX12_plans_1 : Dq cX12_plans 1 (.invokevirtual 300) 3 4 := ⟨by decide +kernel, rfl⟩
theorem qX12_plans_4 : Dq cX12_plans 4 (.aload_n 0) 1 5 := ⟨by decide +kernel, rfl⟩
theorem qX12_plans_5 : Dq cX12_plans 5 (.iconst 0) 1 6 := ⟨by decide +kernel, rfl⟩
theorem qX12_plans_6 : Dq cX12_plans 6 (.putfield 303) 3 9 := ⟨by decide +kernel, rfl⟩
theorem qX12_plans_9 : Dq cX12_plans 9 (.aload_n 0) 1 10 := ⟨by decide +kernel, rfl⟩
theorem qX12_plans_10 : Dq cX12_plans 10 (.iconst 0) 1 11 := ⟨by decide +kernel, rfl⟩
theorem qX12_plans_11 : Dq cX12_plans 11 (.putfield 306) 3 14 := ⟨by decide +kernel, rfl⟩
theorem qX12_plans_14 : Dq cX12_plans 14 (.iconst 1) 1 15 := ⟨by decide +kernel, rfl⟩
theorem qX12_plans_15 : Dq cX12_plans 15 (.istore_n 2) 1 16 := ⟨by decide +kernel, rfl⟩
theorem qX12_plans_16 : Dq cX12_plans 16 (.iconst 0) 1 17 := ⟨by decide +kernel, rfl⟩
theorem qX12_plans_17 : Dq cX12_plans 17 (.istore_n 3) 1 18 := ⟨by decide +kernel, rfl⟩
theorem qX12_plans_18 : Dq cX12_plans 18 (.iload_n 3) 1 19 := ⟨by decide +kernel, rfl⟩
theorem qX12_plans_19 : Dq cX12_plans 19 (.iload_n 1) 1 20 := ⟨by decide +kernel, rfl⟩
theorem qX12_plans_20 : Dq cX12_plans 20 (.if_icmp .ge 102) 3 23 := ⟨by decide +kernel, rfl⟩
theorem qX12_plans_23 : Dq cX12_plans 23 (.iload_n 2) 1 24 := ⟨by decide +kernel, rfl⟩
theorem qX12_plans_24 : Dq cX12_plans 24 (.ifCond .eq 98) 3 27 := ⟨by decide +kernel, rfl⟩
theorem qX12_plans_27 : Dq cX12_plans 27 (.aload_n 0) 1 28 := ⟨by decide +kernel, rfl⟩
theorem qX12_plans_28 : Dq cX12_plans 28 (.invokevirtual 291) 3 31 := ⟨by decide +kernel, rfl⟩
theorem qX12_plans_31 : Dq cX12_plans 31 (.aload_n 0) 1 32 := ⟨by decide +kernel, rfl⟩
theorem qX12_plans_32 : Dq cX12_plans 32 (.getfield 280) 3 35 := ⟨by decide +kernel, rfl⟩
theorem qX12_plans_35 : Dq cX12_plans 35 (.iconst (-1)) 1 36 := ⟨by decide +kernel, rfl⟩
theorem qX12_plans_36 : Dq cX12_plans 36 (.if_icmp .eq 7) 3 39 := ⟨by decide +kernel, rfl⟩
theorem qX12_plans_39 : Dq cX12_plans 39 (.iconst 1) 1 40 := ⟨by decide +kernel, rfl⟩
theorem qX12_plans_40 : Dq cX12_plans 40 (.goto 4) 3 43 := ⟨by decide +kernel, rfl⟩
theorem qX12_plans_43 : Dq cX12_plans 43 (.iconst 0) 1 44 := ⟨by decide +kernel, rfl⟩
theorem qX12_plans_44 : Dq cX12_plans 44 (.istore_n 2) 1 45 := ⟨by decide +kernel, rfl⟩
theorem qX12_plans_45 : Dq cX12_plans 45 (.iload_n 2) 1 46 := ⟨by decide +kernel, rfl⟩
theorem qX12_plans_46 : Dq cX12_plans 46 (.ifCond .eq 70) 3 49 := ⟨by decide +kernel, rfl⟩
theorem qX12_plans_49 : Dq cX12_plans 49 (.aload_n 0) 1 50 := ⟨by decide +kernel, rfl⟩
theorem qX12_plans_50 : Dq cX12_plans 50 (.getfield 50) 3 53 := ⟨by decide +kernel, rfl⟩
theorem qX12_plans_53 : Dq cX12_plans 53 (.iload_n 3) 1 54 := ⟨by decide +kernel, rfl⟩
theorem qX12_plans_54 : Dq cX12_plans 54 (.aload_n 0) 1 55 := ⟨by decide +kernel, rfl⟩
theorem qX12_plans_55 : Dq cX12_plans 55 (.getfield 283) 3 58 := ⟨by decide +kernel, rfl⟩
theorem qX12_plans_58 : Dq cX12_plans 58 (.iastore) 1 59 := ⟨by decide +kernel, rfl⟩
theorem qX12_plans_59 : Dq cX12_plans 59 (.aload_n 0) 1 60 := ⟨by decide +kernel, rfl⟩
theorem qX12_plans_60 : Dq cX12_plans 60 (.getfield 53) 3 63 := ⟨by decide +kernel, rfl⟩
theorem qX12_plans_63 : Dq cX12_plans 63 (.iload_n 3) 1 64 := ⟨by decide +kernel, rfl⟩
theorem qX12_plans_64 : Dq cX12_plans 64 (.aload_n 0) 1 65 := ⟨by decide +kernel, rfl⟩
theorem qX12_plans_65 : Dq cX12_plans 65 (.aload_n 0) 1 66 := ⟨by decide +kernel, rfl⟩
theorem qX12_plans_66 : Dq cX12_plans 66 (.getfield 280) 3 69 := ⟨by decide +kernel, rfl⟩
theorem qX12_plans_69 : Dq cX12_plans 69 (.aload_n 0) 1 70 := ⟨by decide +kernel, rfl⟩
theorem qX12_plans_70 : Dq cX12_plans 70 (.getfield 283) 3 73 := ⟨by decide +kernel, rfl⟩
theorem qX12_plans_73 : Dq cX12_plans 73 (.invokevirtual 273) 3 76 := ⟨by decide +kernel, rfl⟩
theorem qX12_plans_76 : Dq cX12_plans 76 (.iastore) 1 77 := ⟨by decide +kernel, rfl⟩
theorem qX12_plans_77 : Dq cX12_plans 77 (.aload_n 0) 1 78 := ⟨by decide +kernel, rfl⟩
theorem qX12_plans_78 : Dq cX12_plans 78 (.dup) 1 79 := ⟨by decide +kernel, rfl⟩
theorem qX12_plans_79 : Dq cX12_plans 79 (.getfield 306) 3 82 := ⟨by decide +kernel, rfl⟩
theorem qX12_plans_82 : Dq cX12_plans 82 (.aload_n 0) 1 83 := ⟨by decide +kernel, rfl⟩
theorem qX12_plans_83 : Dq cX12_plans 83 (.aload_n 0) 1 84 := ⟨by decide +kernel, rfl⟩
theorem qX12_plans_84 : Dq cX12_plans 84 (.getfield 280) 3 87 := ⟨by decide +kernel, rfl⟩
theorem qX12_plans_87 : Dq cX12_plans 87 (.invokevirtual 267) 3 90 := ⟨by decide +kernel, rfl⟩
theorem qX12_plans_90 : Dq cX12_plans 90 (.iadd) 1 91 := ⟨by decide +kernel, rfl⟩
theorem qX12_plans_91 : Dq cX12_plans 91 (.putfield 306) 3 94 := ⟨by decide +kernel, rfl⟩
theorem qX12_plans_94 : Dq cX12_plans 94 (.aload_n 0) 1 95 := ⟨by decide +kernel, rfl⟩
theorem qX12_plans_95 : Dq cX12_plans 95 (.dup) 1 96 := ⟨by decide +kernel, rfl⟩
theorem qX12_plans_96 : Dq cX12_plans 96 (.getfield 303) 3 99 := ⟨by decide +kernel, rfl⟩
theorem qX12_plans_99 : Dq cX12_plans 99 (.iconst 1) 1 100 := ⟨by decide +kernel, rfl⟩
theorem qX12_plans_100 : Dq cX12_plans 100 (.iadd) 1 101 := ⟨by decide +kernel, rfl⟩
theorem qX12_plans_101 : Dq cX12_plans 101 (.putfield 303) 3 104 := ⟨by decide +kernel, rfl⟩
theorem qX12_plans_104 : Dq cX12_plans 104 (.aload_n 0) 1 105 := ⟨by decide +kernel, rfl⟩
theorem qX12_plans_105 : Dq cX12_plans 105 (.aload_n 0) 1 106 := ⟨by decide +kernel, rfl⟩
theorem qX12_plans_106 : Dq cX12_plans 106 (.getfield 280) 3 109 := ⟨by decide +kernel, rfl⟩
theorem qX12_plans_109 : Dq cX12_plans 109 (.aload_n 0) 1 110 := ⟨by decide +kernel, rfl⟩
theorem qX12_plans_110 : Dq cX12_plans 110 (.getfield 283) 3 113 := ⟨by decide +kernel, rfl⟩
theorem qX12_plans_113 : Dq cX12_plans 113 (.invokevirtual 276) 3 116 := ⟨by decide +kernel, rfl⟩
theorem qX12_plans_116 : Dq cX12_plans 116 (.iinc 3 1) 3 119 := ⟨by decide +kernel, rfl⟩
theorem qX12_plans_119 : Dq cX12_plans 119 (.goto (-101)) 3 122 := ⟨by decide +kernel, rfl⟩
theorem qX12_plans_122 : Dq cX12_plans 122 (.aload_n 0) 1 123 := ⟨by decide +kernel, rfl⟩
theorem qX12_plans_123 : Dq cX12_plans 123 (.invokevirtual 309) 3 126 := ⟨by decide +kernel, rfl⟩
theorem qX12_plans_126 : Dq cX12_plans 126 (.return_) 1 127 := ⟨by decide +kernel, rfl⟩
set_option maxRecDepth 100000 in
set_option maxHeartbeats 4000000 in
theorem m_plans {G : Glb} {h : AHp} {E : Sst} (hc : MW h E) {n : Nat} (hn20 : n ≤ 20) : CP G m_X12_plans 66 0 0 [.ref 38, .int (nI n)] h (fun r h' => r = none ∧ ∃ σ J, h' = mkH h σ J ∧ MW (mkH h σ J) E ∧ FrZ h σ ∧ σ 38 41 = nI (szE E n) ∧ σ 38 42 = sumN (tkE E) (szE E n) ∧ ∀ i, i < szE E n → σ 50 i = ceE E i ∧ σ 51 i = gaE E i) := by
  suffices key : ∀ P : Option Value → AHp → Prop, (∀ r h', (r = none ∧ ∃ σ J, h' = mkH h σ J ∧ MW (mkH h σ J) E ∧ FrZ h σ ∧ σ 38 41 = nI (szE E n) ∧ σ 38 42 = sumN (tkE E) (szE E n) ∧ ∀ i, i < szE E n → σ 50 i = ceE E i ∧ σ 51 i = gaE E i) → P r h') → CP G m_X12_plans 66 0 0 [.ref 38, .int (nI n)] h P from key _ (fun _ _ z => z)
  intro P hP
  obtain ⟨hm, htx, hp, hb, hkp, htp, hst, hok⟩ := id hc
  have hc6 := hok.1
  have hm6 := hok.2.1
  have hkd : ∀ i, i < sM E → sK E i < 6 := fun i hi => (hok.2.2.1 i hi).1
  have hnu : ∀ i, i < sM E → inR (sN E i) 9 := fun i hi => (hok.2.2.1 i hi).2
  have hbe : BeOK (bm h) (sC E) := by rw [hb]; exact hok.2.2.2.1
  refine CP.of (by decide +kernel) (Nat.le_of_ble_eq_true rfl) fun X hX hR hnm => ?_
  show V X G 4 0 0 _ 0 [some (.ref 38), some (.int (nI n)), none, none] [] h
  refine v_aload_n hX rfl qX12_plans_0 ?_
  refine v_callVq hX hR k_X12_300 (hm.kd 38 rfl) (m_laysAside (by exact hm)) rfl (Nat.le_of_ble_eq_true rfl) rfl (Nat.le_of_ble_eq_true rfl) ⟨Nat.le_of_ble_eq_true rfl, Nat.le_of_ble_eq_true rfl⟩ qX12_plans_1 ?_
  rintro _ _ ⟨rfl, σ0, rfl, hf0, hw0⟩
  refine v_aload_n hX rfl qX12_plans_4 ?_
  refine v_iconst hX li_0 qX12_plans_5 ?_
  refine v_putI hX p_X12_303 (hm.kd 38 rfl) (Or.inl rfl) qX12_plans_6 ?_
  refine v_aload_n hX rfl qX12_plans_9 ?_
  refine v_iconst hX li_0 qX12_plans_10 ?_
  refine v_putI hX p_X12_306 (hm.kd 38 rfl) (Or.inl rfl) qX12_plans_11 ?_
  refine v_iconst hX li_1 qX12_plans_14 ?_
  refine v_istore_n hX (Nat.le_of_ble_eq_true rfl) rfl (ls' := [some _, some _, some _, none]) rfl qX12_plans_15 ?_
  refine v_iconst hX li_0 qX12_plans_16 ?_
  refine v_istore_n hX (Nat.le_of_ble_eq_true rfl) rfl (ls' := [some _, some _, some _, some _]) rfl qX12_plans_17 ?_
  have L18 : ∀ (mz : Nat) (i c : Nat) (g : Int32) (σ : Nat → Nat → Int32) (J : Nat → Nat → Int64), n - i = mz → (i ≤ n) → (PlI h E c σ J) → ((g = 1 ∧ i = c) ∨ (g = 0 ∧ c < n ∧ psE E c = true)) → V X G 4 0 0 (QM X G P 0 0) 18 [some (.ref 38), some (.int (nI n)), some (.int g), some (.int (nI i))] [] (mkH h σ J) := by
    intro mz
    induction mz using Nat.strongRecOn with
    | _ mz ih =>
    intro i c g σ J hmz hi hI hg
    refine v_iload_n hX rfl qX12_plans_18 ?_
    refine v_iload_n hX rfl qX12_plans_19 ?_
    refine v_icmp_geS hX 122 qX12_plans_20 rfl (fun q20 => ?_) (fun q20 => ?_)
    · have e1 : i = n := Nat.le_antisymm hi (nI_le' (by omega) (by omega) q20)
      have hcz : szE E n = c := by
        rcases hg with ⟨-, z⟩ | ⟨-, z1, z2⟩
        · subst z; subst e1; exact (fc_no i 0 (fun j _ hj => hI.2.2.2.2.2.2 j (by omega))).trans (by omega)
        · exact fc_hit z2 n 0 (by omega) (by omega) (fun j _ hj => hI.2.2.2.2.2.2 j hj)
      refine v_aload_n hX rfl qX12_plans_122 ?_
      refine v_callVq hX hR k_X12_309 (hm.kd 38 rfl) (m_laysBack (by exact hm) (b := sB E) (by exact hI.2.2.1) (by exact (show _ = _ from (hI.2.1 38 9 (by omega) (by omega) (by omega)).trans (by rw [← hb]; rfl))) (by exact (show _ = _ from (hI.2.1 38 4 (by omega) (by omega) (by omega)).trans (by rw [← hb]; rfl))) (by exact (fun i k ho => by rw [← hb]; exact bm_0 ho))) rfl (Nat.le_of_ble_eq_true rfl) rfl (Nat.le_of_ble_eq_true rfl) ⟨Nat.le_of_ble_eq_true rfl, Nat.le_of_ble_eq_true rfl⟩ qX12_plans_123 ?_
      rintro _ _ ⟨rfl, τ, rfl, hft, hbt⟩
      refine v_return hX qX12_plans_126 (hP _ _ ?_)
      refine ⟨rfl, τ, J, rfl, ?_⟩
      have hfz : FrZ h τ := fun a k a1 a2 a3 => (hft a k a1 (by omega)).trans (hI.2.1 a k a1 a2 a3)
      refine ⟨hc.q (J := J) hfz.n hbt hok.2.2.2.1, hfz, ?_⟩
      rw [hcz]
      exact ⟨(hft 38 41 (by omega) (by omega)).trans hI.2.2.2.1, (hft 38 42 (by omega) (by omega)).trans hI.2.2.2.2.1, fun j hj => ⟨(hft 50 j (by omega) (by omega)).trans (hI.2.2.2.2.2.1 j hj).1, (hft 51 j (by omega) (by omega)).trans (hI.2.2.2.2.2.1 j hj).2⟩⟩
    · have hl := nI_lt' (by omega) (by omega) q20
      refine v_iload_n hX rfl qX12_plans_23 ?_
      first | refine v_if_eqB hX 122 qX12_plans_24 rfl (fun q24 => ?_) (fun q24 => ?_) | refine v_if_eq hX 122 qX12_plans_24 rfl (fun q24 => ?_) (fun q24 => ?_)
      · have hcz : szE E n = c := by
          rcases hg with ⟨z, -⟩ | ⟨-, z1, z2⟩
          · rw [z] at q24; exact absurd q24 (by decide)
          · exact fc_hit z2 n 0 (by omega) (by omega) (fun j _ hj => hI.2.2.2.2.2.2 j hj)
        refine v_aload_n hX rfl qX12_plans_122 ?_
        refine v_callVq hX hR k_X12_309 (hm.kd 38 rfl) (m_laysBack (by exact hm) (b := sB E) (by exact hI.2.2.1) (by exact (show _ = _ from (hI.2.1 38 9 (by omega) (by omega) (by omega)).trans (by rw [← hb]; rfl))) (by exact (show _ = _ from (hI.2.1 38 4 (by omega) (by omega) (by omega)).trans (by rw [← hb]; rfl))) (by exact (fun i k ho => by rw [← hb]; exact bm_0 ho))) rfl (Nat.le_of_ble_eq_true rfl) rfl (Nat.le_of_ble_eq_true rfl) ⟨Nat.le_of_ble_eq_true rfl, Nat.le_of_ble_eq_true rfl⟩ qX12_plans_123 ?_
        rintro _ _ ⟨rfl, τ, rfl, hft, hbt⟩
        refine v_return hX qX12_plans_126 (hP _ _ ?_)
        refine ⟨rfl, τ, J, rfl, ?_⟩
        have hfz : FrZ h τ := fun a k a1 a2 a3 => (hft a k a1 (by omega)).trans (hI.2.1 a k a1 a2 a3)
        refine ⟨hc.q (J := J) hfz.n hbt hok.2.2.2.1, hfz, ?_⟩
        rw [hcz]
        exact ⟨(hft 38 41 (by omega) (by omega)).trans hI.2.2.2.1, (hft 38 42 (by omega) (by omega)).trans hI.2.2.2.2.1, fun j hj => ⟨(hft 50 j (by omega) (by omega)).trans (hI.2.2.2.2.2.1 j hj).1, (hft 51 j (by omega) (by omega)).trans (hI.2.2.2.2.2.1 j hj).2⟩⟩
      · obtain ⟨rfl, rfl⟩ := hg.resolve_right (fun z => q24 z.1)
        have hcv := hI.1
        refine v_aload_n hX rfl qX12_plans_27 ?_
        refine v_callVq hX hR k_X12_291 (hm.kd 38 rfl) (m_best (by exact hcv)) rfl (Nat.le_of_ble_eq_true rfl) rfl (Nat.le_of_ble_eq_true rfl) ⟨Nat.le_of_ble_eq_true rfl, Nat.le_of_ble_eq_true rfl⟩ qX12_plans_28 ?_
        rintro _ _ ⟨rfl, σ1, J1, rfl, hf1, b1, b2, b3⟩
        refine v_aload_n hX rfl qX12_plans_31 ?_
        refine v_getIv hX g_X12_280 (Or.inl rfl) (hm.kd 38 rfl) (show _ = (chE (setB E (pbE E i))).1 from b1) qX12_plans_32 ?_
        refine v_iconst hX li_n1 qX12_plans_35 ?_
        refine v_icmp_eq hX 43 qX12_plans_36 rfl (fun q36 => ?_) (fun q36 => ?_)
        · skip
          refine v_iconst hX li_0 qX12_plans_43 ?_
          refine v_istore_n hX (Nat.le_of_ble_eq_true rfl) rfl (ls' := [some _, some _, some _, some _]) rfl qX12_plans_44 ?_
          refine v_iload_n hX rfl qX12_plans_45 ?_
          first | refine v_if_eqB hX 116 qX12_plans_46 rfl (fun q46 => ?_) (fun q46 => ?_) | refine v_if_eq hX 116 qX12_plans_46 rfl (fun q46 => ?_) (fun q46 => ?_)
          · skip
            refine v_iinc hX rfl (by first | exact ii_nI _ | exact ii_1 _) (Nat.le_of_ble_eq_true rfl) rfl (ls' := [some _, some _, some _, some _]) rfl qX12_plans_116 ?_
            refine v_goto hX 18 qX12_plans_119 rfl ?_
            first | exact ih _ (by omega) (i + 1) i 0 σ1 J1 rfl (by omega) (hI.X hf1) (Or.inr ⟨rfl, hl, decide_eq_true q36⟩) | exact ih _ (by omega) (i + 1) (i + 1) 1 σ3 J3 rfl (by omega) (hI.next (by omega) (by omega) q36 hch2 (nI_1 _) hf1 hf2 hf3 hm3) (Or.inl ⟨rfl, rfl⟩)
          · exact absurd rfl q46
        · obtain ⟨l, w, hl2, hw, hch, hse⟩ := ch_some (TV := sT E) (b := pbE E i) hm6 q36
          have hch2 : chE (setB E (pbE E i)) = (nI l, nI w, rateB (sT E) (pbE E i) (sK E l) (sN E l) w) := hch
          rw [hch2] at b1 b2 b3
          have hc1 := hf1.mw hcv J1
          refine v_iconst hX li_1 qX12_plans_39 ?_
          refine v_goto hX 44 qX12_plans_40 rfl ?_
          refine v_istore_n hX (Nat.le_of_ble_eq_true rfl) rfl (ls' := [some _, some _, some _, some _]) rfl qX12_plans_44 ?_
          refine v_iload_n hX rfl qX12_plans_45 ?_
          first | refine v_if_eqB hX 116 qX12_plans_46 rfl (fun q46 => ?_) (fun q46 => ?_) | refine v_if_eq hX 116 qX12_plans_46 rfl (fun q46 => ?_) (fun q46 => ?_)
          · exact absurd q46 (by decide)
          · skip
            refine v_aload_n hX rfl qX12_plans_49 ?_
            refine v_getR hX g_X12_50 (hm.kd 38 rfl) (hm.rf 11 rfl) qX12_plans_50 ?_
            refine v_iload_n hX rfl qX12_plans_53 ?_
            refine v_aload_n hX rfl qX12_plans_54 ?_
            refine v_getIv hX g_X12_283 (Or.inl rfl) (hm.kd 38 rfl) (show _ = nI w from b2) qX12_plans_55 ?_
            refine v_iastJ hX (hm.kd 50 rfl) (hm.ln 50 rfl) (by exact ix_n (n := i) (by omega) rfl) qX12_plans_58 ?_
            refine v_aload_n hX rfl qX12_plans_59 ?_
            refine v_getR hX g_X12_53 (hm.kd 38 rfl) (hm.rf 12 rfl) qX12_plans_60 ?_
            refine v_iload_n hX rfl qX12_plans_63 ?_
            refine v_aload_n hX rfl qX12_plans_64 ?_
            refine v_aload_n hX rfl qX12_plans_65 ?_
            refine v_getIv hX g_X12_280 (Or.inl rfl) (hm.kd 38 rfl) (show _ = nI l from b1) qX12_plans_66 ?_
            refine v_aload_n hX rfl qX12_plans_69 ?_
            refine v_getIv hX g_X12_283 (Or.inl rfl) (hm.kd 38 rfl) (show _ = nI w from b2) qX12_plans_70 ?_
            refine v_callVq hX hR k_X12_273 (hm.kd 38 rfl) (mw_gain (by exact (hc1.sc (a := 50) (k := i) (v := nI w) (Or.inl ⟨by omega, by omega⟩))) (by exact hl2) (by exact hw)) rfl (Nat.le_of_ble_eq_true rfl) rfl (Nat.le_of_ble_eq_true rfl) ⟨Nat.le_of_ble_eq_true rfl, Nat.le_of_ble_eq_true rfl⟩ qX12_plans_73 ?_
            rintro _ _ ⟨rfl, σ2, J2, rfl, hf2⟩
            have hc2 := MW.fr (hc1.sc (a := 50) (k := i) (v := nI w) (Or.inl ⟨by omega, by omega⟩)) hf2
            have hc3 := MW.sc hc2 (a := 51) (k := i) (v := gainB (sT E) (pbE E i) (sK E l) (sN E l) w) (Or.inl ⟨by omega, by omega⟩)
            refine v_iastJ hX (hm.kd 51 rfl) (hm.ln 51 rfl) (by exact ix_n (n := i) (by omega) rfl) qX12_plans_76 ?_
            refine v_aload_n hX rfl qX12_plans_77 ?_
            refine v_dup hX rfl qX12_plans_78 ?_
            refine v_getIv hX g_X12_306 (Or.inl rfl) (hm.kd 38 rfl) (show _ = sumN (tkE E) i from (hf2.1 38 42 (by omega)).trans ((hf1 38 42 (by omega) (by omega)).trans hI.2.2.2.2.1)) qX12_plans_79 ?_
            refine v_aload_n hX rfl qX12_plans_82 ?_
            refine v_aload_n hX rfl qX12_plans_83 ?_
            refine v_getIv hX g_X12_280 (Or.inl rfl) (hm.kd 38 rfl) (show _ = nI l from (hf2.1 38 30 (by omega)).trans b1) qX12_plans_84 ?_
            refine v_callVq hX hR k_X12_267 (hm.kd 38 rfl) (m_takes (by exact hm) (by exact hc3.2.2.1) (by exact hm6) (by exact hkd) (by exact hl2)) rfl (Nat.le_of_ble_eq_true rfl) rfl (Nat.le_of_ble_eq_true rfl) ⟨Nat.le_of_ble_eq_true rfl, Nat.le_of_ble_eq_true rfl⟩ qX12_plans_87 ?_
            rintro _ _ ⟨rfl, rfl⟩
            rw [tk_eq (hnu l hl2)]
            refine v_iadd hX qX12_plans_90 ?_
            refine v_putI hX p_X12_306 (hm.kd 38 rfl) (Or.inl rfl) qX12_plans_91 ?_
            refine v_aload_n hX rfl qX12_plans_94 ?_
            refine v_dup hX rfl qX12_plans_95 ?_
            refine v_getIv hX g_X12_303 (Or.inl rfl) (hm.kd 38 rfl) (show _ = nI i from (hf2.1 38 41 (by omega)).trans ((hf1 38 41 (by omega) (by omega)).trans hI.2.2.2.1)) qX12_plans_96 ?_
            refine v_iconst hX li_1 qX12_plans_99 ?_
            refine v_iadd hX qX12_plans_100 ?_
            refine v_putI hX p_X12_303 (hm.kd 38 rfl) (Or.inl rfl) qX12_plans_101 ?_
            refine v_aload_n hX rfl qX12_plans_104 ?_
            refine v_aload_n hX rfl qX12_plans_105 ?_
            refine v_getIv hX g_X12_280 (Or.inl rfl) (hm.kd 38 rfl) (show _ = nI l from (hf2.1 38 30 (by omega)).trans b1) qX12_plans_106 ?_
            refine v_aload_n hX rfl qX12_plans_109 ?_
            refine v_getIv hX g_X12_283 (Or.inl rfl) (hm.kd 38 rfl) (show _ = nI w from (hf2.1 38 31 (by omega)).trans b2) qX12_plans_110 ?_
            refine v_callVq hX hR k_X12_276 (hm.kd 38 rfl) (m_looks (by exact ((hc3.sc (a := 38) (k := 42) (v := sumN (tkE E) i + tkB (sK E l) (sN E l)) (Or.inr ⟨rfl, by omega, by omega⟩)).sc (a := 38) (k := 41) (v := nI i + 1) (Or.inr ⟨rfl, by omega, by omega⟩))) (by exact hl2) (by exact hw)) rfl (Nat.le_of_ble_eq_true rfl) rfl (Nat.le_of_ble_eq_true rfl) ⟨Nat.le_of_ble_eq_true rfl, Nat.le_of_ble_eq_true rfl⟩ qX12_plans_113 ?_
            rintro _ _ ⟨rfl, σ3, J3, rfl, hf3, hm3⟩
            refine v_iinc hX rfl (by first | exact ii_nI _ | exact ii_1 _) (Nat.le_of_ble_eq_true rfl) rfl (ls' := [some _, some _, some _, some _]) rfl qX12_plans_116 ?_
            refine v_goto hX 18 qX12_plans_119 rfl ?_
            first | exact ih _ (by omega) (i + 1) i 0 σ1 J1 rfl (by omega) (hI.X hf1) (Or.inr ⟨rfl, hl, decide_eq_true q36⟩) | exact ih _ (by omega) (i + 1) (i + 1) 1 σ3 J3 rfl (by omega) (hI.next (by omega) (by omega) q36 hch2 (nI_1 _) hf1 hf2 hf3 hm3) (Or.inl ⟨rfl, rfl⟩)
  exact L18 _ 0 0 1 (stI (stI (mkH h σ0 h.2.2.1) 38 41 0) 38 42 0).1 h.2.2.1 rfl (by omega) ⟨MW.sc (MW.sc (hc.q (fun a k a1 a2 a3 => hf0 a k (by omega) (by omega)) ((bm_ext (h := mkH h σ0 h.2.2.1) (h' := h) (fun k _ => hf0 42 k (by omega) (by omega)) (fun k _ => hf0 43 k (by omega) (by omega)) (hf0 38 9 (by omega) (by omega)) (hf0 38 10 (by omega) (by omega)) (hf0 38 11 (by omega) (by omega)) (hf0 38 4 (by omega) (by omega))).trans hb) hok.2.2.2.1) (Or.inr ⟨rfl, by omega, by omega⟩)) (Or.inr ⟨rfl, by omega, by omega⟩), fun a k a1 a2 a3 => by show hpI (stI _ _ _ _) _ _ = _; rw [hpI_st, if_neg (by omega), hpI_st, if_neg (by omega)]; exact hf0 a k (by omega) (by omega), by rw [← hb]; exact hw0.z (h := mkH h σ0 h.2.2.1) (fun a k ha => by show hpI (stI _ _ _ _) _ _ = _; rw [hpI_st, if_neg (by omega), hpI_st, if_neg (by omega)]), rfl, rfl, fun j hj => absurd hj (by omega), fun j hj => absurd hj (by omega)⟩ (Or.inl ⟨rfl, rfl⟩)
