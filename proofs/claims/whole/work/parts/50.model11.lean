/-! the reference: seen, crowd -/
theorem MW.st {h : AHp} {E : Sst} (hc : MW h E) {a k : Nat} {v : Int32} (ha : (a = 42 ∨ a = 43) ∨ a = 38 ∧ (k = 9 ∨ k = 10 ∨ k = 11)) {b : Bch} (hb : bm (stI h a k v) = b) (hbe : BeOK b (sC E)) : MW (stI h a k v) (setB E b) :=
  hc.q (σ := (stI h a k v).1) (J := h.2.2.1) (fun x y a1 a2 a3 => by show hpI (stI _ _ _ _) _ _ = _; rw [hpI_st, if_neg (by omega)]) hb hbe
theorem wi_mnG {j n : Nat} (hj : j < 2 ^ 31) (hn : n < 2 ^ 31) : wiI (nI j) 0 (nI n) = mnI (nI n) (nI j) := by
  unfold wiI mnI
  rw [if_neg (nI_pos hj)]
  by_cases h : n < j
  · rw [if_pos (nI_lt h hj), if_neg (nI_nlt (by omega) (by omega))]
  · rw [if_neg (nI_nlt (by omega) (by omega))]
    by_cases e : nI j < nI n
    · rw [if_pos e]
    · rw [if_neg e]
      rw [nI_ltI hj hn] at e
      rw [show j = n by omega]
theorem qX12_isSheet_0 : Dq cX12_isSheet 0 (.iload_n 0) 1 1 := ⟨by decide +kernel, rfl⟩
theorem qX12_isSheet_1 : Dq cX12_isSheet 1 (.i2l) 1 2 := ⟨by decide +kernel, rfl⟩
theorem qX12_isSheet_2 : Dq cX12_isSheet 2 (.lconst 0) 1 3 := ⟨by decide +kernel, rfl⟩
theorem qX12_isSheet_3 : Dq cX12_isSheet 3 (.ldc2_w 364) 3 6 := ⟨by decide +kernel, rfl⟩
theorem qX12_isSheet_6 : Dq cX12_isSheet 6 (.invokestatic 87) 3 9 := ⟨by decide +kernel, rfl⟩
theorem qX12_isSheet_9 : Dq cX12_isSheet 9 (.ireturn) 1 10 := ⟨by decide +kernel, rfl⟩
set_option maxRecDepth 100000 in
set_option maxHeartbeats 4000000 in
theorem m_isSheet {G : Glb} {h : AHp} (v : Int32) : CP G m_X12_isSheet 2 0 0 [.int v] h (fun r h' => r = some (.int (bz (0 ≤ v ∧ v ≤ 3))) ∧ h = h') := by
  suffices key : ∀ P : Option Value → AHp → Prop, (∀ r h', (r = some (.int (bz (0 ≤ v ∧ v ≤ 3))) ∧ h = h') → P r h') → CP G m_X12_isSheet 2 0 0 [.int v] h P from key _ (fun _ _ z => z)
  intro P hP
  refine CP.of (by decide +kernel) (Nat.le_of_ble_eq_true rfl) fun X hX hR hnm => ?_
  show V X G 1 0 0 _ 0 [some (.int v)] [] h
  refine v_iload_n hX rfl qX12_isSheet_0 ?_
  refine v_i2l hX qX12_isSheet_1 ?_
  refine v_lconst hX ll_0 qX12_isSheet_2 ?_
  refine v_ldc2 hX c_X12_364 qX12_isSheet_3 ?_
  refine v_callSq hX hR k_X12_87 (m_in _ (by exact (0)) (by exact (3))) rfl (Nat.le_of_ble_eq_true rfl) rfl (Nat.le_of_ble_eq_true rfl) ⟨Nat.le_of_ble_eq_true rfl, Nat.le_of_ble_eq_true rfl⟩ qX12_isSheet_6 ?_
  rintro _ _ ⟨rfl, rfl⟩
  refine v_zreturn hX (by first | exact Or.inl rfl | exact Or.inr rfl | exact bz01 _) qX12_isSheet_9 (hP _ _ ?_)
  exact ⟨rfl, rfl⟩
theorem qX12_more_0 : Dq cX12_more 0 (.aload_n 0) 1 1 := ⟨by decide +kernel, rfl⟩
theorem qX12_more_1 : Dq cX12_more 1 (.getfield 23) 3 4 := ⟨by decide +kernel, rfl⟩
theorem qX12_more_4 : Dq cX12_more 4 (.iload_n 1) 1 5 := ⟨by decide +kernel, rfl⟩
theorem qX12_more_5 : Dq cX12_more 5 (.aload_n 0) 1 6 := ⟨by decide +kernel, rfl⟩
theorem qX12_more_6 : Dq cX12_more 6 (.getfield 23) 3 9 := ⟨by decide +kernel, rfl⟩
theorem qX12_more_9 : Dq cX12_more 9 (.iload_n 1) 1 10 := ⟨by decide +kernel, rfl⟩
theorem qX12_more_10 : Dq cX12_more 10 (.iaload) 1 11 := ⟨by decide +kernel, rfl⟩
theorem qX12_more_11 : Dq cX12_more 11 (.iload_n 2) 1 12 := ⟨by decide +kernel, rfl⟩
theorem qX12_more_12 : Dq cX12_more 12 (.iadd) 1 13 := ⟨by decide +kernel, rfl⟩
theorem qX12_more_13 : Dq cX12_more 13 (.iconst 0) 1 14 := ⟨by decide +kernel, rfl⟩
theorem qX12_more_14 : Dq cX12_more 14 (.ldc_w 332) 3 17 := ⟨by decide +kernel, rfl⟩
theorem qX12_more_17 : Dq cX12_more 17 (.invokestatic 246) 3 20 := ⟨by decide +kernel, rfl⟩
theorem qX12_more_20 : Dq cX12_more 20 (.iastore) 1 21 := ⟨by decide +kernel, rfl⟩
theorem qX12_more_21 : Dq cX12_more 21 (.return_) 1 22 := ⟨by decide +kernel, rfl⟩
set_option maxRecDepth 100000 in
set_option maxHeartbeats 4000000 in
theorem m_more {G : Glb} {h : AHp} {E : Sst} (hc : MW h E) {q n : Nat} (hq : q < 48) (hn : n ≤ 9999) : CP G m_X12_more 2 0 0 [.ref 38, .int (nI q), .int (nI n)] h (fun r h' => r = none ∧ ∃ σ, h' = mkH h σ h.2.2.1 ∧ MW (mkH h σ h.2.2.1) (setB E (adB (sB E) q (nI n))) ∧ ∀ a k, a ≠ 42 → σ a k = hpI h a k) := by
  suffices key : ∀ P : Option Value → AHp → Prop, (∀ r h', (r = none ∧ ∃ σ, h' = mkH h σ h.2.2.1 ∧ MW (mkH h σ h.2.2.1) (setB E (adB (sB E) q (nI n))) ∧ ∀ a k, a ≠ 42 → σ a k = hpI h a k) → P r h') → CP G m_X12_more 2 0 0 [.ref 38, .int (nI q), .int (nI n)] h P from key _ (fun _ _ z => z)
  intro P hP
  obtain ⟨hm, htx, hp, hb, hkp, htp, hst, hok⟩ := id hc
  have hc6 := hok.1
  have hm6 := hok.2.1
  have hkd : ∀ i, i < sM E → sK E i < 6 := fun i hi => (hok.2.2.1 i hi).1
  have hnu : ∀ i, i < sM E → inR (sN E i) 9 := fun i hi => (hok.2.2.1 i hi).2
  have hbe : BeOK (bm h) (sC E) := by rw [hb]; exact hok.2.2.2.1
  obtain ⟨o, ho, eo⟩ := (hok.2.2.2.1.1 q hq).ex (by omega)
  refine CP.of (by decide +kernel) (Nat.le_of_ble_eq_true rfl) fun X hX hR hnm => ?_
  show V X G 3 0 0 _ 0 [some (.ref 38), some (.int (nI q)), some (.int (nI n))] [] h
  refine v_aload_n hX rfl qX12_more_0 ?_
  refine v_getR hX g_X12_23 (hm.kd 38 rfl) (hm.rf 3 rfl) qX12_more_1 ?_
  refine v_iload_n hX rfl qX12_more_4 ?_
  refine v_aload_n hX rfl qX12_more_5 ?_
  refine v_getR hX g_X12_23 (hm.kd 38 rfl) (hm.rf 3 rfl) qX12_more_6 ?_
  refine v_iload_n hX rfl qX12_more_9 ?_
  refine v_ialdV hX (hm.kd 42 rfl) (hm.ln 42 rfl) (by exact ix_n hq rfl) (show _ = nI o by rw [← eo, ← hb, bm1 hq]) qX12_more_10 ?_
  refine v_iload_n hX rfl qX12_more_11 ?_
  refine v_iadd hX qX12_more_12 ?_
  refine v_eqI (nI_add _ _) ?_
  refine v_iconst hX li_0 qX12_more_13 ?_
  refine v_ldc_w hX c_X12_332 qX12_more_14 ?_
  refine v_callSq hX hR k_X12_246 (m_within _ _ _) rfl (Nat.le_of_ble_eq_true rfl) rfl (Nat.le_of_ble_eq_true rfl) ⟨Nat.le_of_ble_eq_true rfl, Nat.le_of_ble_eq_true rfl⟩ qX12_more_17 ?_
  rintro _ _ ⟨rfl, rfl⟩
  refine v_eqI (wi_mnG (j := o + n) (n := 999999) (by omega) (by omega)) ?_
  refine v_iastJ hX (hm.kd 42 rfl) (hm.ln 42 rfl) (by exact ix_n hq rfl) qX12_more_20 ?_
  refine v_return hX qX12_more_21 (hP _ _ ?_)
  have hv : adB (sB E) q (nI n) = up2 (sB E) 1 q (mnI (nI 999999) (nI (o + n))) := by unfold adB; rw [eo, nI_add]; rfl
  exact ⟨rfl, (stI h 42 q (mnI (nI 999999) (nI (o + n)))).1, rfl, hc.st (Or.inl (Or.inl rfl)) (by rw [hv, bm_u1 hq, hb]) (adB_ok hok.2.2.2.1 hq hn), fun a k ha => by show hpI (stI _ _ _ _) _ _ = _; rw [hpI_st, if_neg (fun z => ha z.1)]⟩
theorem qX12_seen_0 : Dq cX12_seen 0 (.iload_n 1) 1 1 := ⟨by decide +kernel, rfl⟩
theorem qX12_seen_1 : Dq cX12_seen 1 (.invokestatic 333) 3 4 := ⟨by decide +kernel, rfl⟩
theorem qX12_seen_4 : Dq cX12_seen 4 (.ifCond .eq 15) 3 7 := ⟨by decide +kernel, rfl⟩
theorem qX12_seen_7 : Dq cX12_seen 7 (.iload_n 2) 1 8 := ⟨by decide +kernel, rfl⟩
theorem qX12_seen_8 : Dq cX12_seen 8 (.i2l) 1 9 := ⟨by decide +kernel, rfl⟩
theorem qX12_seen_9 : Dq cX12_seen 9 (.lconst 0) 1 10 := ⟨by decide +kernel, rfl⟩
theorem qX12_seen_10 : Dq cX12_seen 10 (.ldc2_w 336) 3 13 := ⟨by decide +kernel, rfl⟩
theorem qX12_seen_13 : Dq cX12_seen 13 (.invokestatic 87) 3 16 := ⟨by decide +kernel, rfl⟩
theorem qX12_seen_16 : Dq cX12_seen 16 (.ifCond .ne 6) 3 19 := ⟨by decide +kernel, rfl⟩
theorem qX12_seen_19 : Dq cX12_seen 19 (.bipush (-2)) 2 21 := ⟨by decide +kernel, rfl⟩
theorem qX12_seen_21 : Dq cX12_seen 21 (.ireturn) 1 22 := ⟨by decide +kernel, rfl⟩
theorem qX12_seen_22 : Dq cX12_seen 22 (.aload_n 0) 1 23 := ⟨by decide +kernel, rfl⟩
theorem qX12_seen_23 : Dq cX12_seen 23 (.getfield 65) 3 26 := ⟨by decide +kernel, rfl⟩
theorem qX12_seen_26 : Dq cX12_seen 26 (.iload_n 1) 1 27 := ⟨by decide +kernel, rfl⟩
theorem qX12_seen_27 : Dq cX12_seen 27 (.baload) 1 28 := ⟨by decide +kernel, rfl⟩
theorem qX12_seen_28 : Dq cX12_seen 28 (.ifCond .ne 6) 3 31 := ⟨by decide +kernel, rfl⟩
theorem qX12_seen_31 : Dq cX12_seen 31 (.bipush (-11)) 2 33 := ⟨by decide +kernel, rfl⟩
theorem qX12_seen_33 : Dq cX12_seen 33 (.ireturn) 1 34 := ⟨by decide +kernel, rfl⟩
theorem qX12_seen_34 : Dq cX12_seen 34 (.iconst 0) 1 35 := ⟨by decide +kernel, rfl⟩
theorem qX12_seen_35 : Dq cX12_seen 35 (.istore_n 3) 1 36 := ⟨by decide +kernel, rfl⟩
theorem qX12_seen_36 : Dq cX12_seen 36 (.iload_n 3) 1 37 := ⟨by decide +kernel, rfl⟩
theorem qX12_seen_37 : Dq cX12_seen 37 (.aload_n 0) 1 38 := ⟨by decide +kernel, rfl⟩
theorem qX12_seen_38 : Dq cX12_seen 38 (.getfield 72) 3 41 := ⟨by decide +kernel, rfl⟩
theorem qX12_seen_41 : Dq cX12_seen 41 (.iload_n 1) 1 42 := ⟨by decide +kernel, rfl⟩
theorem qX12_seen_42 : Dq cX12_seen 42 (.iaload) 1 43 := ⟨by decide +kernel, rfl⟩
theorem qX12_seen_43 : Dq cX12_seen 43 (.if_icmp .ge 29) 3 46 := ⟨by decide +kernel, rfl⟩
theorem qX12_seen_46 : Dq cX12_seen 46 (.aload_n 0) 1 47 := ⟨by decide +kernel, rfl⟩
theorem qX12_seen_47 : Dq cX12_seen 47 (.getfield 75) 3 50 := ⟨by decide +kernel, rfl⟩
theorem qX12_seen_50 : Dq cX12_seen 50 (.bipush 40) 2 52 := ⟨by decide +kernel, rfl⟩
theorem qX12_seen_52 : Dq cX12_seen 52 (.iload_n 1) 1 53 := ⟨by decide +kernel, rfl⟩
theorem qX12_seen_53 : Dq cX12_seen 53 (.imul) 1 54 := ⟨by decide +kernel, rfl⟩
theorem qX12_seen_54 : Dq cX12_seen 54 (.iload_n 3) 1 55 := ⟨by decide +kernel, rfl⟩
theorem qX12_seen_55 : Dq cX12_seen 55 (.iadd) 1 56 := ⟨by decide +kernel, rfl⟩
theorem qX12_seen_56 : Dq cX12_seen 56 (.iaload) 1 57 := ⟨by decide +kernel, rfl⟩
theorem qX12_seen_57 : Dq cX12_seen 57 (.invokestatic 96) 3 60 := ⟨by decide +kernel, rfl⟩
theorem qX12_seen_60 : Dq cX12_seen 60 (.ifCond .ne 6) 3 63 := ⟨by decide +kernel, rfl⟩
theorem qX12_seen_63 : Dq cX12_seen 63 (.bipush (-2)) 2 65 := ⟨by decide +kernel, rfl⟩
theorem qX12_seen_65 : Dq cX12_seen 65 (.ireturn) 1 66 := ⟨by decide +kernel, rfl⟩
theorem qX12_seen_66 : Dq cX12_seen 66 (.iinc 3 1) 3 69 := ⟨by decide +kernel, rfl⟩
theorem qX12_seen_69 : Dq cX12_seen 69 (.goto (-33)) 3 72 := ⟨by decide +kernel, rfl⟩
theorem qX12_seen_72 : Dq cX12_seen 72 (.iconst 0) 1 73 := ⟨by decide +kernel, rfl⟩
theorem qX12_seen_73 : Dq cX12_seen 73 (.istore_n 3) 1 74 := ⟨by decide +kernel, rfl⟩
theorem qX12_seen_74 : Dq cX12_seen 74 (.iload_n 3) 1 75 := ⟨by decide +kernel, rfl⟩
theorem qX12_seen_75 : Dq cX12_seen 75 (.aload_n 0) 1 76 := ⟨by decide +kernel, rfl⟩
theorem qX12_seen_76 : Dq cX12_seen 76 (.getfield 72) 3 79 := ⟨by decide +kernel, rfl⟩
theorem qX12_seen_79 : Dq cX12_seen 79 (.iload_n 1) 1 80 := ⟨by decide +kernel, rfl⟩
theorem qX12_seen_80 : Dq cX12_seen 80 (.iaload) 1 81 := ⟨by decide +kernel, rfl⟩
theorem qX12_seen_81 : Dq cX12_seen 81 (.if_icmp .ge 107) 3 84 := ⟨by decide +kernel, rfl⟩
theorem qX12_seen_84 : Dq cX12_seen 84 (.aload_n 0) 1 85 := ⟨by decide +kernel, rfl⟩
theorem qX12_seen_85 : Dq cX12_seen 85 (.getfield 75) 3 88 := ⟨by decide +kernel, rfl⟩
theorem qX12_seen_88 : Dq cX12_seen 88 (.bipush 40) 2 90 := ⟨by decide +kernel, rfl⟩
theorem qX12_seen_90 : Dq cX12_seen 90 (.iload_n 1) 1 91 := ⟨by decide +kernel, rfl⟩
theorem qX12_seen_91 : Dq cX12_seen 91 (.imul) 1 92 := ⟨by decide +kernel, rfl⟩
theorem qX12_seen_92 : Dq cX12_seen 92 (.iload_n 3) 1 93 := ⟨by decide +kernel, rfl⟩
theorem qX12_seen_93 : Dq cX12_seen 93 (.iadd) 1 94 := ⟨by decide +kernel, rfl⟩
theorem qX12_seen_94 : Dq cX12_seen 94 (.iaload) 1 95 := ⟨by decide +kernel, rfl⟩
theorem qX12_seen_95 : Dq cX12_seen 95 (.istore 4) 2 97 := ⟨by decide +kernel, rfl⟩
theorem qX12_seen_97 : Dq cX12_seen 97 (.aload_n 0) 1 98 := ⟨by decide +kernel, rfl⟩
theorem qX12_seen_98 : Dq cX12_seen 98 (.iload 4) 2 100 := ⟨by decide +kernel, rfl⟩
theorem qX12_seen_100 : Dq cX12_seen 100 (.iload_n 2) 1 101 := ⟨by decide +kernel, rfl⟩
theorem qX12_seen_101 : Dq cX12_seen 101 (.invokevirtual 338) 3 104 := ⟨by decide +kernel, rfl⟩
theorem qX12_seen_104 : Dq cX12_seen 104 (.iload 4) 2 106 := ⟨by decide +kernel, rfl⟩
theorem qX12_seen_106 : Dq cX12_seen 106 (.bipush 8) 2 108 := ⟨by decide +kernel, rfl⟩
theorem qX12_seen_108 : Dq cX12_seen 108 (.if_icmp .lt 15) 3 111 := ⟨by decide +kernel, rfl⟩
theorem qX12_seen_111 : Dq cX12_seen 111 (.aload_n 0) 1 112 := ⟨by decide +kernel, rfl⟩
theorem qX12_seen_112 : Dq cX12_seen 112 (.iload 4) 2 114 := ⟨by decide +kernel, rfl⟩
theorem qX12_seen_114 : Dq cX12_seen 114 (.bipush 8) 2 116 := ⟨by decide +kernel, rfl⟩
theorem qX12_seen_116 : Dq cX12_seen 116 (.isub) 1 117 := ⟨by decide +kernel, rfl⟩
theorem qX12_seen_117 : Dq cX12_seen 117 (.iload_n 2) 1 118 := ⟨by decide +kernel, rfl⟩
theorem qX12_seen_118 : Dq cX12_seen 118 (.iconst 2) 1 119 := ⟨by decide +kernel, rfl⟩
theorem qX12_seen_119 : Dq cX12_seen 119 (.idiv) 1 120 := ⟨by decide +kernel, rfl⟩
theorem qX12_seen_120 : Dq cX12_seen 120 (.invokevirtual 338) 3 123 := ⟨by decide +kernel, rfl⟩
theorem qX12_seen_123 : Dq cX12_seen 123 (.iload 4) 2 125 := ⟨by decide +kernel, rfl⟩
theorem qX12_seen_125 : Dq cX12_seen 125 (.bipush 40) 2 127 := ⟨by decide +kernel, rfl⟩
theorem qX12_seen_127 : Dq cX12_seen 127 (.if_icmp .ge 15) 3 130 := ⟨by decide +kernel, rfl⟩
theorem qX12_seen_130 : Dq cX12_seen 130 (.aload_n 0) 1 131 := ⟨by decide +kernel, rfl⟩
theorem qX12_seen_131 : Dq cX12_seen 131 (.iload 4) 2 133 := ⟨by decide +kernel, rfl⟩
theorem qX12_seen_133 : Dq cX12_seen 133 (.bipush 8) 2 135 := ⟨by decide +kernel, rfl⟩
theorem qX12_seen_135 : Dq cX12_seen 135 (.iadd) 1 136 := ⟨by decide +kernel, rfl⟩
theorem qX12_seen_136 : Dq cX12_seen 136 (.iload_n 2) 1 137 := ⟨by decide +kernel, rfl⟩
theorem qX12_seen_137 : Dq cX12_seen 137 (.iconst 2) 1 138 := ⟨by decide +kernel, rfl⟩
theorem qX12_seen_138 : Dq cX12_seen 138 (.idiv) 1 139 := ⟨by decide +kernel, rfl⟩
theorem qX12_seen_139 : Dq cX12_seen 139 (.invokevirtual 338) 3 142 := ⟨by decide +kernel, rfl⟩
theorem qX12_seen_142 : Dq cX12_seen 142 (.iload 4) 2 144 := ⟨by decide +kernel, rfl⟩
theorem qX12_seen_144 : Dq cX12_seen 144 (.bipush 8) 2 146 := ⟨by decide +kernel, rfl⟩
theorem qX12_seen_146 : Dq cX12_seen 146 (.irem) 1 147 := ⟨by decide +kernel, rfl⟩
theorem qX12_seen_147 : Dq cX12_seen 147 (.ifCond .le 14) 3 150 := ⟨by decide +kernel, rfl⟩
theorem qX12_seen_150 : Dq cX12_seen 150 (.aload_n 0) 1 151 := ⟨by decide +kernel, rfl⟩
theorem qX12_seen_151 : Dq cX12_seen 151 (.iload 4) 2 153 := ⟨by decide +kernel, rfl⟩
theorem qX12_seen_153 : Dq cX12_seen 153 (.iconst 1) 1 154 := ⟨by decide +kernel, rfl⟩
theorem qX12_seen_154 : Dq cX12_seen 154 (.isub) 1 155 := ⟨by decide +kernel, rfl⟩
theorem qX12_seen_155 : Dq cX12_seen 155 (.iload_n 2) 1 156 := ⟨by decide +kernel, rfl⟩
theorem qX12_seen_156 : Dq cX12_seen 156 (.iconst 2) 1 157 := ⟨by decide +kernel, rfl⟩
theorem qX12_seen_157 : Dq cX12_seen 157 (.idiv) 1 158 := ⟨by decide +kernel, rfl⟩
theorem qX12_seen_158 : Dq cX12_seen 158 (.invokevirtual 338) 3 161 := ⟨by decide +kernel, rfl⟩
theorem qX12_seen_161 : Dq cX12_seen 161 (.iload 4) 2 163 := ⟨by decide +kernel, rfl⟩
theorem qX12_seen_163 : Dq cX12_seen 163 (.bipush 8) 2 165 := ⟨by decide +kernel, rfl⟩
theorem qX12_seen_165 : Dq cX12_seen 165 (.irem) 1 166 := ⟨by decide +kernel, rfl⟩
theorem qX12_seen_166 : Dq cX12_seen 166 (.bipush 7) 2 168 := ⟨by decide +kernel, rfl⟩
theorem qX12_seen_168 : Dq cX12_seen 168 (.if_icmp .ge 14) 3 171 := ⟨by decide +kernel, rfl⟩
theorem qX12_seen_171 : Dq cX12_seen 171 (.aload_n 0) 1 172 := ⟨by decide +kernel, rfl⟩
theorem qX12_seen_172 : Dq cX12_seen 172 (.iload 4) 2 174 := ⟨by decide +kernel, rfl⟩
theorem qX12_seen_174 : Dq cX12_seen 174 (.iconst 1) 1 175 := ⟨by decide +kernel, rfl⟩
theorem qX12_seen_175 : Dq cX12_seen 175 (.iadd) 1 176 := ⟨by decide +kernel, rfl⟩
theorem qX12_seen_176 : Dq cX12_seen 176 (.iload_n 2) 1 177 := ⟨by decide +kernel, rfl⟩
theorem qX12_seen_177 : Dq cX12_seen 177 (.iconst 2) 1 178 := ⟨by decide +kernel, rfl⟩
theorem qX12_seen_178 : Dq cX12_seen 178 (.idiv) 1 179 := ⟨by decide +kernel, rfl⟩
theorem qX12_seen_179 : Dq cX12_seen 179 (.invokevirtual 338) 3 182 := ⟨by decide +kernel, rfl⟩
theorem qX12_seen_182 : Dq cX12_seen 182 (.iinc 3 1) 3 185 := ⟨by decide +kernel, rfl⟩
theorem qX12_seen_185 : Dq cX12_seen 185 (.goto (-111)) 3 188 := ⟨by decide +kernel, rfl⟩
theorem qX12_seen_188 : Dq cX12_seen 188 (.aload_n 0) 1 189 := ⟨by decide +kernel, rfl⟩
theorem qX12_seen_189 : Dq cX12_seen 189 (.getfield 72) 3 192 := ⟨by decide +kernel, rfl⟩
theorem qX12_seen_192 : Dq cX12_seen 192 (.iload_n 1) 1 193 := ⟨by decide +kernel, rfl⟩
theorem qX12_seen_193 : Dq cX12_seen 193 (.iaload) 1 194 := ⟨by decide +kernel, rfl⟩
theorem qX12_seen_194 : Dq cX12_seen 194 (.ireturn) 1 195 := ⟨by decide +kernel, rfl⟩
set_option maxRecDepth 100000 in
set_option maxHeartbeats 4000000 in
theorem m_seen {G : Glb} {h : AHp} {E : Sst} (hc : MW h E) (s w : Int32) : CP G m_X12_seen 3 0 0 [.ref 38, .int s, .int w] h (fun r h' => r = some (.int ((seenI E s w).1)) ∧ ∃ σ J, h' = mkH h σ J ∧ MW (mkH h σ J) (setB E (seenI E s w).2) ∧ K58 h σ) := by
  suffices key : ∀ P : Option Value → AHp → Prop, (∀ r h', (r = some (.int ((seenI E s w).1)) ∧ ∃ σ J, h' = mkH h σ J ∧ MW (mkH h σ J) (setB E (seenI E s w).2) ∧ K58 h σ) → P r h') → CP G m_X12_seen 3 0 0 [.ref 38, .int s, .int w] h P from key _ (fun _ _ z => z)
  intro P hP
  obtain ⟨hm, htx, hp, hb, hkp, htp, hst, hok⟩ := id hc
  have hc6 := hok.1
  have hm6 := hok.2.1
  have hkd : ∀ i, i < sM E → sK E i < 6 := fun i hi => (hok.2.2.1 i hi).1
  have hnu : ∀ i, i < sM E → inR (sN E i) 9 := fun i hi => (hok.2.2.1 i hi).2
  have hbe : BeOK (bm h) (sC E) := by rw [hb]; exact hok.2.2.2.1
  refine CP.of (by decide +kernel) (Nat.le_of_ble_eq_true rfl) fun X hX hR hnm => ?_
  show V X G 5 0 0 _ 0 [some (.ref 38), some (.int s), some (.int w), none, none] [] h
  refine v_iload_n hX rfl qX12_seen_0 ?_
  refine v_callSq hX hR k_X12_333 (m_isSheet _) rfl (Nat.le_of_ble_eq_true rfl) rfl (Nat.le_of_ble_eq_true rfl) ⟨Nat.le_of_ble_eq_true rfl, Nat.le_of_ble_eq_true rfl⟩ qX12_seen_1 ?_
  rintro _ _ ⟨rfl, rfl⟩
  first | refine v_if_eqB hX 19 qX12_seen_4 rfl (fun q4 => ?_) (fun q4 => ?_) | refine v_if_eq hX 19 qX12_seen_4 rfl (fun q4 => ?_) (fun q4 => ?_)
  · skip
    refine v_bipush hX lb_n2 qX12_seen_19 ?_
    refine v_ireturn hX qX12_seen_21 (hP _ _ ?_)
    first | (rw [seenI, if_neg (fun z => q4 z.1)]; exact ⟨rfl, h.1, h.2.2.1, rfl, hc, fun a _ => rfl⟩) | (rw [seenI, if_neg (fun z => q16 z.2)]; exact ⟨rfl, h.1, h.2.2.1, rfl, hc, fun a _ => rfl⟩)
  · skip
    refine v_iload_n hX rfl qX12_seen_7 ?_
    refine v_i2l hX qX12_seen_8 ?_
    refine v_lconst hX ll_0 qX12_seen_9 ?_
    refine v_ldc2 hX c_X12_336 qX12_seen_10 ?_
    refine v_callSq hX hR k_X12_87 (m_in _ (by exact (0)) (by exact (9999))) rfl (Nat.le_of_ble_eq_true rfl) rfl (Nat.le_of_ble_eq_true rfl) ⟨Nat.le_of_ble_eq_true rfl, Nat.le_of_ble_eq_true rfl⟩ qX12_seen_13 ?_
    rintro _ _ ⟨rfl, rfl⟩
    first | refine v_if_neB hX 22 qX12_seen_16 rfl (fun q16 => ?_) (fun q16 => ?_) | refine v_if_ne hX 22 qX12_seen_16 rfl (fun q16 => ?_) (fun q16 => ?_)
    · skip
      obtain ⟨j, hj, rfl⟩ := rng_ex 3 (by omega) q4
      obtain ⟨n, hn, rfl⟩ := rng_ex 9999 (by omega) q16
      refine v_aload_n hX rfl qX12_seen_22 ?_
      refine v_getR hX g_X12_65 (hm.kd 38 rfl) (hm.rf 15 rfl) qX12_seen_23 ?_
      refine v_iload_n hX rfl qX12_seen_26 ?_
      refine v_zaldV hX (hm.kd 54 rfl) (hm.ln 54 rfl) (by exact ix_n (n := j) (by omega) rfl) (hst j (by omega)).1 qX12_seen_27 ?_
      first | refine v_if_neB hX 34 qX12_seen_28 rfl (fun q28 => ?_) (fun q28 => ?_) | refine v_if_ne hX 34 qX12_seen_28 rfl (fun q28 => ?_) (fun q28 => ?_)
      · skip
        obtain ⟨s1, s2, s3⟩ := (hst j (by omega)).2 q28
        obtain ⟨sl40, -⟩ := hok.2.2.2.2.2.2.2 j (by omega)
        refine v_iconst hX li_0 qX12_seen_34 ?_
        refine v_istore_n hX (Nat.le_of_ble_eq_true rfl) rfl (ls' := [some _, some _, some _, some _, none]) rfl qX12_seen_35 ?_
        have L36 : ∀ (mz : Nat) (i : Nat), sL E j - i = mz → (i ≤ sL E j) → (∀ k, k < i → isC (sI' E j k)) → V X G 5 0 0 (QM X G P 0 0) 36 [some (.ref 38), some (.int (nI j)), some (.int (nI n)), some (.int (nI i)), none] [] h := by
          intro mz
          induction mz using Nat.strongRecOn with
          | _ mz ih =>
          intro i hmz hi hall
          refine v_iload_n hX rfl qX12_seen_36 ?_
          refine v_aload_n hX rfl qX12_seen_37 ?_
          refine v_getR hX g_X12_72 (hm.kd 38 rfl) (hm.rf 17 rfl) qX12_seen_38 ?_
          refine v_iload_n hX rfl qX12_seen_41 ?_
          refine v_ialdV hX (hm.kd 56 rfl) (hm.ln 56 rfl) (by exact ix_n (n := j) (by omega) rfl) s2 qX12_seen_42 ?_
          refine v_icmp_geS hX 72 qX12_seen_43 rfl (fun q43 => ?_) (fun q43 => ?_)
          · have e1 : i = sL E j := Nat.le_antisymm hi (nI_le' (by omega) (by omega) q43)
            have hany : anyB (fun i => !decide (isC (sI' E j i))) (sL E j) = false := anyB_0 _ (fun k hk => by show (!decide (isC (sI' E j k))) = false; rw [decide_eq_true (hall k (by omega))]; rfl)
            refine v_iconst hX li_0 qX12_seen_72 ?_
            refine v_istore_n hX (Nat.le_of_ble_eq_true rfl) rfl (ls' := [some _, some _, some _, some _, none]) rfl qX12_seen_73 ?_
            have L74 : ∀ (mz : Nat) (i : Nat) (σ : Nat → Nat → Int32), sL E j - i = mz → (i ≤ sL E j) → (MW (mkH h σ h.2.2.1) (setB E (snB (sB E) (sI' E j) (nI n) i))) → (∀ a k, a ≠ 42 → σ a k = hpI h a k) → V X G 5 0 0 (QM X G P 0 0) 74 [some (.ref 38), some (.int (nI j)), some (.int (nI n)), some (.int (nI i)), none] [] (mkH h σ h.2.2.1) := by
              intro mz
              induction mz using Nat.strongRecOn with
              | _ mz ih =>
              intro i σ hmz hi hm0 hf0
              refine v_iload_n hX rfl qX12_seen_74 ?_
              refine v_aload_n hX rfl qX12_seen_75 ?_
              refine v_getR hX g_X12_72 (hm.kd 38 rfl) (hm.rf 17 rfl) qX12_seen_76 ?_
              refine v_iload_n hX rfl qX12_seen_79 ?_
              refine v_ialdV hX (hm.kd 56 rfl) (hm.ln 56 rfl) (by exact ix_n (n := j) (by omega) rfl) (show _ = nI (sL E j) from (hf0 56 j (by omega)).trans s2) qX12_seen_80 ?_
              refine v_icmp_geS hX 188 qX12_seen_81 rfl (fun q81 => ?_) (fun q81 => ?_)
              · have e1 : i = sL E j := Nat.le_antisymm hi (nI_le' (by omega) (by omega) q81)
                refine v_aload_n hX rfl qX12_seen_188 ?_
                refine v_getR hX g_X12_72 (hm.kd 38 rfl) (hm.rf 17 rfl) qX12_seen_189 ?_
                refine v_iload_n hX rfl qX12_seen_192 ?_
                refine v_ialdV hX (hm.kd 56 rfl) (hm.ln 56 rfl) (by exact ix_n (n := j) (by omega) rfl) (show _ = nI (sL E j) from (hf0 56 j (by omega)).trans s2) qX12_seen_193 ?_
                refine v_ireturn hX qX12_seen_194 (hP _ _ ?_)
                rw [seenI, if_pos (show (0 ≤ nI j ∧ nI j ≤ 3) ∧ (0 ≤ nI n ∧ nI n ≤ 9999) from ⟨q4, q16⟩), tn_nI (show j < 2000000 by omega), if_neg q28, if_pos hany]
                rw [e1] at hm0
                exact ⟨rfl, σ, h.2.2.1, rfl, hm0, fun a ha => funext fun k => hf0 a k (by omega)⟩
              · have hl := nI_lt' (by omega) (by omega) q81
                obtain ⟨q, hq, eq⟩ := isC_ex (hall i (by omega))
                refine v_aload_n hX rfl qX12_seen_84 ?_
                refine v_getR hX g_X12_75 (hm.kd 38 rfl) (hm.rf 18 rfl) qX12_seen_85 ?_
                refine v_bipush hX lb_40 qX12_seen_88 ?_
                refine v_iload_n hX rfl qX12_seen_90 ?_
                refine v_imul hX qX12_seen_91 ?_
                refine v_iload_n hX rfl qX12_seen_92 ?_
                refine v_iadd hX qX12_seen_93 ?_
                refine v_eqI (show _ = nI (40 * j + i) by rw [show (40 : Int32) = nI 40 from rfl, pk_mul, nI_add]) ?_
                refine v_ialdV hX (hm.kd 57 rfl) (hm.ln 57 rfl) (by exact ix_n (n := 40 * j + i) (by omega) rfl) (show _ = nI q from (hf0 57 (40 * j + i) (by omega)).trans ((s3 i hl).trans eq)) qX12_seen_94 ?_
                refine v_istore hX (Nat.le_of_ble_eq_true rfl) rfl (ls' := [some _, some _, some _, some _, some _]) rfl qX12_seen_95 ?_
                refine v_aload_n hX rfl qX12_seen_97 ?_
                refine v_iload hX rfl qX12_seen_98 ?_
                refine v_iload_n hX rfl qX12_seen_100 ?_
                refine v_callVq hX hR k_X12_338 (hm.kd 38 rfl) (m_more (by exact hm0) (q := q) (n := n) (by omega) (by omega)) rfl (Nat.le_of_ble_eq_true rfl) rfl (Nat.le_of_ble_eq_true rfl) ⟨Nat.le_of_ble_eq_true rfl, Nat.le_of_ble_eq_true rfl⟩ qX12_seen_101 ?_
                rintro _ _ ⟨rfl, σ1, rfl, hm1, hf1⟩
                have hf1 : ∀ a k, a ≠ 42 → σ1 a k = hpI h a k := fun a k z => (hf1 a k z).trans (hf0 a k z)
                refine v_iload hX rfl qX12_seen_104 ?_
                refine v_bipush hX lb_8 qX12_seen_106 ?_
                refine v_icmp_ltS hX 123 qX12_seen_108 rfl (fun q108 => ?_) (fun q108 => ?_)
                · have hx1 : ¬ 8 ≤ q := fun z => nI_nlt z (by omega) (show nI q < nI 8 from q108)
                  have hm2 := hm1
                  have hf2 := hf1
                  refine v_iload hX rfl qX12_seen_123 ?_
                  refine v_bipush hX lb_40 qX12_seen_125 ?_
                  refine v_icmp_geS hX 142 qX12_seen_127 rfl (fun q127 => ?_) (fun q127 => ?_)
                  · have hx2 : ¬ q + 8 < 48 := fun z => nI_ge (a := q) (b := 40) (by omega) (by omega) q127
                    have hm3 := hm2
                    have hf3 := hf2
                    refine v_iload hX rfl qX12_seen_142 ?_
                    refine v_bipush hX lb_8 qX12_seen_144 ?_
                    refine v_irem hX (by decide) qX12_seen_146 ?_
                    refine v_eqI (show _ = nI (q % 8) from pk_rem (d := 8) (by omega) (by omega) (by omega)) ?_
                    refine v_if_leS hX 161 qX12_seen_147 rfl (fun q147 => ?_) (fun q147 => ?_)
                    · have hx3 : ¬ 0 < q % 8 := fun z => nI_nle z (by omega) q147
                      have hm4 := hm3
                      have hf4 := hf3
                      refine v_iload hX rfl qX12_seen_161 ?_
                      refine v_bipush hX lb_8 qX12_seen_163 ?_
                      refine v_irem hX (by decide) qX12_seen_165 ?_
                      refine v_eqI (show _ = nI (q % 8) from pk_rem (d := 8) (by omega) (by omega) (by omega)) ?_
                      refine v_bipush hX lb_7 qX12_seen_166 ?_
                      refine v_icmp_geS hX 182 qX12_seen_168 rfl (fun q168 => ?_) (fun q168 => ?_)
                      · have hx4 : ¬ q % 8 < 7 := fun z => nI_ge (a := q % 8) (b := 7) z (by omega) q168
                        have hm5 := hm4
                        have hf5 := hf4
                        refine v_iinc hX rfl (by first | exact ii_nI _ | exact ii_1 _) (Nat.le_of_ble_eq_true rfl) rfl (ls' := [some _, some _, some _, some _, some _]) rfl qX12_seen_182 ?_
                        refine v_goto hX 74 qX12_seen_185 rfl ?_
                        refine v_forget (ls' := [_, _, _, _, none]) ⟨Or.inr rfl, Or.inr rfl, Or.inr rfl, Or.inr rfl, Or.inl rfl, trivial⟩ ?_
                        exact ih _ (by omega) (i + 1) _ rfl (by omega) (by
                          have e2 : nI n / 2 = nI (n / 2) := pk_div (a := n) (d := 2) (by omega) (by omega) (by omega)
                          have e : snB (sB E) (sI' E j) (nI n) (i + 1) = picB (snB (sB E) (sI' E j) (nI n) i) q (nI n) := by show picB _ (tn (sI' E j i)) _ = _; rw [eq, tn_nI (by omega)]
                          rw [e]; unfold picB; rw [e2]; simp only [hx1, hx2, hx3, hx4, if_true, if_false]; exact hm5) hf5
                      · have hx4 : q % 8 < 7 := nI_lt' (s := 7) (by omega) (by omega) q168
                        refine v_aload_n hX rfl qX12_seen_171 ?_
                        refine v_iload hX rfl qX12_seen_172 ?_
                        refine v_iconst hX li_1 qX12_seen_174 ?_
                        refine v_iadd hX qX12_seen_175 ?_
                        refine v_eqI (nI_1 q) ?_
                        refine v_iload_n hX rfl qX12_seen_176 ?_
                        refine v_iconst hX li_2 qX12_seen_177 ?_
                        refine v_idiv hX (by decide) qX12_seen_178 ?_
                        refine v_eqI (pk_div (a := n) (d := 2) (by omega) (by omega) (by omega)) ?_
                        refine v_callVq hX hR k_X12_338 (hm.kd 38 rfl) (m_more (by exact hm4) (q := q + 1) (n := n / 2) (by omega) (by omega)) rfl (Nat.le_of_ble_eq_true rfl) rfl (Nat.le_of_ble_eq_true rfl) ⟨Nat.le_of_ble_eq_true rfl, Nat.le_of_ble_eq_true rfl⟩ qX12_seen_179 ?_
                        rintro _ _ ⟨rfl, σ5, rfl, hm5, hf5⟩
                        have hf5 : ∀ a k, a ≠ 42 → σ5 a k = hpI h a k := fun a k z => (hf5 a k z).trans (hf4 a k z)
                        refine v_iinc hX rfl (by first | exact ii_nI _ | exact ii_1 _) (Nat.le_of_ble_eq_true rfl) rfl (ls' := [some _, some _, some _, some _, some _]) rfl qX12_seen_182 ?_
                        refine v_goto hX 74 qX12_seen_185 rfl ?_
                        refine v_forget (ls' := [_, _, _, _, none]) ⟨Or.inr rfl, Or.inr rfl, Or.inr rfl, Or.inr rfl, Or.inl rfl, trivial⟩ ?_
                        exact ih _ (by omega) (i + 1) _ rfl (by omega) (by
                          have e2 : nI n / 2 = nI (n / 2) := pk_div (a := n) (d := 2) (by omega) (by omega) (by omega)
                          have e : snB (sB E) (sI' E j) (nI n) (i + 1) = picB (snB (sB E) (sI' E j) (nI n) i) q (nI n) := by show picB _ (tn (sI' E j i)) _ = _; rw [eq, tn_nI (by omega)]
                          rw [e]; unfold picB; rw [e2]; simp only [hx1, hx2, hx3, hx4, if_true, if_false]; exact hm5) hf5
                    · have hx3 : 0 < q % 8 := nI_lt' (i := 0) (by omega) (by omega) q147
                      refine v_aload_n hX rfl qX12_seen_150 ?_
                      refine v_iload hX rfl qX12_seen_151 ?_
                      refine v_iconst hX li_1 qX12_seen_153 ?_
                      refine v_isub hX qX12_seen_154 ?_
                      refine v_eqI (show _ = nI (q - 1) from pk_sub (b := 1) (by omega)) ?_
                      refine v_iload_n hX rfl qX12_seen_155 ?_
                      refine v_iconst hX li_2 qX12_seen_156 ?_
                      refine v_idiv hX (by decide) qX12_seen_157 ?_
                      refine v_eqI (pk_div (a := n) (d := 2) (by omega) (by omega) (by omega)) ?_
                      refine v_callVq hX hR k_X12_338 (hm.kd 38 rfl) (m_more (by exact hm3) (q := q - 1) (n := n / 2) (by omega) (by omega)) rfl (Nat.le_of_ble_eq_true rfl) rfl (Nat.le_of_ble_eq_true rfl) ⟨Nat.le_of_ble_eq_true rfl, Nat.le_of_ble_eq_true rfl⟩ qX12_seen_158 ?_
                      rintro _ _ ⟨rfl, σ4, rfl, hm4, hf4⟩
                      have hf4 : ∀ a k, a ≠ 42 → σ4 a k = hpI h a k := fun a k z => (hf4 a k z).trans (hf3 a k z)
                      refine v_iload hX rfl qX12_seen_161 ?_
                      refine v_bipush hX lb_8 qX12_seen_163 ?_
                      refine v_irem hX (by decide) qX12_seen_165 ?_
                      refine v_eqI (show _ = nI (q % 8) from pk_rem (d := 8) (by omega) (by omega) (by omega)) ?_
                      refine v_bipush hX lb_7 qX12_seen_166 ?_
                      refine v_icmp_geS hX 182 qX12_seen_168 rfl (fun q168 => ?_) (fun q168 => ?_)
                      · have hx4 : ¬ q % 8 < 7 := fun z => nI_ge (a := q % 8) (b := 7) z (by omega) q168
                        have hm5 := hm4
                        have hf5 := hf4
                        refine v_iinc hX rfl (by first | exact ii_nI _ | exact ii_1 _) (Nat.le_of_ble_eq_true rfl) rfl (ls' := [some _, some _, some _, some _, some _]) rfl qX12_seen_182 ?_
                        refine v_goto hX 74 qX12_seen_185 rfl ?_
                        refine v_forget (ls' := [_, _, _, _, none]) ⟨Or.inr rfl, Or.inr rfl, Or.inr rfl, Or.inr rfl, Or.inl rfl, trivial⟩ ?_
                        exact ih _ (by omega) (i + 1) _ rfl (by omega) (by
                          have e2 : nI n / 2 = nI (n / 2) := pk_div (a := n) (d := 2) (by omega) (by omega) (by omega)
                          have e : snB (sB E) (sI' E j) (nI n) (i + 1) = picB (snB (sB E) (sI' E j) (nI n) i) q (nI n) := by show picB _ (tn (sI' E j i)) _ = _; rw [eq, tn_nI (by omega)]
                          rw [e]; unfold picB; rw [e2]; simp only [hx1, hx2, hx3, hx4, if_true, if_false]; exact hm5) hf5
                      · have hx4 : q % 8 < 7 := nI_lt' (s := 7) (by omega) (by omega) q168
                        refine v_aload_n hX rfl qX12_seen_171 ?_
                        refine v_iload hX rfl qX12_seen_172 ?_
                        refine v_iconst hX li_1 qX12_seen_174 ?_
                        refine v_iadd hX qX12_seen_175 ?_
                        refine v_eqI (nI_1 q) ?_
                        refine v_iload_n hX rfl qX12_seen_176 ?_
                        refine v_iconst hX li_2 qX12_seen_177 ?_
                        refine v_idiv hX (by decide) qX12_seen_178 ?_
                        refine v_eqI (pk_div (a := n) (d := 2) (by omega) (by omega) (by omega)) ?_
                        refine v_callVq hX hR k_X12_338 (hm.kd 38 rfl) (m_more (by exact hm4) (q := q + 1) (n := n / 2) (by omega) (by omega)) rfl (Nat.le_of_ble_eq_true rfl) rfl (Nat.le_of_ble_eq_true rfl) ⟨Nat.le_of_ble_eq_true rfl, Nat.le_of_ble_eq_true rfl⟩ qX12_seen_179 ?_
                        rintro _ _ ⟨rfl, σ5, rfl, hm5, hf5⟩
                        have hf5 : ∀ a k, a ≠ 42 → σ5 a k = hpI h a k := fun a k z => (hf5 a k z).trans (hf4 a k z)
                        refine v_iinc hX rfl (by first | exact ii_nI _ | exact ii_1 _) (Nat.le_of_ble_eq_true rfl) rfl (ls' := [some _, some _, some _, some _, some _]) rfl qX12_seen_182 ?_
                        refine v_goto hX 74 qX12_seen_185 rfl ?_
                        refine v_forget (ls' := [_, _, _, _, none]) ⟨Or.inr rfl, Or.inr rfl, Or.inr rfl, Or.inr rfl, Or.inl rfl, trivial⟩ ?_
                        exact ih _ (by omega) (i + 1) _ rfl (by omega) (by
                          have e2 : nI n / 2 = nI (n / 2) := pk_div (a := n) (d := 2) (by omega) (by omega) (by omega)
                          have e : snB (sB E) (sI' E j) (nI n) (i + 1) = picB (snB (sB E) (sI' E j) (nI n) i) q (nI n) := by show picB _ (tn (sI' E j i)) _ = _; rw [eq, tn_nI (by omega)]
                          rw [e]; unfold picB; rw [e2]; simp only [hx1, hx2, hx3, hx4, if_true, if_false]; exact hm5) hf5
                  · have hx2 : q + 8 < 48 := by have := nI_lt' (i := q) (s := 40) (by omega) (by omega) q127; omega
                    refine v_aload_n hX rfl qX12_seen_130 ?_
                    refine v_iload hX rfl qX12_seen_131 ?_
                    refine v_bipush hX lb_8 qX12_seen_133 ?_
                    refine v_iadd hX qX12_seen_135 ?_
                    refine v_eqI (show _ = nI (q + 8) from nI_add q 8) ?_
                    refine v_iload_n hX rfl qX12_seen_136 ?_
                    refine v_iconst hX li_2 qX12_seen_137 ?_
                    refine v_idiv hX (by decide) qX12_seen_138 ?_
                    refine v_eqI (pk_div (a := n) (d := 2) (by omega) (by omega) (by omega)) ?_
                    refine v_callVq hX hR k_X12_338 (hm.kd 38 rfl) (m_more (by exact hm2) (q := q + 8) (n := n / 2) (by omega) (by omega)) rfl (Nat.le_of_ble_eq_true rfl) rfl (Nat.le_of_ble_eq_true rfl) ⟨Nat.le_of_ble_eq_true rfl, Nat.le_of_ble_eq_true rfl⟩ qX12_seen_139 ?_
                    rintro _ _ ⟨rfl, σ3, rfl, hm3, hf3⟩
                    have hf3 : ∀ a k, a ≠ 42 → σ3 a k = hpI h a k := fun a k z => (hf3 a k z).trans (hf2 a k z)
                    refine v_iload hX rfl qX12_seen_142 ?_
                    refine v_bipush hX lb_8 qX12_seen_144 ?_
                    refine v_irem hX (by decide) qX12_seen_146 ?_
                    refine v_eqI (show _ = nI (q % 8) from pk_rem (d := 8) (by omega) (by omega) (by omega)) ?_
                    refine v_if_leS hX 161 qX12_seen_147 rfl (fun q147 => ?_) (fun q147 => ?_)
                    · have hx3 : ¬ 0 < q % 8 := fun z => nI_nle z (by omega) q147
                      have hm4 := hm3
                      have hf4 := hf3
                      refine v_iload hX rfl qX12_seen_161 ?_
                      refine v_bipush hX lb_8 qX12_seen_163 ?_
                      refine v_irem hX (by decide) qX12_seen_165 ?_
                      refine v_eqI (show _ = nI (q % 8) from pk_rem (d := 8) (by omega) (by omega) (by omega)) ?_
                      refine v_bipush hX lb_7 qX12_seen_166 ?_
                      refine v_icmp_geS hX 182 qX12_seen_168 rfl (fun q168 => ?_) (fun q168 => ?_)
                      · have hx4 : ¬ q % 8 < 7 := fun z => nI_ge (a := q % 8) (b := 7) z (by omega) q168
                        have hm5 := hm4
                        have hf5 := hf4
                        refine v_iinc hX rfl (by first | exact ii_nI _ | exact ii_1 _) (Nat.le_of_ble_eq_true rfl) rfl (ls' := [some _, some _, some _, some _, some _]) rfl qX12_seen_182 ?_
                        refine v_goto hX 74 qX12_seen_185 rfl ?_
                        refine v_forget (ls' := [_, _, _, _, none]) ⟨Or.inr rfl, Or.inr rfl, Or.inr rfl, Or.inr rfl, Or.inl rfl, trivial⟩ ?_
                        exact ih _ (by omega) (i + 1) _ rfl (by omega) (by
                          have e2 : nI n / 2 = nI (n / 2) := pk_div (a := n) (d := 2) (by omega) (by omega) (by omega)
                          have e : snB (sB E) (sI' E j) (nI n) (i + 1) = picB (snB (sB E) (sI' E j) (nI n) i) q (nI n) := by show picB _ (tn (sI' E j i)) _ = _; rw [eq, tn_nI (by omega)]
                          rw [e]; unfold picB; rw [e2]; simp only [hx1, hx2, hx3, hx4, if_true, if_false]; exact hm5) hf5
                      · have hx4 : q % 8 < 7 := nI_lt' (s := 7) (by omega) (by omega) q168
                        refine v_aload_n hX rfl qX12_seen_171 ?_
                        refine v_iload hX rfl qX12_seen_172 ?_
                        refine v_iconst hX li_1 qX12_seen_174 ?_
                        refine v_iadd hX qX12_seen_175 ?_
                        refine v_eqI (nI_1 q) ?_
                        refine v_iload_n hX rfl qX12_seen_176 ?_
                        refine v_iconst hX li_2 qX12_seen_177 ?_
                        refine v_idiv hX (by decide) qX12_seen_178 ?_
                        refine v_eqI (pk_div (a := n) (d := 2) (by omega) (by omega) (by omega)) ?_
                        refine v_callVq hX hR k_X12_338 (hm.kd 38 rfl) (m_more (by exact hm4) (q := q + 1) (n := n / 2) (by omega) (by omega)) rfl (Nat.le_of_ble_eq_true rfl) rfl (Nat.le_of_ble_eq_true rfl) ⟨Nat.le_of_ble_eq_true rfl, Nat.le_of_ble_eq_true rfl⟩ qX12_seen_179 ?_
                        rintro _ _ ⟨rfl, σ5, rfl, hm5, hf5⟩
                        have hf5 : ∀ a k, a ≠ 42 → σ5 a k = hpI h a k := fun a k z => (hf5 a k z).trans (hf4 a k z)
                        refine v_iinc hX rfl (by first | exact ii_nI _ | exact ii_1 _) (Nat.le_of_ble_eq_true rfl) rfl (ls' := [some _, some _, some _, some _, some _]) rfl qX12_seen_182 ?_
                        refine v_goto hX 74 qX12_seen_185 rfl ?_
                        refine v_forget (ls' := [_, _, _, _, none]) ⟨Or.inr rfl, Or.inr rfl, Or.inr rfl, Or.inr rfl, Or.inl rfl, trivial⟩ ?_
                        exact ih _ (by omega) (i + 1) _ rfl (by omega) (by
                          have e2 : nI n / 2 = nI (n / 2) := pk_div (a := n) (d := 2) (by omega) (by omega) (by omega)
                          have e : snB (sB E) (sI' E j) (nI n) (i + 1) = picB (snB (sB E) (sI' E j) (nI n) i) q (nI n) := by show picB _ (tn (sI' E j i)) _ = _; rw [eq, tn_nI (by omega)]
                          rw [e]; unfold picB; rw [e2]; simp only [hx1, hx2, hx3, hx4, if_true, if_false]; exact hm5) hf5
                    · have hx3 : 0 < q % 8 := nI_lt' (i := 0) (by omega) (by omega) q147
                      refine v_aload_n hX rfl qX12_seen_150 ?_
                      refine v_iload hX rfl qX12_seen_151 ?_
                      refine v_iconst hX li_1 qX12_seen_153 ?_
                      refine v_isub hX qX12_seen_154 ?_
                      refine v_eqI (show _ = nI (q - 1) from pk_sub (b := 1) (by omega)) ?_
                      refine v_iload_n hX rfl qX12_seen_155 ?_
                      refine v_iconst hX li_2 qX12_seen_156 ?_
                      refine v_idiv hX (by decide) qX12_seen_157 ?_
                      refine v_eqI (pk_div (a := n) (d := 2) (by omega) (by omega) (by omega)) ?_
                      refine v_callVq hX hR k_X12_338 (hm.kd 38 rfl) (m_more (by exact hm3) (q := q - 1) (n := n / 2) (by omega) (by omega)) rfl (Nat.le_of_ble_eq_true rfl) rfl (Nat.le_of_ble_eq_true rfl) ⟨Nat.le_of_ble_eq_true rfl, Nat.le_of_ble_eq_true rfl⟩ qX12_seen_158 ?_
                      rintro _ _ ⟨rfl, σ4, rfl, hm4, hf4⟩
                      have hf4 : ∀ a k, a ≠ 42 → σ4 a k = hpI h a k := fun a k z => (hf4 a k z).trans (hf3 a k z)
                      refine v_iload hX rfl qX12_seen_161 ?_
                      refine v_bipush hX lb_8 qX12_seen_163 ?_
                      refine v_irem hX (by decide) qX12_seen_165 ?_
                      refine v_eqI (show _ = nI (q % 8) from pk_rem (d := 8) (by omega) (by omega) (by omega)) ?_
                      refine v_bipush hX lb_7 qX12_seen_166 ?_
                      refine v_icmp_geS hX 182 qX12_seen_168 rfl (fun q168 => ?_) (fun q168 => ?_)
                      · have hx4 : ¬ q % 8 < 7 := fun z => nI_ge (a := q % 8) (b := 7) z (by omega) q168
                        have hm5 := hm4
                        have hf5 := hf4
                        refine v_iinc hX rfl (by first | exact ii_nI _ | exact ii_1 _) (Nat.le_of_ble_eq_true rfl) rfl (ls' := [some _, some _, some _, some _, some _]) rfl qX12_seen_182 ?_
                        refine v_goto hX 74 qX12_seen_185 rfl ?_
                        refine v_forget (ls' := [_, _, _, _, none]) ⟨Or.inr rfl, Or.inr rfl, Or.inr rfl, Or.inr rfl, Or.inl rfl, trivial⟩ ?_
                        exact ih _ (by omega) (i + 1) _ rfl (by omega) (by
                          have e2 : nI n / 2 = nI (n / 2) := pk_div (a := n) (d := 2) (by omega) (by omega) (by omega)
                          have e : snB (sB E) (sI' E j) (nI n) (i + 1) = picB (snB (sB E) (sI' E j) (nI n) i) q (nI n) := by show picB _ (tn (sI' E j i)) _ = _; rw [eq, tn_nI (by omega)]
                          rw [e]; unfold picB; rw [e2]; simp only [hx1, hx2, hx3, hx4, if_true, if_false]; exact hm5) hf5
                      · have hx4 : q % 8 < 7 := nI_lt' (s := 7) (by omega) (by omega) q168
                        refine v_aload_n hX rfl qX12_seen_171 ?_
                        refine v_iload hX rfl qX12_seen_172 ?_
                        refine v_iconst hX li_1 qX12_seen_174 ?_
                        refine v_iadd hX qX12_seen_175 ?_
                        refine v_eqI (nI_1 q) ?_
                        refine v_iload_n hX rfl qX12_seen_176 ?_
                        refine v_iconst hX li_2 qX12_seen_177 ?_
                        refine v_idiv hX (by decide) qX12_seen_178 ?_
                        refine v_eqI (pk_div (a := n) (d := 2) (by omega) (by omega) (by omega)) ?_
                        refine v_callVq hX hR k_X12_338 (hm.kd 38 rfl) (m_more (by exact hm4) (q := q + 1) (n := n / 2) (by omega) (by omega)) rfl (Nat.le_of_ble_eq_true rfl) rfl (Nat.le_of_ble_eq_true rfl) ⟨Nat.le_of_ble_eq_true rfl, Nat.le_of_ble_eq_true rfl⟩ qX12_seen_179 ?_
                        rintro _ _ ⟨rfl, σ5, rfl, hm5, hf5⟩
                        have hf5 : ∀ a k, a ≠ 42 → σ5 a k = hpI h a k := fun a k z => (hf5 a k z).trans (hf4 a k z)
                        refine v_iinc hX rfl (by first | exact ii_nI _ | exact ii_1 _) (Nat.le_of_ble_eq_true rfl) rfl (ls' := [some _, some _, some _, some _, some _]) rfl qX12_seen_182 ?_
                        refine v_goto hX 74 qX12_seen_185 rfl ?_
                        refine v_forget (ls' := [_, _, _, _, none]) ⟨Or.inr rfl, Or.inr rfl, Or.inr rfl, Or.inr rfl, Or.inl rfl, trivial⟩ ?_
                        exact ih _ (by omega) (i + 1) _ rfl (by omega) (by
                          have e2 : nI n / 2 = nI (n / 2) := pk_div (a := n) (d := 2) (by omega) (by omega) (by omega)
                          have e : snB (sB E) (sI' E j) (nI n) (i + 1) = picB (snB (sB E) (sI' E j) (nI n) i) q (nI n) := by show picB _ (tn (sI' E j i)) _ = _; rw [eq, tn_nI (by omega)]
                          rw [e]; unfold picB; rw [e2]; simp only [hx1, hx2, hx3, hx4, if_true, if_false]; exact hm5) hf5
                · have hx1 : 8 ≤ q := nI_le' (i := 8) (by omega) (by omega) q108
                  refine v_aload_n hX rfl qX12_seen_111 ?_
                  refine v_iload hX rfl qX12_seen_112 ?_
                  refine v_bipush hX lb_8 qX12_seen_114 ?_
                  refine v_isub hX qX12_seen_116 ?_
                  refine v_eqI (show _ = nI (q - 8) from pk_sub hx1) ?_
                  refine v_iload_n hX rfl qX12_seen_117 ?_
                  refine v_iconst hX li_2 qX12_seen_118 ?_
                  refine v_idiv hX (by decide) qX12_seen_119 ?_
                  refine v_eqI (pk_div (a := n) (d := 2) (by omega) (by omega) (by omega)) ?_
                  refine v_callVq hX hR k_X12_338 (hm.kd 38 rfl) (m_more (by exact hm1) (q := q - 8) (n := n / 2) (by omega) (by omega)) rfl (Nat.le_of_ble_eq_true rfl) rfl (Nat.le_of_ble_eq_true rfl) ⟨Nat.le_of_ble_eq_true rfl, Nat.le_of_ble_eq_true rfl⟩ qX12_seen_120 ?_
                  rintro _ _ ⟨rfl, σ2, rfl, hm2, hf2⟩
                  have hf2 : ∀ a k, a ≠ 42 → σ2 a k = hpI h a k := fun a k z => (hf2 a k z).trans (hf1 a k z)
                  refine v_iload hX rfl qX12_seen_123 ?_
                  refine v_bipush hX lb_40 qX12_seen_125 ?_
                  refine v_icmp_geS hX 142 qX12_seen_127 rfl (fun q127 => ?_) (fun q127 => ?_)
                  · have hx2 : ¬ q + 8 < 48 := fun z => nI_ge (a := q) (b := 40) (by omega) (by omega) q127
                    have hm3 := hm2
                    have hf3 := hf2
                    refine v_iload hX rfl qX12_seen_142 ?_
                    refine v_bipush hX lb_8 qX12_seen_144 ?_
                    refine v_irem hX (by decide) qX12_seen_146 ?_
                    refine v_eqI (show _ = nI (q % 8) from pk_rem (d := 8) (by omega) (by omega) (by omega)) ?_
                    refine v_if_leS hX 161 qX12_seen_147 rfl (fun q147 => ?_) (fun q147 => ?_)
                    · have hx3 : ¬ 0 < q % 8 := fun z => nI_nle z (by omega) q147
                      have hm4 := hm3
                      have hf4 := hf3
                      refine v_iload hX rfl qX12_seen_161 ?_
                      refine v_bipush hX lb_8 qX12_seen_163 ?_
                      refine v_irem hX (by decide) qX12_seen_165 ?_
                      refine v_eqI (show _ = nI (q % 8) from pk_rem (d := 8) (by omega) (by omega) (by omega)) ?_
                      refine v_bipush hX lb_7 qX12_seen_166 ?_
                      refine v_icmp_geS hX 182 qX12_seen_168 rfl (fun q168 => ?_) (fun q168 => ?_)
                      · have hx4 : ¬ q % 8 < 7 := fun z => nI_ge (a := q % 8) (b := 7) z (by omega) q168
                        have hm5 := hm4
                        have hf5 := hf4
                        refine v_iinc hX rfl (by first | exact ii_nI _ | exact ii_1 _) (Nat.le_of_ble_eq_true rfl) rfl (ls' := [some _, some _, some _, some _, some _]) rfl qX12_seen_182 ?_
                        refine v_goto hX 74 qX12_seen_185 rfl ?_
                        refine v_forget (ls' := [_, _, _, _, none]) ⟨Or.inr rfl, Or.inr rfl, Or.inr rfl, Or.inr rfl, Or.inl rfl, trivial⟩ ?_
                        exact ih _ (by omega) (i + 1) _ rfl (by omega) (by
                          have e2 : nI n / 2 = nI (n / 2) := pk_div (a := n) (d := 2) (by omega) (by omega) (by omega)
                          have e : snB (sB E) (sI' E j) (nI n) (i + 1) = picB (snB (sB E) (sI' E j) (nI n) i) q (nI n) := by show picB _ (tn (sI' E j i)) _ = _; rw [eq, tn_nI (by omega)]
                          rw [e]; unfold picB; rw [e2]; simp only [hx1, hx2, hx3, hx4, if_true, if_false]; exact hm5) hf5
                      · have hx4 : q % 8 < 7 := nI_lt' (s := 7) (by omega) (by omega) q168
                        refine v_aload_n hX rfl qX12_seen_171 ?_
                        refine v_iload hX rfl qX12_seen_172 ?_
                        refine v_iconst hX li_1 qX12_seen_174 ?_
                        refine v_iadd hX qX12_seen_175 ?_
                        refine v_eqI (nI_1 q) ?_
                        refine v_iload_n hX rfl qX12_seen_176 ?_
                        refine v_iconst hX li_2 qX12_seen_177 ?_
                        refine v_idiv hX (by decide) qX12_seen_178 ?_
                        refine v_eqI (pk_div (a := n) (d := 2) (by omega) (by omega) (by omega)) ?_
                        refine v_callVq hX hR k_X12_338 (hm.kd 38 rfl) (m_more (by exact hm4) (q := q + 1) (n := n / 2) (by omega) (by omega)) rfl (Nat.le_of_ble_eq_true rfl) rfl (Nat.le_of_ble_eq_true rfl) ⟨Nat.le_of_ble_eq_true rfl, Nat.le_of_ble_eq_true rfl⟩ qX12_seen_179 ?_
                        rintro _ _ ⟨rfl, σ5, rfl, hm5, hf5⟩
                        have hf5 : ∀ a k, a ≠ 42 → σ5 a k = hpI h a k := fun a k z => (hf5 a k z).trans (hf4 a k z)
                        refine v_iinc hX rfl (by first | exact ii_nI _ | exact ii_1 _) (Nat.le_of_ble_eq_true rfl) rfl (ls' := [some _, some _, some _, some _, some _]) rfl qX12_seen_182 ?_
                        refine v_goto hX 74 qX12_seen_185 rfl ?_
                        refine v_forget (ls' := [_, _, _, _, none]) ⟨Or.inr rfl, Or.inr rfl, Or.inr rfl, Or.inr rfl, Or.inl rfl, trivial⟩ ?_
                        exact ih _ (by omega) (i + 1) _ rfl (by omega) (by
                          have e2 : nI n / 2 = nI (n / 2) := pk_div (a := n) (d := 2) (by omega) (by omega) (by omega)
                          have e : snB (sB E) (sI' E j) (nI n) (i + 1) = picB (snB (sB E) (sI' E j) (nI n) i) q (nI n) := by show picB _ (tn (sI' E j i)) _ = _; rw [eq, tn_nI (by omega)]
                          rw [e]; unfold picB; rw [e2]; simp only [hx1, hx2, hx3, hx4, if_true, if_false]; exact hm5) hf5
                    · have hx3 : 0 < q % 8 := nI_lt' (i := 0) (by omega) (by omega) q147
                      refine v_aload_n hX rfl qX12_seen_150 ?_
                      refine v_iload hX rfl qX12_seen_151 ?_
                      refine v_iconst hX li_1 qX12_seen_153 ?_
                      refine v_isub hX qX12_seen_154 ?_
                      refine v_eqI (show _ = nI (q - 1) from pk_sub (b := 1) (by omega)) ?_
                      refine v_iload_n hX rfl qX12_seen_155 ?_
                      refine v_iconst hX li_2 qX12_seen_156 ?_
                      refine v_idiv hX (by decide) qX12_seen_157 ?_
                      refine v_eqI (pk_div (a := n) (d := 2) (by omega) (by omega) (by omega)) ?_
                      refine v_callVq hX hR k_X12_338 (hm.kd 38 rfl) (m_more (by exact hm3) (q := q - 1) (n := n / 2) (by omega) (by omega)) rfl (Nat.le_of_ble_eq_true rfl) rfl (Nat.le_of_ble_eq_true rfl) ⟨Nat.le_of_ble_eq_true rfl, Nat.le_of_ble_eq_true rfl⟩ qX12_seen_158 ?_
                      rintro _ _ ⟨rfl, σ4, rfl, hm4, hf4⟩
                      have hf4 : ∀ a k, a ≠ 42 → σ4 a k = hpI h a k := fun a k z => (hf4 a k z).trans (hf3 a k z)
                      refine v_iload hX rfl qX12_seen_161 ?_
                      refine v_bipush hX lb_8 qX12_seen_163 ?_
                      refine v_irem hX (by decide) qX12_seen_165 ?_
                      refine v_eqI (show _ = nI (q % 8) from pk_rem (d := 8) (by omega) (by omega) (by omega)) ?_
                      refine v_bipush hX lb_7 qX12_seen_166 ?_
                      refine v_icmp_geS hX 182 qX12_seen_168 rfl (fun q168 => ?_) (fun q168 => ?_)
                      · have hx4 : ¬ q % 8 < 7 := fun z => nI_ge (a := q % 8) (b := 7) z (by omega) q168
                        have hm5 := hm4
                        have hf5 := hf4
                        refine v_iinc hX rfl (by first | exact ii_nI _ | exact ii_1 _) (Nat.le_of_ble_eq_true rfl) rfl (ls' := [some _, some _, some _, some _, some _]) rfl qX12_seen_182 ?_
                        refine v_goto hX 74 qX12_seen_185 rfl ?_
                        refine v_forget (ls' := [_, _, _, _, none]) ⟨Or.inr rfl, Or.inr rfl, Or.inr rfl, Or.inr rfl, Or.inl rfl, trivial⟩ ?_
                        exact ih _ (by omega) (i + 1) _ rfl (by omega) (by
                          have e2 : nI n / 2 = nI (n / 2) := pk_div (a := n) (d := 2) (by omega) (by omega) (by omega)
                          have e : snB (sB E) (sI' E j) (nI n) (i + 1) = picB (snB (sB E) (sI' E j) (nI n) i) q (nI n) := by show picB _ (tn (sI' E j i)) _ = _; rw [eq, tn_nI (by omega)]
                          rw [e]; unfold picB; rw [e2]; simp only [hx1, hx2, hx3, hx4, if_true, if_false]; exact hm5) hf5
                      · have hx4 : q % 8 < 7 := nI_lt' (s := 7) (by omega) (by omega) q168
                        refine v_aload_n hX rfl qX12_seen_171 ?_
                        refine v_iload hX rfl qX12_seen_172 ?_
                        refine v_iconst hX li_1 qX12_seen_174 ?_
                        refine v_iadd hX qX12_seen_175 ?_
                        refine v_eqI (nI_1 q) ?_
                        refine v_iload_n hX rfl qX12_seen_176 ?_
                        refine v_iconst hX li_2 qX12_seen_177 ?_
                        refine v_idiv hX (by decide) qX12_seen_178 ?_
                        refine v_eqI (pk_div (a := n) (d := 2) (by omega) (by omega) (by omega)) ?_
                        refine v_callVq hX hR k_X12_338 (hm.kd 38 rfl) (m_more (by exact hm4) (q := q + 1) (n := n / 2) (by omega) (by omega)) rfl (Nat.le_of_ble_eq_true rfl) rfl (Nat.le_of_ble_eq_true rfl) ⟨Nat.le_of_ble_eq_true rfl, Nat.le_of_ble_eq_true rfl⟩ qX12_seen_179 ?_
                        rintro _ _ ⟨rfl, σ5, rfl, hm5, hf5⟩
                        have hf5 : ∀ a k, a ≠ 42 → σ5 a k = hpI h a k := fun a k z => (hf5 a k z).trans (hf4 a k z)
                        refine v_iinc hX rfl (by first | exact ii_nI _ | exact ii_1 _) (Nat.le_of_ble_eq_true rfl) rfl (ls' := [some _, some _, some _, some _, some _]) rfl qX12_seen_182 ?_
                        refine v_goto hX 74 qX12_seen_185 rfl ?_
                        refine v_forget (ls' := [_, _, _, _, none]) ⟨Or.inr rfl, Or.inr rfl, Or.inr rfl, Or.inr rfl, Or.inl rfl, trivial⟩ ?_
                        exact ih _ (by omega) (i + 1) _ rfl (by omega) (by
                          have e2 : nI n / 2 = nI (n / 2) := pk_div (a := n) (d := 2) (by omega) (by omega) (by omega)
                          have e : snB (sB E) (sI' E j) (nI n) (i + 1) = picB (snB (sB E) (sI' E j) (nI n) i) q (nI n) := by show picB _ (tn (sI' E j i)) _ = _; rw [eq, tn_nI (by omega)]
                          rw [e]; unfold picB; rw [e2]; simp only [hx1, hx2, hx3, hx4, if_true, if_false]; exact hm5) hf5
                  · have hx2 : q + 8 < 48 := by have := nI_lt' (i := q) (s := 40) (by omega) (by omega) q127; omega
                    refine v_aload_n hX rfl qX12_seen_130 ?_
                    refine v_iload hX rfl qX12_seen_131 ?_
                    refine v_bipush hX lb_8 qX12_seen_133 ?_
                    refine v_iadd hX qX12_seen_135 ?_
                    refine v_eqI (show _ = nI (q + 8) from nI_add q 8) ?_
                    refine v_iload_n hX rfl qX12_seen_136 ?_
                    refine v_iconst hX li_2 qX12_seen_137 ?_
                    refine v_idiv hX (by decide) qX12_seen_138 ?_
                    refine v_eqI (pk_div (a := n) (d := 2) (by omega) (by omega) (by omega)) ?_
                    refine v_callVq hX hR k_X12_338 (hm.kd 38 rfl) (m_more (by exact hm2) (q := q + 8) (n := n / 2) (by omega) (by omega)) rfl (Nat.le_of_ble_eq_true rfl) rfl (Nat.le_of_ble_eq_true rfl) ⟨Nat.le_of_ble_eq_true rfl, Nat.le_of_ble_eq_true rfl⟩ qX12_seen_139 ?_
                    rintro _ _ ⟨rfl, σ3, rfl, hm3, hf3⟩
                    have hf3 : ∀ a k, a ≠ 42 → σ3 a k = hpI h a k := fun a k z => (hf3 a k z).trans (hf2 a k z)
                    refine v_iload hX rfl qX12_seen_142 ?_
                    refine v_bipush hX lb_8 qX12_seen_144 ?_
                    refine v_irem hX (by decide) qX12_seen_146 ?_
                    refine v_eqI (show _ = nI (q % 8) from pk_rem (d := 8) (by omega) (by omega) (by omega)) ?_
                    refine v_if_leS hX 161 qX12_seen_147 rfl (fun q147 => ?_) (fun q147 => ?_)
                    · have hx3 : ¬ 0 < q % 8 := fun z => nI_nle z (by omega) q147
                      have hm4 := hm3
                      have hf4 := hf3
                      refine v_iload hX rfl qX12_seen_161 ?_
                      refine v_bipush hX lb_8 qX12_seen_163 ?_
                      refine v_irem hX (by decide) qX12_seen_165 ?_
                      refine v_eqI (show _ = nI (q % 8) from pk_rem (d := 8) (by omega) (by omega) (by omega)) ?_
                      refine v_bipush hX lb_7 qX12_seen_166 ?_
                      refine v_icmp_geS hX 182 qX12_seen_168 rfl (fun q168 => ?_) (fun q168 => ?_)
                      · have hx4 : ¬ q % 8 < 7 := fun z => nI_ge (a := q % 8) (b := 7) z (by omega) q168
                        have hm5 := hm4
                        have hf5 := hf4
                        refine v_iinc hX rfl (by first | exact ii_nI _ | exact ii_1 _) (Nat.le_of_ble_eq_true rfl) rfl (ls' := [some _, some _, some _, some _, some _]) rfl qX12_seen_182 ?_
                        refine v_goto hX 74 qX12_seen_185 rfl ?_
                        refine v_forget (ls' := [_, _, _, _, none]) ⟨Or.inr rfl, Or.inr rfl, Or.inr rfl, Or.inr rfl, Or.inl rfl, trivial⟩ ?_
                        exact ih _ (by omega) (i + 1) _ rfl (by omega) (by
                          have e2 : nI n / 2 = nI (n / 2) := pk_div (a := n) (d := 2) (by omega) (by omega) (by omega)
                          have e : snB (sB E) (sI' E j) (nI n) (i + 1) = picB (snB (sB E) (sI' E j) (nI n) i) q (nI n) := by show picB _ (tn (sI' E j i)) _ = _; rw [eq, tn_nI (by omega)]
                          rw [e]; unfold picB; rw [e2]; simp only [hx1, hx2, hx3, hx4, if_true, if_false]; exact hm5) hf5
                      · have hx4 : q % 8 < 7 := nI_lt' (s := 7) (by omega) (by omega) q168
                        refine v_aload_n hX rfl qX12_seen_171 ?_
                        refine v_iload hX rfl qX12_seen_172 ?_
                        refine v_iconst hX li_1 qX12_seen_174 ?_
                        refine v_iadd hX qX12_seen_175 ?_
                        refine v_eqI (nI_1 q) ?_
                        refine v_iload_n hX rfl qX12_seen_176 ?_
                        refine v_iconst hX li_2 qX12_seen_177 ?_
                        refine v_idiv hX (by decide) qX12_seen_178 ?_
                        refine v_eqI (pk_div (a := n) (d := 2) (by omega) (by omega) (by omega)) ?_
                        refine v_callVq hX hR k_X12_338 (hm.kd 38 rfl) (m_more (by exact hm4) (q := q + 1) (n := n / 2) (by omega) (by omega)) rfl (Nat.le_of_ble_eq_true rfl) rfl (Nat.le_of_ble_eq_true rfl) ⟨Nat.le_of_ble_eq_true rfl, Nat.le_of_ble_eq_true rfl⟩ qX12_seen_179 ?_
                        rintro _ _ ⟨rfl, σ5, rfl, hm5, hf5⟩
                        have hf5 : ∀ a k, a ≠ 42 → σ5 a k = hpI h a k := fun a k z => (hf5 a k z).trans (hf4 a k z)
                        refine v_iinc hX rfl (by first | exact ii_nI _ | exact ii_1 _) (Nat.le_of_ble_eq_true rfl) rfl (ls' := [some _, some _, some _, some _, some _]) rfl qX12_seen_182 ?_
                        refine v_goto hX 74 qX12_seen_185 rfl ?_
                        refine v_forget (ls' := [_, _, _, _, none]) ⟨Or.inr rfl, Or.inr rfl, Or.inr rfl, Or.inr rfl, Or.inl rfl, trivial⟩ ?_
                        exact ih _ (by omega) (i + 1) _ rfl (by omega) (by
                          have e2 : nI n / 2 = nI (n / 2) := pk_div (a := n) (d := 2) (by omega) (by omega) (by omega)
                          have e : snB (sB E) (sI' E j) (nI n) (i + 1) = picB (snB (sB E) (sI' E j) (nI n) i) q (nI n) := by show picB _ (tn (sI' E j i)) _ = _; rw [eq, tn_nI (by omega)]
                          rw [e]; unfold picB; rw [e2]; simp only [hx1, hx2, hx3, hx4, if_true, if_false]; exact hm5) hf5
                    · have hx3 : 0 < q % 8 := nI_lt' (i := 0) (by omega) (by omega) q147
                      refine v_aload_n hX rfl qX12_seen_150 ?_
                      refine v_iload hX rfl qX12_seen_151 ?_
                      refine v_iconst hX li_1 qX12_seen_153 ?_
                      refine v_isub hX qX12_seen_154 ?_
                      refine v_eqI (show _ = nI (q - 1) from pk_sub (b := 1) (by omega)) ?_
                      refine v_iload_n hX rfl qX12_seen_155 ?_
                      refine v_iconst hX li_2 qX12_seen_156 ?_
                      refine v_idiv hX (by decide) qX12_seen_157 ?_
                      refine v_eqI (pk_div (a := n) (d := 2) (by omega) (by omega) (by omega)) ?_
                      refine v_callVq hX hR k_X12_338 (hm.kd 38 rfl) (m_more (by exact hm3) (q := q - 1) (n := n / 2) (by omega) (by omega)) rfl (Nat.le_of_ble_eq_true rfl) rfl (Nat.le_of_ble_eq_true rfl) ⟨Nat.le_of_ble_eq_true rfl, Nat.le_of_ble_eq_true rfl⟩ qX12_seen_158 ?_
                      rintro _ _ ⟨rfl, σ4, rfl, hm4, hf4⟩
                      have hf4 : ∀ a k, a ≠ 42 → σ4 a k = hpI h a k := fun a k z => (hf4 a k z).trans (hf3 a k z)
                      refine v_iload hX rfl qX12_seen_161 ?_
                      refine v_bipush hX lb_8 qX12_seen_163 ?_
                      refine v_irem hX (by decide) qX12_seen_165 ?_
                      refine v_eqI (show _ = nI (q % 8) from pk_rem (d := 8) (by omega) (by omega) (by omega)) ?_
                      refine v_bipush hX lb_7 qX12_seen_166 ?_
                      refine v_icmp_geS hX 182 qX12_seen_168 rfl (fun q168 => ?_) (fun q168 => ?_)
                      · have hx4 : ¬ q % 8 < 7 := fun z => nI_ge (a := q % 8) (b := 7) z (by omega) q168
                        have hm5 := hm4
                        have hf5 := hf4
                        refine v_iinc hX rfl (by first | exact ii_nI _ | exact ii_1 _) (Nat.le_of_ble_eq_true rfl) rfl (ls' := [some _, some _, some _, some _, some _]) rfl qX12_seen_182 ?_
                        refine v_goto hX 74 qX12_seen_185 rfl ?_
                        refine v_forget (ls' := [_, _, _, _, none]) ⟨Or.inr rfl, Or.inr rfl, Or.inr rfl, Or.inr rfl, Or.inl rfl, trivial⟩ ?_
                        exact ih _ (by omega) (i + 1) _ rfl (by omega) (by
                          have e2 : nI n / 2 = nI (n / 2) := pk_div (a := n) (d := 2) (by omega) (by omega) (by omega)
                          have e : snB (sB E) (sI' E j) (nI n) (i + 1) = picB (snB (sB E) (sI' E j) (nI n) i) q (nI n) := by show picB _ (tn (sI' E j i)) _ = _; rw [eq, tn_nI (by omega)]
                          rw [e]; unfold picB; rw [e2]; simp only [hx1, hx2, hx3, hx4, if_true, if_false]; exact hm5) hf5
                      · have hx4 : q % 8 < 7 := nI_lt' (s := 7) (by omega) (by omega) q168
                        refine v_aload_n hX rfl qX12_seen_171 ?_
                        refine v_iload hX rfl qX12_seen_172 ?_
                        refine v_iconst hX li_1 qX12_seen_174 ?_
                        refine v_iadd hX qX12_seen_175 ?_
                        refine v_eqI (nI_1 q) ?_
                        refine v_iload_n hX rfl qX12_seen_176 ?_
                        refine v_iconst hX li_2 qX12_seen_177 ?_
                        refine v_idiv hX (by decide) qX12_seen_178 ?_
                        refine v_eqI (pk_div (a := n) (d := 2) (by omega) (by omega) (by omega)) ?_
                        refine v_callVq hX hR k_X12_338 (hm.kd 38 rfl) (m_more (by exact hm4) (q := q + 1) (n := n / 2) (by omega) (by omega)) rfl (Nat.le_of_ble_eq_true rfl) rfl (Nat.le_of_ble_eq_true rfl) ⟨Nat.le_of_ble_eq_true rfl, Nat.le_of_ble_eq_true rfl⟩ qX12_seen_179 ?_
                        rintro _ _ ⟨rfl, σ5, rfl, hm5, hf5⟩
                        have hf5 : ∀ a k, a ≠ 42 → σ5 a k = hpI h a k := fun a k z => (hf5 a k z).trans (hf4 a k z)
                        refine v_iinc hX rfl (by first | exact ii_nI _ | exact ii_1 _) (Nat.le_of_ble_eq_true rfl) rfl (ls' := [some _, some _, some _, some _, some _]) rfl qX12_seen_182 ?_
                        refine v_goto hX 74 qX12_seen_185 rfl ?_
                        refine v_forget (ls' := [_, _, _, _, none]) ⟨Or.inr rfl, Or.inr rfl, Or.inr rfl, Or.inr rfl, Or.inl rfl, trivial⟩ ?_
                        exact ih _ (by omega) (i + 1) _ rfl (by omega) (by
                          have e2 : nI n / 2 = nI (n / 2) := pk_div (a := n) (d := 2) (by omega) (by omega) (by omega)
                          have e : snB (sB E) (sI' E j) (nI n) (i + 1) = picB (snB (sB E) (sI' E j) (nI n) i) q (nI n) := by show picB _ (tn (sI' E j i)) _ = _; rw [eq, tn_nI (by omega)]
                          rw [e]; unfold picB; rw [e2]; simp only [hx1, hx2, hx3, hx4, if_true, if_false]; exact hm5) hf5
            exact L74 _ 0 h.1 rfl (by omega) hc (fun a k _ => rfl)
          · have hl := nI_lt' (by omega) (by omega) q43
            refine v_aload_n hX rfl qX12_seen_46 ?_
            refine v_getR hX g_X12_75 (hm.kd 38 rfl) (hm.rf 18 rfl) qX12_seen_47 ?_
            refine v_bipush hX lb_40 qX12_seen_50 ?_
            refine v_iload_n hX rfl qX12_seen_52 ?_
            refine v_imul hX qX12_seen_53 ?_
            refine v_iload_n hX rfl qX12_seen_54 ?_
            refine v_iadd hX qX12_seen_55 ?_
            refine v_eqI (show _ = nI (40 * j + i) by rw [show (40 : Int32) = nI 40 from rfl, pk_mul, nI_add]) ?_
            refine v_ialdV hX (hm.kd 57 rfl) (hm.ln 57 rfl) (by exact ix_n (n := 40 * j + i) (by omega) rfl) (s3 i hl) qX12_seen_56 ?_
            refine v_callSq hX hR k_X12_96 (m_isCell _) rfl (Nat.le_of_ble_eq_true rfl) rfl (Nat.le_of_ble_eq_true rfl) ⟨Nat.le_of_ble_eq_true rfl, Nat.le_of_ble_eq_true rfl⟩ qX12_seen_57 ?_
            rintro _ _ ⟨rfl, rfl⟩
            first | refine v_if_neB hX 66 qX12_seen_60 rfl (fun q60 => ?_) (fun q60 => ?_) | refine v_if_ne hX 66 qX12_seen_60 rfl (fun q60 => ?_) (fun q60 => ?_)
            · skip
              refine v_iinc hX rfl (by first | exact ii_nI _ | exact ii_1 _) (Nat.le_of_ble_eq_true rfl) rfl (ls' := [some _, some _, some _, some _, none]) rfl qX12_seen_66 ?_
              refine v_goto hX 36 qX12_seen_69 rfl ?_
              exact ih _ (by omega) (i + 1) rfl (by omega) (fun k hk => by
                by_cases e : k = i
                · subst e; exact q60
                · exact hall k (by omega))
            · skip
              refine v_bipush hX lb_n2 qX12_seen_63 ?_
              refine v_ireturn hX qX12_seen_65 (hP _ _ ?_)
              rw [seenI, if_pos (show (0 ≤ nI j ∧ nI j ≤ 3) ∧ (0 ≤ nI n ∧ nI n ≤ 9999) from ⟨q4, q16⟩), tn_nI (show j < 2000000 by omega), if_neg q28, if_neg (by rw [anyB_t hl (by show (!decide (isC (sI' E j i))) = true; rw [decide_eq_false q60]; rfl)]; decide)]
              exact ⟨rfl, h.1, h.2.2.1, rfl, hc, fun a _ => rfl⟩
        exact L36 _ 0 rfl (by omega) (fun k hk => absurd hk (by omega))
      · skip
        refine v_bipush hX lb_n11 qX12_seen_31 ?_
        refine v_ireturn hX qX12_seen_33 (hP _ _ ?_)
        rw [seenI, if_pos (show (0 ≤ nI j ∧ nI j ≤ 3) ∧ (0 ≤ nI n ∧ nI n ≤ 9999) from ⟨q4, q16⟩), tn_nI (show j < 2000000 by omega), if_pos (Classical.byContradiction q28)]
        exact ⟨rfl, h.1, h.2.2.1, rfl, hc, fun a _ => rfl⟩
    · skip
      refine v_bipush hX lb_n2 qX12_seen_19 ?_
      refine v_ireturn hX qX12_seen_21 (hP _ _ ?_)
      first | (rw [seenI, if_neg (fun z => q4 z.1)]; exact ⟨rfl, h.1, h.2.2.1, rfl, hc, fun a _ => rfl⟩) | (rw [seenI, if_neg (fun z => q16 z.2)]; exact ⟨rfl, h.1, h.2.2.1, rfl, hc, fun a _ => rfl⟩)
theorem qX12_crowd_0 : Dq cX12_crowd 0 (.iload_n 1) 1 1 := ⟨by decide +kernel, rfl⟩
theorem qX12_crowd_1 : Dq cX12_crowd 1 (.invokestatic 96) 3 4 := ⟨by decide +kernel, rfl⟩
theorem qX12_crowd_4 : Dq cX12_crowd 4 (.ifCond .eq 27) 3 7 := ⟨by decide +kernel, rfl⟩
theorem qX12_crowd_7 : Dq cX12_crowd 7 (.iload_n 2) 1 8 := ⟨by decide +kernel, rfl⟩
theorem qX12_crowd_8 : Dq cX12_crowd 8 (.i2l) 1 9 := ⟨by decide +kernel, rfl⟩
theorem qX12_crowd_9 : Dq cX12_crowd 9 (.lconst 1) 1 10 := ⟨by decide +kernel, rfl⟩
theorem qX12_crowd_10 : Dq cX12_crowd 10 (.ldc2_w 341) 3 13 := ⟨by decide +kernel, rfl⟩
theorem qX12_crowd_13 : Dq cX12_crowd 13 (.invokestatic 87) 3 16 := ⟨by decide +kernel, rfl⟩
theorem qX12_crowd_16 : Dq cX12_crowd 16 (.ifCond .eq 15) 3 19 := ⟨by decide +kernel, rfl⟩
theorem qX12_crowd_19 : Dq cX12_crowd 19 (.iload_n 3) 1 20 := ⟨by decide +kernel, rfl⟩
theorem qX12_crowd_20 : Dq cX12_crowd 20 (.i2l) 1 21 := ⟨by decide +kernel, rfl⟩
theorem qX12_crowd_21 : Dq cX12_crowd 21 (.lconst 1) 1 22 := ⟨by decide +kernel, rfl⟩
theorem qX12_crowd_22 : Dq cX12_crowd 22 (.ldc2_w 100) 3 25 := ⟨by decide +kernel, rfl⟩
theorem qX12_crowd_25 : Dq cX12_crowd 25 (.invokestatic 87) 3 28 := ⟨by decide +kernel, rfl⟩
theorem qX12_crowd_28 : Dq cX12_crowd 28 (.ifCond .ne 6) 3 31 := ⟨by decide +kernel, rfl⟩
theorem qX12_crowd_31 : Dq cX12_crowd 31 (.bipush (-2)) 2 33 := ⟨by decide +kernel, rfl⟩
theorem qX12_crowd_33 : Dq cX12_crowd 33 (.ireturn) 1 34 := ⟨by decide +kernel, rfl⟩
theorem qX12_crowd_34 : Dq cX12_crowd 34 (.iconst 0) 1 35 := ⟨by decide +kernel, rfl⟩
theorem qX12_crowd_35 : Dq cX12_crowd 35 (.istore 4) 2 37 := ⟨by decide +kernel, rfl⟩
theorem qX12_crowd_37 : Dq cX12_crowd 37 (.iload 4) 2 39 := ⟨by decide +kernel, rfl⟩
theorem qX12_crowd_39 : Dq cX12_crowd 39 (.iload_n 2) 1 40 := ⟨by decide +kernel, rfl⟩
theorem qX12_crowd_40 : Dq cX12_crowd 40 (.if_icmp .ge 47) 3 43 := ⟨by decide +kernel, rfl⟩
theorem qX12_crowd_43 : Dq cX12_crowd 43 (.iload_n 1) 1 44 := ⟨by decide +kernel, rfl⟩
theorem qX12_crowd_44 : Dq cX12_crowd 44 (.bipush 8) 2 46 := ⟨by decide +kernel, rfl⟩
theorem qX12_crowd_46 : Dq cX12_crowd 46 (.irem) 1 47 := ⟨by decide +kernel, rfl⟩
theorem qX12_crowd_47 : Dq cX12_crowd 47 (.iload 4) 2 49 := ⟨by decide +kernel, rfl⟩
theorem qX12_crowd_49 : Dq cX12_crowd 49 (.iadd) 1 50 := ⟨by decide +kernel, rfl⟩
theorem qX12_crowd_50 : Dq cX12_crowd 50 (.bipush 8) 2 52 := ⟨by decide +kernel, rfl⟩
theorem qX12_crowd_52 : Dq cX12_crowd 52 (.if_icmp .ge 35) 3 55 := ⟨by decide +kernel, rfl⟩
theorem qX12_crowd_55 : Dq cX12_crowd 55 (.aload_n 0) 1 56 := ⟨by decide +kernel, rfl⟩
theorem qX12_crowd_56 : Dq cX12_crowd 56 (.getfield 26) 3 59 := ⟨by decide +kernel, rfl⟩
theorem qX12_crowd_59 : Dq cX12_crowd 59 (.iload_n 1) 1 60 := ⟨by decide +kernel, rfl⟩
theorem qX12_crowd_60 : Dq cX12_crowd 60 (.iload 4) 2 62 := ⟨by decide +kernel, rfl⟩
theorem qX12_crowd_62 : Dq cX12_crowd 62 (.iadd) 1 63 := ⟨by decide +kernel, rfl⟩
theorem qX12_crowd_63 : Dq cX12_crowd 63 (.aload_n 0) 1 64 := ⟨by decide +kernel, rfl⟩
theorem qX12_crowd_64 : Dq cX12_crowd 64 (.getfield 26) 3 67 := ⟨by decide +kernel, rfl⟩
theorem qX12_crowd_67 : Dq cX12_crowd 67 (.iload_n 1) 1 68 := ⟨by decide +kernel, rfl⟩
theorem qX12_crowd_68 : Dq cX12_crowd 68 (.iload 4) 2 70 := ⟨by decide +kernel, rfl⟩
theorem qX12_crowd_70 : Dq cX12_crowd 70 (.iadd) 1 71 := ⟨by decide +kernel, rfl⟩
theorem qX12_crowd_71 : Dq cX12_crowd 71 (.iaload) 1 72 := ⟨by decide +kernel, rfl⟩
theorem qX12_crowd_72 : Dq cX12_crowd 72 (.iload_n 3) 1 73 := ⟨by decide +kernel, rfl⟩
theorem qX12_crowd_73 : Dq cX12_crowd 73 (.iadd) 1 74 := ⟨by decide +kernel, rfl⟩
theorem qX12_crowd_74 : Dq cX12_crowd 74 (.iconst 0) 1 75 := ⟨by decide +kernel, rfl⟩
theorem qX12_crowd_75 : Dq cX12_crowd 75 (.bipush 99) 2 77 := ⟨by decide +kernel, rfl⟩
theorem qX12_crowd_77 : Dq cX12_crowd 77 (.invokestatic 246) 3 80 := ⟨by decide +kernel, rfl⟩
theorem qX12_crowd_80 : Dq cX12_crowd 80 (.iastore) 1 81 := ⟨by decide +kernel, rfl⟩
theorem qX12_crowd_81 : Dq cX12_crowd 81 (.iinc 4 1) 3 84 := ⟨by decide +kernel, rfl⟩
theorem qX12_crowd_84 : Dq cX12_crowd 84 (.goto (-47)) 3 87 := ⟨by decide +kernel, rfl⟩
theorem qX12_crowd_87 : Dq cX12_crowd 87 (.iload 4) 2 89 := ⟨by decide +kernel, rfl⟩
theorem qX12_crowd_89 : Dq cX12_crowd 89 (.ireturn) 1 90 := ⟨by decide +kernel, rfl⟩
set_option maxRecDepth 100000 in
set_option maxHeartbeats 4000000 in
theorem m_crowd {G : Glb} {h : AHp} {E : Sst} (hc : MW h E) (c nn tt : Int32) : CP G m_X12_crowd 3 0 0 [.ref 38, .int c, .int nn, .int tt] h (fun r h' => r = some (.int ((crowdI (sB E) c nn tt).1)) ∧ ∃ σ J, h' = mkH h σ J ∧ MW (mkH h σ J) (setB E (crowdI (sB E) c nn tt).2) ∧ K58 h σ) := by
  suffices key : ∀ P : Option Value → AHp → Prop, (∀ r h', (r = some (.int ((crowdI (sB E) c nn tt).1)) ∧ ∃ σ J, h' = mkH h σ J ∧ MW (mkH h σ J) (setB E (crowdI (sB E) c nn tt).2) ∧ K58 h σ) → P r h') → CP G m_X12_crowd 3 0 0 [.ref 38, .int c, .int nn, .int tt] h P from key _ (fun _ _ z => z)
  intro P hP
  obtain ⟨hm, htx, hp, hb, hkp, htp, hst, hok⟩ := id hc
  have hc6 := hok.1
  have hm6 := hok.2.1
  have hkd : ∀ i, i < sM E → sK E i < 6 := fun i hi => (hok.2.2.1 i hi).1
  have hnu : ∀ i, i < sM E → inR (sN E i) 9 := fun i hi => (hok.2.2.1 i hi).2
  have hbe : BeOK (bm h) (sC E) := by rw [hb]; exact hok.2.2.2.1
  refine CP.of (by decide +kernel) (Nat.le_of_ble_eq_true rfl) fun X hX hR hnm => ?_
  show V X G 5 0 0 _ 0 [some (.ref 38), some (.int c), some (.int nn), some (.int tt), none] [] h
  refine v_iload_n hX rfl qX12_crowd_0 ?_
  refine v_callSq hX hR k_X12_96 (m_isCell _) rfl (Nat.le_of_ble_eq_true rfl) rfl (Nat.le_of_ble_eq_true rfl) ⟨Nat.le_of_ble_eq_true rfl, Nat.le_of_ble_eq_true rfl⟩ qX12_crowd_1 ?_
  rintro _ _ ⟨rfl, rfl⟩
  first | refine v_if_eqB hX 31 qX12_crowd_4 rfl (fun q4 => ?_) (fun q4 => ?_) | refine v_if_eq hX 31 qX12_crowd_4 rfl (fun q4 => ?_) (fun q4 => ?_)
  · skip
    refine v_bipush hX lb_n2 qX12_crowd_31 ?_
    refine v_ireturn hX qX12_crowd_33 (hP _ _ ?_)
    first | (rw [crowdI, if_neg (fun z => q4 z.1)]; exact ⟨rfl, h.1, h.2.2.1, rfl, hc, fun a _ => rfl⟩) | (rw [crowdI, if_neg (fun z => q16 z.2.1)]; exact ⟨rfl, h.1, h.2.2.1, rfl, hc, fun a _ => rfl⟩) | (rw [crowdI, if_neg (fun z => q28 z.2.2)]; exact ⟨rfl, h.1, h.2.2.1, rfl, hc, fun a _ => rfl⟩)
  · obtain ⟨q, hq, rfl⟩ := isC_ex q4
    refine v_iload_n hX rfl qX12_crowd_7 ?_
    refine v_i2l hX qX12_crowd_8 ?_
    refine v_lconst hX ll_1 qX12_crowd_9 ?_
    refine v_ldc2 hX c_X12_341 qX12_crowd_10 ?_
    refine v_callSq hX hR k_X12_87 (m_in _ (by exact (1)) (by exact (8))) rfl (Nat.le_of_ble_eq_true rfl) rfl (Nat.le_of_ble_eq_true rfl) ⟨Nat.le_of_ble_eq_true rfl, Nat.le_of_ble_eq_true rfl⟩ qX12_crowd_13 ?_
    rintro _ _ ⟨rfl, rfl⟩
    first | refine v_if_eqB hX 31 qX12_crowd_16 rfl (fun q16 => ?_) (fun q16 => ?_) | refine v_if_eq hX 31 qX12_crowd_16 rfl (fun q16 => ?_) (fun q16 => ?_)
    · skip
      refine v_bipush hX lb_n2 qX12_crowd_31 ?_
      refine v_ireturn hX qX12_crowd_33 (hP _ _ ?_)
      first | (rw [crowdI, if_neg (fun z => q4 z.1)]; exact ⟨rfl, h.1, h.2.2.1, rfl, hc, fun a _ => rfl⟩) | (rw [crowdI, if_neg (fun z => q16 z.2.1)]; exact ⟨rfl, h.1, h.2.2.1, rfl, hc, fun a _ => rfl⟩) | (rw [crowdI, if_neg (fun z => q28 z.2.2)]; exact ⟨rfl, h.1, h.2.2.1, rfl, hc, fun a _ => rfl⟩)
    · skip
      refine v_iload_n hX rfl qX12_crowd_19 ?_
      refine v_i2l hX qX12_crowd_20 ?_
      refine v_lconst hX ll_1 qX12_crowd_21 ?_
      refine v_ldc2 hX c_X12_100 qX12_crowd_22 ?_
      refine v_callSq hX hR k_X12_87 (m_in _ (by exact (1)) (by exact (99))) rfl (Nat.le_of_ble_eq_true rfl) rfl (Nat.le_of_ble_eq_true rfl) ⟨Nat.le_of_ble_eq_true rfl, Nat.le_of_ble_eq_true rfl⟩ qX12_crowd_25 ?_
      rintro _ _ ⟨rfl, rfl⟩
      first | refine v_if_neB hX 34 qX12_crowd_28 rfl (fun q28 => ?_) (fun q28 => ?_) | refine v_if_ne hX 34 qX12_crowd_28 rfl (fun q28 => ?_) (fun q28 => ?_)
      · skip
        obtain ⟨n, hn, rfl⟩ := rng_ex 8 (by omega) ⟨Int32.le_trans (by decide) q16.1, q16.2⟩
        obtain ⟨t, ht, rfl⟩ := rng_ex 99 (by omega) ⟨Int32.le_trans (by decide) q28.1, q28.2⟩
        refine v_iconst hX li_0 qX12_crowd_34 ?_
        refine v_istore hX (Nat.le_of_ble_eq_true rfl) rfl (ls' := [some _, some _, some _, some _, some _]) rfl qX12_crowd_35 ?_
        have L37 : ∀ (mz : Nat) (i : Nat) (σ : Nat → Nat → Int32), 8 - i = mz → (i ≤ min n (8 - q % 8)) → (MW (mkH h σ h.2.2.1) (setB E (crB (sB E) q (nI t) i))) → (∀ a k, a ≠ 43 → σ a k = hpI h a k) → V X G 5 0 0 (QM X G P 0 0) 37 [some (.ref 38), some (.int (nI q)), some (.int (nI n)), some (.int (nI t)), some (.int (nI i))] [] (mkH h σ h.2.2.1) := by
          intro mz
          induction mz using Nat.strongRecOn with
          | _ mz ih =>
          intro i σ hmz hi hcv hf
          refine v_iload hX rfl qX12_crowd_37 ?_
          refine v_iload_n hX rfl qX12_crowd_39 ?_
          refine v_icmp_geS hX 87 qX12_crowd_40 rfl (fun q40 => ?_) (fun q40 => ?_)
          · have e1 : i = min n (8 - q % 8) := by have := nI_le' (i := n) (s := i) (by omega) (by omega) q40; omega
            refine v_iload hX rfl qX12_crowd_87 ?_
            refine v_ireturn hX qX12_crowd_89 (hP _ _ ?_)
            rw [crowdI, if_pos (show isC (nI q) ∧ ((1 ≤ nI n ∧ nI n ≤ 8) ∧ (1 ≤ nI t ∧ nI t ≤ 99)) from ⟨isCn hq, q16, q28⟩), tn_nI (show q < 2000000 by omega), tn_nI (show n < 2000000 by omega), ← e1]
            exact ⟨rfl, σ, h.2.2.1, rfl, hcv, fun a ha => funext fun k => hf a k (by omega)⟩
          · have hl : i < n := nI_lt' (by omega) (by omega) q40
            refine v_iload_n hX rfl qX12_crowd_43 ?_
            refine v_bipush hX lb_8 qX12_crowd_44 ?_
            refine v_irem hX (by decide) qX12_crowd_46 ?_
            refine v_eqI (show _ = nI (q % 8) from pk_rem (d := 8) (by omega) (by omega) (by omega)) ?_
            refine v_iload hX rfl qX12_crowd_47 ?_
            refine v_iadd hX qX12_crowd_49 ?_
            refine v_eqI (nI_add _ _) ?_
            refine v_bipush hX lb_8 qX12_crowd_50 ?_
            refine v_icmp_geS hX 87 qX12_crowd_52 rfl (fun q52 => ?_) (fun q52 => ?_)
            · have e1 : i = min n (8 - q % 8) := by have := nI_le' (i := 8) (s := q % 8 + i) (by omega) (by omega) q52; omega
              refine v_iload hX rfl qX12_crowd_87 ?_
              refine v_ireturn hX qX12_crowd_89 (hP _ _ ?_)
              rw [crowdI, if_pos (show isC (nI q) ∧ ((1 ≤ nI n ∧ nI n ≤ 8) ∧ (1 ≤ nI t ∧ nI t ≤ 99)) from ⟨isCn hq, q16, q28⟩), tn_nI (show q < 2000000 by omega), tn_nI (show n < 2000000 by omega), ← e1]
              exact ⟨rfl, σ, h.2.2.1, rfl, hcv, fun a ha => funext fun k => hf a k (by omega)⟩
            · have hl2 : q % 8 + i < 8 := nI_lt' (i := q % 8 + i) (s := 8) (by omega) (by omega) q52
              obtain ⟨x, hx, ex⟩ := (hcv.2.2.2.2.2.2.2.2.2.2.1.2.1 (q + i) (by omega)).ex (by omega)
              have ex : crB (sB E) q (nI t) i 2 (q + i) = nI x := ex
              refine v_aload_n hX rfl qX12_crowd_55 ?_
              refine v_getR hX g_X12_26 (hm.kd 38 rfl) (hm.rf 4 rfl) qX12_crowd_56 ?_
              refine v_iload_n hX rfl qX12_crowd_59 ?_
              refine v_iload hX rfl qX12_crowd_60 ?_
              refine v_iadd hX qX12_crowd_62 ?_
              refine v_eqI (nI_add q i) ?_
              refine v_aload_n hX rfl qX12_crowd_63 ?_
              refine v_getR hX g_X12_26 (hm.kd 38 rfl) (hm.rf 4 rfl) qX12_crowd_64 ?_
              refine v_iload_n hX rfl qX12_crowd_67 ?_
              refine v_iload hX rfl qX12_crowd_68 ?_
              refine v_iadd hX qX12_crowd_70 ?_
              refine v_eqI (nI_add q i) ?_
              refine v_ialdV hX (hm.kd 43 rfl) (hm.ln 43 rfl) (by exact ix_n (n := q + i) (by omega) rfl) (show _ = nI x by rw [← ex]; have z := congrFun (congrFun hcv.2.2.2.1 2) (q + i); rw [bm2 (by omega)] at z; exact z) qX12_crowd_71 ?_
              refine v_iload_n hX rfl qX12_crowd_72 ?_
              refine v_iadd hX qX12_crowd_73 ?_
              refine v_eqI (nI_add _ _) ?_
              refine v_iconst hX li_0 qX12_crowd_74 ?_
              refine v_bipush hX lb_99 qX12_crowd_75 ?_
              refine v_callSq hX hR k_X12_246 (m_within _ _ _) rfl (Nat.le_of_ble_eq_true rfl) rfl (Nat.le_of_ble_eq_true rfl) ⟨Nat.le_of_ble_eq_true rfl, Nat.le_of_ble_eq_true rfl⟩ qX12_crowd_77 ?_
              rintro _ _ ⟨rfl, rfl⟩
              refine v_eqI (wi_mnG (j := x + t) (n := 99) (by omega) (by omega)) ?_
              refine v_iastJ hX (hm.kd 43 rfl) (hm.ln 43 rfl) (by exact ix_n (n := q + i) (by omega) rfl) qX12_crowd_80 ?_
              refine v_iinc hX rfl (by first | exact ii_nI _ | exact ii_1 _) (Nat.le_of_ble_eq_true rfl) rfl (ls' := [some _, some _, some _, some _, some _]) rfl qX12_crowd_81 ?_
              refine v_goto hX 37 qX12_crowd_84 rfl ?_
              exact ih _ (by omega) (i + 1) (stI (mkH h σ h.2.2.1) 43 (q + i) (mnI (nI 99) (nI (x + t)))).1 rfl (by omega) (by
                have e : crB (sB E) q (nI t) (i + 1) = up2 (crB (sB E) q (nI t) i) 2 (q + i) (mnI (nI 99) (nI (x + t))) := by
                  show up2 (crB (sB E) q (nI t) i) 2 (q + i) (mnI 99 (crB (sB E) q (nI t) i 2 (q + i) + nI t)) = _
                  rw [ex, nI_add]; rfl
                rw [e]
                exact MW.st hcv (Or.inl (Or.inr rfl)) (by rw [bm_u2 (by omega), hcv.2.2.2.1]) (hcv.2.2.2.2.2.2.2.2.2.2.1.t (mnI_in (n := 99) (j := x + t) (by omega) (by omega) rfl).1)) (fun a k ha => by show hpI (stI _ _ _ _) _ _ = _; rw [hpI_st, if_neg (fun z => ha z.1)]; exact hf a k ha)
        exact L37 _ 0 h.1 rfl (by omega) hc (fun a k _ => rfl)
      · skip
        refine v_bipush hX lb_n2 qX12_crowd_31 ?_
        refine v_ireturn hX qX12_crowd_33 (hP _ _ ?_)
        first | (rw [crowdI, if_neg (fun z => q4 z.1)]; exact ⟨rfl, h.1, h.2.2.1, rfl, hc, fun a _ => rfl⟩) | (rw [crowdI, if_neg (fun z => q16 z.2.1)]; exact ⟨rfl, h.1, h.2.2.1, rfl, hc, fun a _ => rfl⟩) | (rw [crowdI, if_neg (fun z => q28 z.2.2)]; exact ⟨rfl, h.1, h.2.2.1, rfl, hc, fun a _ => rfl⟩)
