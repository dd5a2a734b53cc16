/-! the reference: contracts over MW; its beach changed; public calls most, drawn, count, set, looker -/
section MWR
variable {G : Glb} {h : AHp} {E : Sst}
theorem MW.be (hc : MW h E) : BeOK (bm h) (sC E) := by rw [hc.2.2.2.1]; exact hc.2.2.2.2.2.2.2.2.2.2.1
theorem MW.kd6 (hc : MW h E) : ∀ i, i < sM E → sK E i < 6 := fun i hi => (hc.2.2.2.2.2.2.2.2.2.1 i hi).1
theorem mw_isUnder (hc : MW h E) {q : Nat} (hq : q < 48) : CP G m_X12_isUnder 62 0 0 [.ref 38, .int (nI q)] h (fun r h' => r = some (.int (bz (¬ seB (sT E) (sB E) q = 0))) ∧ ∃ σ J, h' = mkH h σ J ∧ FrR h σ J) := by
  have z := m_isUnder (G := G) hc.1 hc.2.1 hc.2.2.2.2.2.2.2.1 hc.be hq
  rw [hc.2.2.2.1] at z
  exact z
theorem mw_deep (hc : MW h E) {q : Nat} (hq : q < 48) : CP G m_X12_deep 62 0 0 [.ref 38, .int (nI q)] h (fun r h' => r = some (.int (dpB (sT E) (sB E) q)) ∧ ∃ σ J, h' = mkH h σ J ∧ FrR h σ J) := by
  have z := m_deep (G := G) hc.1 hc.2.1 hc.2.2.2.2.2.2.2.1 hc.be hq
  rw [hc.2.2.2.1] at z
  exact z
theorem mw_shine (hc : MW h E) {q : Nat} (hq : q < 48) : CP G m_X12_shine 63 0 0 [.ref 38, .int (nI q)] h (fun r h' => r = some (.int (shB (sT E) (sB E) q)) ∧ ∃ σ J, h' = mkH h σ J ∧ FrR h σ J) := by
  have z := m_shine (G := G) hc.1 hc.2.1 hc.2.2.2.2.2.2.2.1 hc.be hq
  rw [hc.2.2.2.1] at z
  exact z
theorem mw_good (hc : MW h E) {l q : Nat} (hl : l < sM E) (hq : q < 48) : CP G m_X12_good 64 0 0 [.ref 38, .int (nI l), .int (nI q)] h (fun r h' => r = some (.int (goodB (sT E) (sB E) (sK E l) (sN E l) q)) ∧ ∃ σ J, h' = mkH h σ J ∧ FrR h σ J) := by
  have z := m_good (G := G) hc.1 hc.2.1 hc.2.2.2.2.2.2.2.1 hc.be hc.2.2.1 hc.2.2.2.2.2.2.2.2.1 hc.kd6 hl hq
  rw [hc.2.2.2.1] at z
  exact z
theorem mw_gain (hc : MW h E) {l q : Nat} (hl : l < sM E) (hq : q < 48) : CP G m_X12_gain 65 0 0 [.ref 38, .int (nI l), .int (nI q)] h (fun r h' => r = some (.int (gainB (sT E) (sB E) (sK E l) (sN E l) q)) ∧ ∃ σ J, h' = mkH h σ J ∧ FrR h σ J) := by
  have z := m_gain (G := G) hc.1 hc.2.1 hc.2.2.2.2.2.2.2.1 hc.be hc.2.2.1 hc.2.2.2.2.2.2.2.2.1 hc.kd6 hl hq
  rw [hc.2.2.2.1] at z
  exact z
theorem PtM.ext {h' : AHp} {m : Nat} {kd : Nat → Nat} {nu : Nat → Int32} (hp : PtM h m kd nu) (h1 : hpI h' 38 14 = hpI h 38 14) (h2 : ∀ i, hpI h' 44 i = hpI h 44 i) (h3 : ∀ i, hpI h' 45 i = hpI h 45 i) : PtM h' m kd nu := ⟨h1.trans hp.1, fun i hi => ⟨(h2 i).trans (hp.2 i hi).1, (h3 i).trans (hp.2 i hi).2⟩⟩
theorem bm_0 {i k : Nat} (ho : ¬ okI i k) : bm h i k = 0 := if_neg (fun z => ho (okB_iff.mp z))
theorem bm_is {b : Bch} (h1 : ∀ k, k < 48 → hpI h 42 k = b 1 k) (h2 : ∀ k, k < 48 → hpI h 43 k = b 2 k) (h3 : hpI h 38 9 = b 0 2) (h4 : hpI h 38 10 = b 0 3) (h5 : hpI h 38 11 = b 0 4) (h6 : hpI h 38 4 = b 0 5) (h7 : ∀ i k, ¬ okI i k → b i k = 0) : bm h = b := by
  funext i k
  unfold bm
  by_cases ho : okB i k = true
  · rw [if_pos ho]
    rcases okB_iff.mp ho with ⟨rfl | rfl, hk⟩ | ⟨rfl, hk, hk2⟩
    · exact h1 k hk
    · exact h2 k hk
    · have hk3 : k = 2 ∨ k = 3 ∨ k = 4 ∨ k = 5 := by omega
      rcases hk3 with rfl | rfl | rfl | rfl
      · exact h3
      · exact h4
      · exact h5
      · exact h6
  · rw [if_neg ho, h7 i k (fun z => ho (okB_iff.mpr z))]
theorem bm_u1 {q : Nat} {v : Int32} (hq : q < 48) : bm (stI h 42 q v) = up2 (bm h) 1 q v := by
  refine bm_is (fun k hk => ?_) (fun k hk => ?_) ?_ ?_ ?_ ?_ (fun i k ho => ?_)
  · by_cases e : k = q
    · subst e; rw [up2_at, hpI_st, if_pos ⟨rfl, rfl⟩]
    · rw [up2_ne (fun z => e z.2), bm1 hk, hpI_st, if_neg (fun z => e z.2)]
  · rw [up2_ne (by omega), bm2 hk, hpI_st, if_neg (by omega)]
  · rw [up2_ne (by omega), bmB, hpI_st, if_neg (by omega)]
  · rw [up2_ne (by omega), bmH, hpI_st, if_neg (by omega)]
  · rw [up2_ne (by omega), bmN, hpI_st, if_neg (by omega)]
  · rw [up2_ne (by omega), bmR, hpI_st, if_neg (by omega)]
  · rw [up2_ne (fun z => ho (Or.inl ⟨Or.inl z.1, by omega⟩)), bm_0 ho]
theorem bm_u2 {q : Nat} {v : Int32} (hq : q < 48) : bm (stI h 43 q v) = up2 (bm h) 2 q v := by
  refine bm_is (fun k hk => ?_) (fun k hk => ?_) ?_ ?_ ?_ ?_ (fun i k ho => ?_)
  · rw [up2_ne (by omega), bm1 hk, hpI_st, if_neg (by omega)]
  · by_cases e : k = q
    · subst e; rw [up2_at, hpI_st, if_pos ⟨rfl, rfl⟩]
    · rw [up2_ne (fun z => e z.2), bm2 hk, hpI_st, if_neg (fun z => e z.2)]
  · rw [up2_ne (by omega), bmB, hpI_st, if_neg (by omega)]
  · rw [up2_ne (by omega), bmH, hpI_st, if_neg (by omega)]
  · rw [up2_ne (by omega), bmN, hpI_st, if_neg (by omega)]
  · rw [up2_ne (by omega), bmR, hpI_st, if_neg (by omega)]
  · rw [up2_ne (fun z => ho (Or.inl ⟨Or.inr z.1, by omega⟩)), bm_0 ho]
theorem bm_uB {v : Int32} : bm (stI h 38 9 v) = up2 (bm h) 0 2 v := by
  refine bm_is (fun k hk => ?_) (fun k hk => ?_) ?_ ?_ ?_ ?_ (fun i k ho => ?_)
  · rw [up2_ne (by omega), bm1 hk, hpI_st, if_neg (by omega)]
  · rw [up2_ne (by omega), bm2 hk, hpI_st, if_neg (by omega)]
  · rw [up2_at, hpI_st, if_pos ⟨rfl, rfl⟩]
  · rw [up2_ne (by omega), bmH, hpI_st, if_neg (by omega)]
  · rw [up2_ne (by omega), bmN, hpI_st, if_neg (by omega)]
  · rw [up2_ne (by omega), bmR, hpI_st, if_neg (by omega)]
  · rw [up2_ne (fun z => ho (Or.inr ⟨z.1, by omega, by omega⟩)), bm_0 ho]
theorem bm_uH {v : Int32} : bm (stI h 38 10 v) = up2 (bm h) 0 3 v := by
  refine bm_is (fun k hk => ?_) (fun k hk => ?_) ?_ ?_ ?_ ?_ (fun i k ho => ?_)
  · rw [up2_ne (by omega), bm1 hk, hpI_st, if_neg (by omega)]
  · rw [up2_ne (by omega), bm2 hk, hpI_st, if_neg (by omega)]
  · rw [up2_ne (by omega), bmB, hpI_st, if_neg (by omega)]
  · rw [up2_at, hpI_st, if_pos ⟨rfl, rfl⟩]
  · rw [up2_ne (by omega), bmN, hpI_st, if_neg (by omega)]
  · rw [up2_ne (by omega), bmR, hpI_st, if_neg (by omega)]
  · rw [up2_ne (fun z => ho (Or.inr ⟨z.1, by omega, by omega⟩)), bm_0 ho]
theorem bm_uN {v : Int32} : bm (stI h 38 11 v) = up2 (bm h) 0 4 v := by
  refine bm_is (fun k hk => ?_) (fun k hk => ?_) ?_ ?_ ?_ ?_ (fun i k ho => ?_)
  · rw [up2_ne (by omega), bm1 hk, hpI_st, if_neg (by omega)]
  · rw [up2_ne (by omega), bm2 hk, hpI_st, if_neg (by omega)]
  · rw [up2_ne (by omega), bmB, hpI_st, if_neg (by omega)]
  · rw [up2_ne (by omega), bmH, hpI_st, if_neg (by omega)]
  · rw [up2_at, hpI_st, if_pos ⟨rfl, rfl⟩]
  · rw [up2_ne (by omega), bmR, hpI_st, if_neg (by omega)]
  · rw [up2_ne (fun z => ho (Or.inr ⟨z.1, by omega, by omega⟩)), bm_0 ho]
theorem MW.st1 (hc : MW h E) {a k : Nat} {v : Int32} (ha : (a = 42 ∨ a = 43) ∨ a = 38 ∧ (k = 9 ∨ k = 10 ∨ k = 11)) {b : Bch} (hb : bm (stI h a k v) = b) (hbe : BeOK b (sC E)) : ∃ σ J, stI h a k v = mkH h σ J ∧ MW (mkH h σ J) (setB E b) ∧ K58 h σ :=
  ⟨(stI h a k v).1, h.2.2.1, rfl, hc.q (fun x y a1 a2 a3 => by show hpI (stI _ _ _ _) _ _ = _; rw [hpI_st, if_neg (by omega)]) hb hbe, fun x hx => funext fun y => by show hpI (stI _ _ _ _) _ _ = _; rw [hpI_st, if_neg (by omega)]⟩
end MWR
theorem qX12_most_0 : Dq cX12_most 0 (.iload_n 1) 1 1 := ⟨by decide +kernel, rfl⟩
theorem qX12_most_1 : Dq cX12_most 1 (.i2l) 1 2 := ⟨by decide +kernel, rfl⟩
theorem qX12_most_2 : Dq cX12_most 2 (.lconst 0) 1 3 := ⟨by decide +kernel, rfl⟩
theorem qX12_most_3 : Dq cX12_most 3 (.lconst 1) 1 4 := ⟨by decide +kernel, rfl⟩
theorem qX12_most_4 : Dq cX12_most 4 (.invokestatic 87) 3 7 := ⟨by decide +kernel, rfl⟩
theorem qX12_most_7 : Dq cX12_most 7 (.ifCond .ne 6) 3 10 := ⟨by decide +kernel, rfl⟩
theorem qX12_most_10 : Dq cX12_most 10 (.bipush (-2)) 2 12 := ⟨by decide +kernel, rfl⟩
theorem qX12_most_12 : Dq cX12_most 12 (.ireturn) 1 13 := ⟨by decide +kernel, rfl⟩
theorem qX12_most_13 : Dq cX12_most 13 (.iload_n 1) 1 14 := ⟨by decide +kernel, rfl⟩
theorem qX12_most_14 : Dq cX12_most 14 (.iconst 1) 1 15 := ⟨by decide +kernel, rfl⟩
theorem qX12_most_15 : Dq cX12_most 15 (.if_icmp .ne 13) 3 18 := ⟨by decide +kernel, rfl⟩
theorem qX12_most_18 : Dq cX12_most 18 (.aload_n 0) 1 19 := ⟨by decide +kernel, rfl⟩
theorem qX12_most_19 : Dq cX12_most 19 (.invokevirtual 320) 3 22 := ⟨by decide +kernel, rfl⟩
theorem qX12_most_22 : Dq cX12_most 22 (.aload_n 0) 1 23 := ⟨by decide +kernel, rfl⟩
theorem qX12_most_23 : Dq cX12_most 23 (.getfield 108) 3 26 := ⟨by decide +kernel, rfl⟩
theorem qX12_most_26 : Dq cX12_most 26 (.iadd) 1 27 := ⟨by decide +kernel, rfl⟩
theorem qX12_most_27 : Dq cX12_most 27 (.ireturn) 1 28 := ⟨by decide +kernel, rfl⟩
theorem qX12_most_28 : Dq cX12_most 28 (.iconst (-1)) 1 29 := ⟨by decide +kernel, rfl⟩
theorem qX12_most_29 : Dq cX12_most 29 (.istore_n 2) 1 30 := ⟨by decide +kernel, rfl⟩
theorem qX12_most_30 : Dq cX12_most 30 (.iconst 0) 1 31 := ⟨by decide +kernel, rfl⟩
theorem qX12_most_31 : Dq cX12_most 31 (.istore_n 3) 1 32 := ⟨by decide +kernel, rfl⟩
theorem qX12_most_32 : Dq cX12_most 32 (.iconst 0) 1 33 := ⟨by decide +kernel, rfl⟩
theorem qX12_most_33 : Dq cX12_most 33 (.istore 4) 2 35 := ⟨by decide +kernel, rfl⟩
theorem qX12_most_35 : Dq cX12_most 35 (.iload 4) 2 37 := ⟨by decide +kernel, rfl⟩
theorem qX12_most_37 : Dq cX12_most 37 (.bipush 48) 2 39 := ⟨by decide +kernel, rfl⟩
theorem qX12_most_39 : Dq cX12_most 39 (.if_icmp .ge 31) 3 42 := ⟨by decide +kernel, rfl⟩
theorem qX12_most_42 : Dq cX12_most 42 (.aload_n 0) 1 43 := ⟨by decide +kernel, rfl⟩
theorem qX12_most_43 : Dq cX12_most 43 (.getfield 23) 3 46 := ⟨by decide +kernel, rfl⟩
theorem qX12_most_46 : Dq cX12_most 46 (.iload 4) 2 48 := ⟨by decide +kernel, rfl⟩
theorem qX12_most_48 : Dq cX12_most 48 (.iaload) 1 49 := ⟨by decide +kernel, rfl⟩
theorem qX12_most_49 : Dq cX12_most 49 (.iload_n 3) 1 50 := ⟨by decide +kernel, rfl⟩
theorem qX12_most_50 : Dq cX12_most 50 (.if_icmp .le 14) 3 53 := ⟨by decide +kernel, rfl⟩
theorem qX12_most_53 : Dq cX12_most 53 (.iload 4) 2 55 := ⟨by decide +kernel, rfl⟩
theorem qX12_most_55 : Dq cX12_most 55 (.istore_n 2) 1 56 := ⟨by decide +kernel, rfl⟩
theorem qX12_most_56 : Dq cX12_most 56 (.aload_n 0) 1 57 := ⟨by decide +kernel, rfl⟩
theorem qX12_most_57 : Dq cX12_most 57 (.getfield 23) 3 60 := ⟨by decide +kernel, rfl⟩
theorem qX12_most_60 : Dq cX12_most 60 (.iload 4) 2 62 := ⟨by decide +kernel, rfl⟩
theorem qX12_most_62 : Dq cX12_most 62 (.iaload) 1 63 := ⟨by decide +kernel, rfl⟩
theorem qX12_most_63 : Dq cX12_most 63 (.istore_n 3) 1 64 := ⟨by decide +kernel, rfl⟩
theorem qX12_most_64 : Dq cX12_most 64 (.iinc 4 1) 3 67 := ⟨by decide +kernel, rfl⟩
theorem qX12_most_67 : Dq cX12_most 67 (.goto (-32)) 3 70 := ⟨by decide +kernel, rfl⟩
theorem qX12_most_70 : Dq cX12_most 70 (.iload_n 2) 1 71 := ⟨by decide +kernel, rfl⟩
theorem qX12_most_71 : Dq cX12_most 71 (.ireturn) 1 72 := ⟨by decide +kernel, rfl⟩
set_option maxRecDepth 100000 in
set_option maxHeartbeats 4000000 in
theorem m_most {G : Glb} {h : AHp} {E : Sst} (hc : MW h E) (w : Int32) : CP G m_X12_most 3 0 0 [.ref 38, .int w] h (fun r h' => r = some (.int (mostI (sB E) w)) ∧ h = h') := by
  suffices key : ∀ P : Option Value → AHp → Prop, (∀ r h', (r = some (.int (mostI (sB E) w)) ∧ h = h') → P r h') → CP G m_X12_most 3 0 0 [.ref 38, .int w] h P from key _ (fun _ _ z => z)
  intro P hP
  obtain ⟨hm, htx, hp, hb, hkp, htp, hst, hok⟩ := id hc
  have hc6 := hok.1
  have hm6 := hok.2.1
  have hkd : ∀ i, i < sM E → sK E i < 6 := fun i hi => (hok.2.2.1 i hi).1
  have hnu : ∀ i, i < sM E → inR (sN E i) 9 := fun i hi => (hok.2.2.1 i hi).2
  have hbe : BeOK (bm h) (sC E) := by rw [hb]; exact hok.2.2.2.1
  refine CP.of (by decide +kernel) (Nat.le_of_ble_eq_true rfl) fun X hX hR hnm => ?_
  show V X G 5 0 0 _ 0 [some (.ref 38), some (.int w), none, none, none] [] h
  refine v_iload_n hX rfl qX12_most_0 ?_
  refine v_i2l hX qX12_most_1 ?_
  refine v_lconst hX ll_0 qX12_most_2 ?_
  refine v_lconst hX ll_1 qX12_most_3 ?_
  refine v_callSq hX hR k_X12_87 (m_in _ (by exact (0)) (by exact (1))) rfl (Nat.le_of_ble_eq_true rfl) rfl (Nat.le_of_ble_eq_true rfl) ⟨Nat.le_of_ble_eq_true rfl, Nat.le_of_ble_eq_true rfl⟩ qX12_most_4 ?_
  rintro _ _ ⟨rfl, rfl⟩
  first | refine v_if_neB hX 13 qX12_most_7 rfl (fun q7 => ?_) (fun q7 => ?_) | refine v_if_ne hX 13 qX12_most_7 rfl (fun q7 => ?_) (fun q7 => ?_)
  · skip
    refine v_iload_n hX rfl qX12_most_13 ?_
    refine v_iconst hX li_1 qX12_most_14 ?_
    refine v_icmp_ne hX 28 qX12_most_15 rfl (fun q15 => ?_) (fun q15 => ?_)
    · skip
      refine v_iconst hX li_n1 qX12_most_28 ?_
      refine v_istore_n hX (Nat.le_of_ble_eq_true rfl) rfl (ls' := [some _, some _, some _, none, none]) rfl qX12_most_29 ?_
      refine v_iconst hX li_0 qX12_most_30 ?_
      refine v_istore_n hX (Nat.le_of_ble_eq_true rfl) rfl (ls' := [some _, some _, some _, some _, none]) rfl qX12_most_31 ?_
      refine v_iconst hX li_0 qX12_most_32 ?_
      refine v_istore hX (Nat.le_of_ble_eq_true rfl) rfl (ls' := [some _, some _, some _, some _, some _]) rfl qX12_most_33 ?_
      have L35 : ∀ (mz : Nat) (k : Nat), 48 - k = mz → (k ≤ 48) → V X G 5 0 0 (QM X G P 0 0) 35 [some (.ref 38), some (.int w), some (.int (mst (sB E 1) k).1), some (.int (mst (sB E 1) k).2), some (.int (nI k))] [] h := by
        intro mz
        induction mz using Nat.strongRecOn with
        | _ mz ih =>
        intro k hmz hi
        refine v_iload hX rfl qX12_most_35 ?_
        refine v_bipush hX lb_48 qX12_most_37 ?_
        refine v_icmp_geS hX 70 qX12_most_39 rfl (fun q39 => ?_) (fun q39 => ?_)
        · have e1 := geN (N := 48) rfl hi q39; subst e1
          refine v_iload_n hX rfl qX12_most_70 ?_
          refine v_ireturn hX qX12_most_71 (hP _ _ ?_)
          refine ⟨?_, rfl⟩
          have hw : w = 0 := by
            obtain ⟨z1, z2⟩ := q7
            have a := leI.mp z1
            have b := leI.mp z2
            rw [eqI] at q15 ⊢
            have e0 : (0 : Int32).toInt = 0 := rfl
            have e1 : (1 : Int32).toInt = 1 := rfl
            omega
          rw [mostI, if_pos hw]
        · have hl := ltN (N := 48) rfl hi q39
          refine v_aload_n hX rfl qX12_most_42 ?_
          refine v_getR hX g_X12_23 (hm.kd 38 rfl) (hm.rf 3 rfl) qX12_most_43 ?_
          refine v_iload hX rfl qX12_most_46 ?_
          refine v_ialdV hX (hm.kd 42 rfl) (hm.ln 42 rfl) (by exact ix_n hl rfl) (show _ = sB E 1 k by rw [← hb, bm1 hl]) qX12_most_48 ?_
          refine v_iload_n hX rfl qX12_most_49 ?_
          refine v_icmp_leS hX 64 qX12_most_50 rfl (fun q50 => ?_) (fun q50 => ?_)
          · skip
            refine v_iinc hX rfl (by first | exact ii_nI _ | exact ii_1 _) (Nat.le_of_ble_eq_true rfl) rfl (ls' := [some _, some _, some _, some _, some _]) rfl qX12_most_64 ?_
            refine v_goto hX 35 qX12_most_67 rfl ?_
            first | (have e1 : mst (sB E 1) (k + 1) = mst (sB E 1) k := if_neg (Int32.not_lt.mpr q50); have z := ih _ (by omega) (k + 1) rfl (by omega); rw [e1] at z; exact z) | (have e1 : mst (sB E 1) (k + 1) = (nI k, sB E 1 k) := if_pos q50; have z := ih _ (by omega) (k + 1) rfl (by omega); rw [e1] at z; exact z)
          · skip
            refine v_iload hX rfl qX12_most_53 ?_
            refine v_istore_n hX (Nat.le_of_ble_eq_true rfl) rfl (ls' := [some _, some _, some _, some _, some _]) rfl qX12_most_55 ?_
            refine v_aload_n hX rfl qX12_most_56 ?_
            refine v_getR hX g_X12_23 (hm.kd 38 rfl) (hm.rf 3 rfl) qX12_most_57 ?_
            refine v_iload hX rfl qX12_most_60 ?_
            refine v_ialdV hX (hm.kd 42 rfl) (hm.ln 42 rfl) (by exact ix_n hl rfl) (show _ = sB E 1 k by rw [← hb, bm1 hl]) qX12_most_62 ?_
            refine v_istore_n hX (Nat.le_of_ble_eq_true rfl) rfl (ls' := [some _, some _, some _, some _, some _]) rfl qX12_most_63 ?_
            refine v_iinc hX rfl (by first | exact ii_nI _ | exact ii_1 _) (Nat.le_of_ble_eq_true rfl) rfl (ls' := [some _, some _, some _, some _, some _]) rfl qX12_most_64 ?_
            refine v_goto hX 35 qX12_most_67 rfl ?_
            first | (have e1 : mst (sB E 1) (k + 1) = mst (sB E 1) k := if_neg (Int32.not_lt.mpr q50); have z := ih _ (by omega) (k + 1) rfl (by omega); rw [e1] at z; exact z) | (have e1 : mst (sB E 1) (k + 1) = (nI k, sB E 1 k) := if_pos q50; have z := ih _ (by omega) (k + 1) rfl (by omega); rw [e1] at z; exact z)
      exact L35 _ 0 rfl (by omega)
    · skip
      refine v_aload_n hX rfl qX12_most_18 ?_
      refine v_callVq hX hR k_X12_320 (hm.kd 38 rfl) (m_onCells (by exact hc)) rfl (Nat.le_of_ble_eq_true rfl) rfl (Nat.le_of_ble_eq_true rfl) ⟨Nat.le_of_ble_eq_true rfl, Nat.le_of_ble_eq_true rfl⟩ qX12_most_19 ?_
      rintro _ _ ⟨rfl, rfl⟩
      refine v_aload_n hX rfl qX12_most_22 ?_
      refine v_getIv hX g_X12_108 (Or.inl rfl) (hm.kd 38 rfl) (show _ = sB E 0 2 by rw [← hb]; rfl) qX12_most_23 ?_
      refine v_iadd hX qX12_most_26 ?_
      refine v_ireturn hX qX12_most_27 (hP _ _ ?_)
      exact ⟨by rw [mostI, if_neg (by rw [q15]; decide), if_pos q15]; rfl, rfl⟩
  · skip
    refine v_bipush hX lb_n2 qX12_most_10 ?_
    refine v_ireturn hX qX12_most_12 (hP _ _ ?_)
    exact ⟨by rw [mostI, if_neg (fun z => q7 (by rw [z]; decide)), if_neg (fun z => q7 (by rw [z]; decide))], rfl⟩
theorem qX12_drawn_0 : Dq cX12_drawn 0 (.aload_n 0) 1 1 := ⟨by decide +kernel, rfl⟩
theorem qX12_drawn_1 : Dq cX12_drawn 1 (.invokevirtual 320) 3 4 := ⟨by decide +kernel, rfl⟩
theorem qX12_drawn_4 : Dq cX12_drawn 4 (.aload_n 0) 1 5 := ⟨by decide +kernel, rfl⟩
theorem qX12_drawn_5 : Dq cX12_drawn 5 (.getfield 108) 3 8 := ⟨by decide +kernel, rfl⟩
theorem qX12_drawn_8 : Dq cX12_drawn 8 (.iadd) 1 9 := ⟨by decide +kernel, rfl⟩
theorem qX12_drawn_9 : Dq cX12_drawn 9 (.istore_n 2) 1 10 := ⟨by decide +kernel, rfl⟩
theorem qX12_drawn_10 : Dq cX12_drawn 10 (.iload_n 2) 1 11 := ⟨by decide +kernel, rfl⟩
theorem qX12_drawn_11 : Dq cX12_drawn 11 (.ifCond .ne 5) 3 14 := ⟨by decide +kernel, rfl⟩
theorem qX12_drawn_14 : Dq cX12_drawn 14 (.iconst (-1)) 1 15 := ⟨by decide +kernel, rfl⟩
theorem qX12_drawn_15 : Dq cX12_drawn 15 (.ireturn) 1 16 := ⟨by decide +kernel, rfl⟩
theorem qX12_drawn_16 : Dq cX12_drawn 16 (.iload_n 1) 1 17 := ⟨by decide +kernel, rfl⟩
theorem qX12_drawn_17 : Dq cX12_drawn 17 (.ldc_w 349) 3 20 := ⟨by decide +kernel, rfl⟩
theorem qX12_drawn_20 : Dq cX12_drawn 20 (.imul) 1 21 := ⟨by decide +kernel, rfl⟩
theorem qX12_drawn_21 : Dq cX12_drawn 21 (.sipush 12345) 3 24 := ⟨by decide +kernel, rfl⟩
theorem qX12_drawn_24 : Dq cX12_drawn 24 (.iadd) 1 25 := ⟨by decide +kernel, rfl⟩
theorem qX12_drawn_25 : Dq cX12_drawn 25 (.istore_n 3) 1 26 := ⟨by decide +kernel, rfl⟩
theorem qX12_drawn_26 : Dq cX12_drawn 26 (.iload_n 3) 1 27 := ⟨by decide +kernel, rfl⟩
theorem qX12_drawn_27 : Dq cX12_drawn 27 (.iconst 4) 1 28 := ⟨by decide +kernel, rfl⟩
theorem qX12_drawn_28 : Dq cX12_drawn 28 (.iushr) 1 29 := ⟨by decide +kernel, rfl⟩
theorem qX12_drawn_29 : Dq cX12_drawn 29 (.iload_n 2) 1 30 := ⟨by decide +kernel, rfl⟩
theorem qX12_drawn_30 : Dq cX12_drawn 30 (.irem) 1 31 := ⟨by decide +kernel, rfl⟩
theorem qX12_drawn_31 : Dq cX12_drawn 31 (.istore 4) 2 33 := ⟨by decide +kernel, rfl⟩
theorem qX12_drawn_33 : Dq cX12_drawn 33 (.iconst 0) 1 34 := ⟨by decide +kernel, rfl⟩
theorem qX12_drawn_34 : Dq cX12_drawn 34 (.istore 5) 2 36 := ⟨by decide +kernel, rfl⟩
theorem qX12_drawn_36 : Dq cX12_drawn 36 (.iconst 0) 1 37 := ⟨by decide +kernel, rfl⟩
theorem qX12_drawn_37 : Dq cX12_drawn 37 (.istore 6) 2 39 := ⟨by decide +kernel, rfl⟩
theorem qX12_drawn_39 : Dq cX12_drawn 39 (.iload 6) 2 41 := ⟨by decide +kernel, rfl⟩
theorem qX12_drawn_41 : Dq cX12_drawn 41 (.bipush 48) 2 43 := ⟨by decide +kernel, rfl⟩
theorem qX12_drawn_43 : Dq cX12_drawn 43 (.if_icmp .ge 31) 3 46 := ⟨by decide +kernel, rfl⟩
theorem qX12_drawn_46 : Dq cX12_drawn 46 (.iload 5) 2 48 := ⟨by decide +kernel, rfl⟩
theorem qX12_drawn_48 : Dq cX12_drawn 48 (.aload_n 0) 1 49 := ⟨by decide +kernel, rfl⟩
theorem qX12_drawn_49 : Dq cX12_drawn 49 (.getfield 23) 3 52 := ⟨by decide +kernel, rfl⟩
theorem qX12_drawn_52 : Dq cX12_drawn 52 (.iload 6) 2 54 := ⟨by decide +kernel, rfl⟩
theorem qX12_drawn_54 : Dq cX12_drawn 54 (.iaload) 1 55 := ⟨by decide +kernel, rfl⟩
theorem qX12_drawn_55 : Dq cX12_drawn 55 (.iadd) 1 56 := ⟨by decide +kernel, rfl⟩
theorem qX12_drawn_56 : Dq cX12_drawn 56 (.istore 5) 2 58 := ⟨by decide +kernel, rfl⟩
theorem qX12_drawn_58 : Dq cX12_drawn 58 (.iload 5) 2 60 := ⟨by decide +kernel, rfl⟩
theorem qX12_drawn_60 : Dq cX12_drawn 60 (.iload 4) 2 62 := ⟨by decide +kernel, rfl⟩
theorem qX12_drawn_62 : Dq cX12_drawn 62 (.if_icmp .le 6) 3 65 := ⟨by decide +kernel, rfl⟩
theorem qX12_drawn_65 : Dq cX12_drawn 65 (.iload 6) 2 67 := ⟨by decide +kernel, rfl⟩
theorem qX12_drawn_67 : Dq cX12_drawn 67 (.ireturn) 1 68 := ⟨by decide +kernel, rfl⟩
theorem qX12_drawn_68 : Dq cX12_drawn 68 (.iinc 6 1) 3 71 := ⟨by decide +kernel, rfl⟩
theorem qX12_drawn_71 : Dq cX12_drawn 71 (.goto (-32)) 3 74 := ⟨by decide +kernel, rfl⟩
theorem qX12_drawn_74 : Dq cX12_drawn 74 (.iconst (-1)) 1 75 := ⟨by decide +kernel, rfl⟩
theorem qX12_drawn_75 : Dq cX12_drawn 75 (.ireturn) 1 76 := ⟨by decide +kernel, rfl⟩
set_option maxRecDepth 100000 in
set_option maxHeartbeats 4000000 in
theorem m_drawn {G : Glb} {h : AHp} {E : Sst} (hc : MW h E) (seed : Int32) : CP G m_X12_drawn 3 0 0 [.ref 38, .int seed] h (fun r h' => r = some (.int (drawnI (sB E) seed)) ∧ h = h') := by
  suffices key : ∀ P : Option Value → AHp → Prop, (∀ r h', (r = some (.int (drawnI (sB E) seed)) ∧ h = h') → P r h') → CP G m_X12_drawn 3 0 0 [.ref 38, .int seed] h P from key _ (fun _ _ z => z)
  intro P hP
  obtain ⟨hm, htx, hp, hb, hkp, htp, hst, hok⟩ := id hc
  have hc6 := hok.1
  have hm6 := hok.2.1
  have hkd : ∀ i, i < sM E → sK E i < 6 := fun i hi => (hok.2.2.1 i hi).1
  have hnu : ∀ i, i < sM E → inR (sN E i) 9 := fun i hi => (hok.2.2.1 i hi).2
  have hbe : BeOK (bm h) (sC E) := by rw [hb]; exact hok.2.2.2.1
  obtain ⟨A, hA, eA⟩ := allI_in hok.2.2.2.1
  have tA : tn (allI (sB E)) = A := by rw [eA]; exact nI_clamp (by omega)
  obtain ⟨O, hO, eO⟩ := onI_in hok.2.2.2.1
  have tO : tn (onI (sB E)) = O := by rw [eO]; exact nI_clamp (by omega)
  refine CP.of (by decide +kernel) (Nat.le_of_ble_eq_true rfl) fun X hX hR hnm => ?_
  show V X G 7 0 0 _ 0 [some (.ref 38), some (.int seed), none, none, none, none, none] [] h
  refine v_aload_n hX rfl qX12_drawn_0 ?_
  refine v_callVq hX hR k_X12_320 (hm.kd 38 rfl) (m_onCells (by exact hc)) rfl (Nat.le_of_ble_eq_true rfl) rfl (Nat.le_of_ble_eq_true rfl) ⟨Nat.le_of_ble_eq_true rfl, Nat.le_of_ble_eq_true rfl⟩ qX12_drawn_1 ?_
  rintro _ _ ⟨rfl, rfl⟩
  refine v_aload_n hX rfl qX12_drawn_4 ?_
  refine v_getIv hX g_X12_108 (Or.inl rfl) (hm.kd 38 rfl) (show _ = sB E 0 2 by rw [← hb]; rfl) qX12_drawn_5 ?_
  refine v_iadd hX qX12_drawn_8 ?_
  refine v_eqI (show _ = allI (sB E) from rfl) ?_
  refine v_istore_n hX (Nat.le_of_ble_eq_true rfl) rfl (ls' := [some _, some _, some _, none, none, none, none]) rfl qX12_drawn_9 ?_
  refine v_iload_n hX rfl qX12_drawn_10 ?_
  first | refine v_if_neB hX 16 qX12_drawn_11 rfl (fun q11 => ?_) (fun q11 => ?_) | refine v_if_ne hX 16 qX12_drawn_11 rfl (fun q11 => ?_) (fun q11 => ?_)
  · have hA0 : 0 < allI (sB E) := by
        rw [eA] at q11 ⊢
        exact (nI_ltI (a := 0) (by omega) (by omega)).mpr (Nat.pos_of_ne_zero (fun z => q11 (by rw [z]; rfl)))
    refine v_iload_n hX rfl qX12_drawn_16 ?_
    refine v_ldc_w hX c_X12_349 qX12_drawn_17 ?_
    refine v_imul hX qX12_drawn_20 ?_
    refine v_sipush hX ls_12345 qX12_drawn_21 ?_
    refine v_iadd hX qX12_drawn_24 ?_
    refine v_istore_n hX (Nat.le_of_ble_eq_true rfl) rfl (ls' := [some _, some _, some _, some _, none, none, none]) rfl qX12_drawn_25 ?_
    refine v_iload_n hX rfl qX12_drawn_26 ?_
    refine v_iconst hX li_4 qX12_drawn_27 ?_
    refine v_iushr hX qX12_drawn_28 ?_
    refine v_iload_n hX rfl qX12_drawn_29 ?_
    refine v_irem hX (fun z => by rw [z] at hA0; exact absurd hA0 (by decide)) qX12_drawn_30 ?_
    refine v_istore hX (Nat.le_of_ble_eq_true rfl) rfl (ls' := [some _, some _, some _, some _, some _, none, none]) rfl qX12_drawn_31 ?_
    refine v_iconst hX li_0 qX12_drawn_33 ?_
    refine v_istore hX (Nat.le_of_ble_eq_true rfl) rfl (ls' := [some _, some _, some _, some _, some _, some _, none]) rfl qX12_drawn_34 ?_
    refine v_iconst hX li_0 qX12_drawn_36 ?_
    refine v_istore hX (Nat.le_of_ble_eq_true rfl) rfl (ls' := [some _, some _, some _, some _, some _, some _, some _]) rfl qX12_drawn_37 ?_
    have L39 : ∀ (mz : Nat) (k : Nat), 48 - k = mz → (k ≤ 48) → (∀ j, j < k → decide (rmI ((seed * 1103515245 + 12345).toUInt32 >>> ((4 : Int32).toUInt32 &&& Int32.toUInt32 31)).toInt32 (allI (sB E)) < sumN (sB E 1) (j + 1)) = false) → V X G 7 0 0 (QM X G P 0 0) 39 [some (.ref 38), some (.int seed), some (.int (allI (sB E))), some (.int (seed * 1103515245 + 12345)), some (.int (rmI ((seed * 1103515245 + 12345).toUInt32 >>> ((4 : Int32).toUInt32 &&& Int32.toUInt32 31)).toInt32 (allI (sB E)))), some (.int (sumN (sB E 1) k)), some (.int (nI k))] [] h := by
      intro mz
      induction mz using Nat.strongRecOn with
      | _ mz ih =>
      intro k hmz hi hno
      refine v_iload hX rfl qX12_drawn_39 ?_
      refine v_bipush hX lb_48 qX12_drawn_41 ?_
      refine v_icmp_geS hX 74 qX12_drawn_43 rfl (fun q43 => ?_) (fun q43 => ?_)
      · have e1 := geN (N := 48) rfl hi q43; subst e1
        refine v_iconst hX li_n1 qX12_drawn_74 ?_
        refine v_ireturn hX qX12_drawn_75 (hP _ _ ?_)
        refine ⟨?_, rfl⟩
        rw [drawnI, if_pos hA0]
        rw [fx_no 48 0 (fun j _ hj => hno j (by omega))]
      · have hl := ltN (N := 48) rfl hi q43
        refine v_iload hX rfl qX12_drawn_46 ?_
        refine v_aload_n hX rfl qX12_drawn_48 ?_
        refine v_getR hX g_X12_23 (hm.kd 38 rfl) (hm.rf 3 rfl) qX12_drawn_49 ?_
        refine v_iload hX rfl qX12_drawn_52 ?_
        refine v_ialdV hX (hm.kd 42 rfl) (hm.ln 42 rfl) (by exact ix_n hl rfl) (show _ = sB E 1 k by rw [← hb, bm1 hl]) qX12_drawn_54 ?_
        refine v_iadd hX qX12_drawn_55 ?_
        refine v_istore hX (Nat.le_of_ble_eq_true rfl) rfl (ls' := [some _, some _, some _, some _, some _, some _, some _]) rfl qX12_drawn_56 ?_
        refine v_iload hX rfl qX12_drawn_58 ?_
        refine v_iload hX rfl qX12_drawn_60 ?_
        refine v_icmp_leS hX 68 qX12_drawn_62 rfl (fun q62 => ?_) (fun q62 => ?_)
        · skip
          refine v_iinc hX rfl (by first | exact ii_nI _ | exact ii_1 _) (Nat.le_of_ble_eq_true rfl) rfl (ls' := [some _, some _, some _, some _, some _, some _, some _]) rfl qX12_drawn_68 ?_
          refine v_goto hX 39 qX12_drawn_71 rfl ?_
          exact ih _ (by omega) (k + 1) rfl (by omega) (fun j hj => by
            by_cases e : j = k
            · subst e; exact decide_eq_false (Int32.not_lt.mpr q62)
            · exact hno j (by omega))
        · skip
          refine v_iload hX rfl qX12_drawn_65 ?_
          refine v_ireturn hX qX12_drawn_67 (hP _ _ ?_)
          refine ⟨?_, rfl⟩
          rw [drawnI, if_pos hA0]
          rw [fx_hit (k := k) (decide_eq_true q62) 48 0 (by omega) (by omega) (fun j _ hj => hno j hj)]
    exact L39 _ 0 rfl (by omega) (fun j hj => absurd hj (by omega))
  · have hA0 : ¬ (0 < allI (sB E)) := fun z => by rw [q11] at z; exact absurd z (by decide)
    refine v_iconst hX li_n1 qX12_drawn_14 ?_
    refine v_ireturn hX qX12_drawn_15 (hP _ _ ?_)
    exact ⟨by rw [drawnI, if_neg hA0], rfl⟩
theorem w_is3 {w : Int32} (h0 : 0 ≤ w) (h : w < 4) (n0 : ¬ w = 0) (n1 : ¬ w = 1) (n2 : ¬ w = 2) : w = 3 := by
  rw [leI] at h0; rw [ltI] at h; rw [eqI] at n0 n1 n2 ⊢
  have e0 : (0 : Int32).toInt = 0 := rfl
  have e1 : (1 : Int32).toInt = 1 := rfl
  have e2 : (2 : Int32).toInt = 2 := rfl
  have e3 : (3 : Int32).toInt = 3 := rfl
  have e4 : (4 : Int32).toInt = 4 := rfl
  omega
theorem w_is6 {w : Int32} (h0 : 4 ≤ w) (h : w < 7) (n0 : ¬ w = 4) (n1 : ¬ w = 5) : w = 6 := by
  rw [leI] at h0; rw [ltI] at h; rw [eqI] at n0 n1 ⊢
  have e0 : (5 : Int32).toInt = 5 := rfl
  have e1 : (6 : Int32).toInt = 6 := rfl
  have e2 : (7 : Int32).toInt = 7 := rfl
  have e4 : (4 : Int32).toInt = 4 := rfl
  omega
theorem w_is7 {w : Int32} (h0 : w ≤ 7) (h : 7 ≤ w) : w = 7 := by
  rw [leI] at h0 h; rw [eqI]
  omega
theorem qX12_count_0 : Dq cX12_count 0 (.iload_n 1) 1 1 := ⟨by decide +kernel, rfl⟩
theorem qX12_count_1 : Dq cX12_count 1 (.i2l) 1 2 := ⟨by decide +kernel, rfl⟩
theorem qX12_count_2 : Dq cX12_count 2 (.lconst 0) 1 3 := ⟨by decide +kernel, rfl⟩
theorem qX12_count_3 : Dq cX12_count 3 (.ldc2_w 362) 3 6 := ⟨by decide +kernel, rfl⟩
theorem qX12_count_6 : Dq cX12_count 6 (.invokestatic 87) 3 9 := ⟨by decide +kernel, rfl⟩
theorem qX12_count_9 : Dq cX12_count 9 (.ifCond .ne 6) 3 12 := ⟨by decide +kernel, rfl⟩
theorem qX12_count_12 : Dq cX12_count 12 (.bipush (-2)) 2 14 := ⟨by decide +kernel, rfl⟩
theorem qX12_count_14 : Dq cX12_count 14 (.ireturn) 1 15 := ⟨by decide +kernel, rfl⟩
theorem qX12_count_15 : Dq cX12_count 15 (.iload_n 1) 1 16 := ⟨by decide +kernel, rfl⟩
theorem qX12_count_16 : Dq cX12_count 16 (.iconst 4) 1 17 := ⟨by decide +kernel, rfl⟩
theorem qX12_count_17 : Dq cX12_count 17 (.if_icmp .ge 43) 3 20 := ⟨by decide +kernel, rfl⟩
theorem qX12_count_20 : Dq cX12_count 20 (.iload_n 1) 1 21 := ⟨by decide +kernel, rfl⟩
theorem qX12_count_21 : Dq cX12_count 21 (.ifCond .ne 10) 3 24 := ⟨by decide +kernel, rfl⟩
theorem qX12_count_24 : Dq cX12_count 24 (.aload_n 0) 1 25 := ⟨by decide +kernel, rfl⟩
theorem qX12_count_25 : Dq cX12_count 25 (.getfield 91) 3 28 := ⟨by decide +kernel, rfl⟩
theorem qX12_count_28 : Dq cX12_count 28 (.goto 31) 3 31 := ⟨by decide +kernel, rfl⟩
theorem qX12_count_31 : Dq cX12_count 31 (.iload_n 1) 1 32 := ⟨by decide +kernel, rfl⟩
theorem qX12_count_32 : Dq cX12_count 32 (.iconst 1) 1 33 := ⟨by decide +kernel, rfl⟩
theorem qX12_count_33 : Dq cX12_count 33 (.if_icmp .ne 10) 3 36 := ⟨by decide +kernel, rfl⟩
theorem qX12_count_36 : Dq cX12_count 36 (.aload_n 0) 1 37 := ⟨by decide +kernel, rfl⟩
theorem qX12_count_37 : Dq cX12_count 37 (.getfield 108) 3 40 := ⟨by decide +kernel, rfl⟩
theorem qX12_count_40 : Dq cX12_count 40 (.goto 19) 3 43 := ⟨by decide +kernel, rfl⟩
theorem qX12_count_43 : Dq cX12_count 43 (.iload_n 1) 1 44 := ⟨by decide +kernel, rfl⟩
theorem qX12_count_44 : Dq cX12_count 44 (.iconst 2) 1 45 := ⟨by decide +kernel, rfl⟩
theorem qX12_count_45 : Dq cX12_count 45 (.if_icmp .ne 10) 3 48 := ⟨by decide +kernel, rfl⟩
theorem qX12_count_48 : Dq cX12_count 48 (.aload_n 0) 1 49 := ⟨by decide +kernel, rfl⟩
theorem qX12_count_49 : Dq cX12_count 49 (.getfield 29) 3 52 := ⟨by decide +kernel, rfl⟩
theorem qX12_count_52 : Dq cX12_count 52 (.goto 7) 3 55 := ⟨by decide +kernel, rfl⟩
theorem qX12_count_55 : Dq cX12_count 55 (.aload_n 0) 1 56 := ⟨by decide +kernel, rfl⟩
theorem qX12_count_56 : Dq cX12_count 56 (.getfield 111) 3 59 := ⟨by decide +kernel, rfl⟩
theorem qX12_count_59 : Dq cX12_count 59 (.ireturn) 1 60 := ⟨by decide +kernel, rfl⟩
theorem qX12_count_60 : Dq cX12_count 60 (.iload_n 1) 1 61 := ⟨by decide +kernel, rfl⟩
theorem qX12_count_61 : Dq cX12_count 61 (.bipush 7) 2 63 := ⟨by decide +kernel, rfl⟩
theorem qX12_count_63 : Dq cX12_count 63 (.if_icmp .ge 32) 3 66 := ⟨by decide +kernel, rfl⟩
theorem qX12_count_66 : Dq cX12_count 66 (.iload_n 1) 1 67 := ⟨by decide +kernel, rfl⟩
theorem qX12_count_67 : Dq cX12_count 67 (.iconst 4) 1 68 := ⟨by decide +kernel, rfl⟩
theorem qX12_count_68 : Dq cX12_count 68 (.if_icmp .ne 10) 3 71 := ⟨by decide +kernel, rfl⟩
theorem qX12_count_71 : Dq cX12_count 71 (.aload_n 0) 1 72 := ⟨by decide +kernel, rfl⟩
theorem qX12_count_72 : Dq cX12_count 72 (.getfield 82) 3 75 := ⟨by decide +kernel, rfl⟩
theorem qX12_count_75 : Dq cX12_count 75 (.goto 19) 3 78 := ⟨by decide +kernel, rfl⟩
theorem qX12_count_78 : Dq cX12_count 78 (.iload_n 1) 1 79 := ⟨by decide +kernel, rfl⟩
theorem qX12_count_79 : Dq cX12_count 79 (.iconst 5) 1 80 := ⟨by decide +kernel, rfl⟩
theorem qX12_count_80 : Dq cX12_count 80 (.if_icmp .ne 10) 3 83 := ⟨by decide +kernel, rfl⟩
theorem qX12_count_83 : Dq cX12_count 83 (.aload_n 0) 1 84 := ⟨by decide +kernel, rfl⟩
theorem qX12_count_84 : Dq cX12_count 84 (.getfield 120) 3 87 := ⟨by decide +kernel, rfl⟩
theorem qX12_count_87 : Dq cX12_count 87 (.goto 7) 3 90 := ⟨by decide +kernel, rfl⟩
theorem qX12_count_90 : Dq cX12_count 90 (.aload_n 0) 1 91 := ⟨by decide +kernel, rfl⟩
theorem qX12_count_91 : Dq cX12_count 91 (.getfield 239) 3 94 := ⟨by decide +kernel, rfl⟩
theorem qX12_count_94 : Dq cX12_count 94 (.ireturn) 1 95 := ⟨by decide +kernel, rfl⟩
theorem qX12_count_95 : Dq cX12_count 95 (.iconst 0) 1 96 := ⟨by decide +kernel, rfl⟩
theorem qX12_count_96 : Dq cX12_count 96 (.istore_n 2) 1 97 := ⟨by decide +kernel, rfl⟩
theorem qX12_count_97 : Dq cX12_count 97 (.iconst 0) 1 98 := ⟨by decide +kernel, rfl⟩
theorem qX12_count_98 : Dq cX12_count 98 (.istore_n 3) 1 99 := ⟨by decide +kernel, rfl⟩
theorem qX12_count_99 : Dq cX12_count 99 (.iload_n 3) 1 100 := ⟨by decide +kernel, rfl⟩
theorem qX12_count_100 : Dq cX12_count 100 (.bipush 48) 2 102 := ⟨by decide +kernel, rfl⟩
theorem qX12_count_102 : Dq cX12_count 102 (.if_icmp .ge 18) 3 105 := ⟨by decide +kernel, rfl⟩
theorem qX12_count_105 : Dq cX12_count 105 (.iload_n 2) 1 106 := ⟨by decide +kernel, rfl⟩
theorem qX12_count_106 : Dq cX12_count 106 (.aload_n 0) 1 107 := ⟨by decide +kernel, rfl⟩
theorem qX12_count_107 : Dq cX12_count 107 (.getfield 26) 3 110 := ⟨by decide +kernel, rfl⟩
theorem qX12_count_110 : Dq cX12_count 110 (.iload_n 3) 1 111 := ⟨by decide +kernel, rfl⟩
theorem qX12_count_111 : Dq cX12_count 111 (.iaload) 1 112 := ⟨by decide +kernel, rfl⟩
theorem qX12_count_112 : Dq cX12_count 112 (.iadd) 1 113 := ⟨by decide +kernel, rfl⟩
theorem qX12_count_113 : Dq cX12_count 113 (.istore_n 2) 1 114 := ⟨by decide +kernel, rfl⟩
theorem qX12_count_114 : Dq cX12_count 114 (.iinc 3 1) 3 117 := ⟨by decide +kernel, rfl⟩
theorem qX12_count_117 : Dq cX12_count 117 (.goto (-18)) 3 120 := ⟨by decide +kernel, rfl⟩
theorem qX12_count_120 : Dq cX12_count 120 (.iload_n 2) 1 121 := ⟨by decide +kernel, rfl⟩
theorem qX12_count_121 : Dq cX12_count 121 (.ireturn) 1 122 := ⟨by decide +kernel, rfl⟩
set_option maxRecDepth 100000 in
set_option maxHeartbeats 4000000 in
theorem m_count {G : Glb} {h : AHp} {E : Sst} (hc : MW h E) (w : Int32) : CP G m_X12_count 2 0 0 [.ref 38, .int w] h (fun r h' => r = some (.int (countI E w)) ∧ h = h') := by
  suffices key : ∀ P : Option Value → AHp → Prop, (∀ r h', (r = some (.int (countI E w)) ∧ h = h') → P r h') → CP G m_X12_count 2 0 0 [.ref 38, .int w] h P from key _ (fun _ _ z => z)
  intro P hP
  obtain ⟨hm, htx, hp, hb, hkp, htp, hst, hok⟩ := id hc
  have hc6 := hok.1
  have hm6 := hok.2.1
  have hkd : ∀ i, i < sM E → sK E i < 6 := fun i hi => (hok.2.2.1 i hi).1
  have hnu : ∀ i, i < sM E → inR (sN E i) 9 := fun i hi => (hok.2.2.1 i hi).2
  have hbe : BeOK (bm h) (sC E) := by rw [hb]; exact hok.2.2.2.1
  refine CP.of (by decide +kernel) (Nat.le_of_ble_eq_true rfl) fun X hX hR hnm => ?_
  show V X G 4 0 0 _ 0 [some (.ref 38), some (.int w), none, none] [] h
  refine v_iload_n hX rfl qX12_count_0 ?_
  refine v_i2l hX qX12_count_1 ?_
  refine v_lconst hX ll_0 qX12_count_2 ?_
  refine v_ldc2 hX c_X12_362 qX12_count_3 ?_
  refine v_callSq hX hR k_X12_87 (m_in _ (by exact (0)) (by exact (7))) rfl (Nat.le_of_ble_eq_true rfl) rfl (Nat.le_of_ble_eq_true rfl) ⟨Nat.le_of_ble_eq_true rfl, Nat.le_of_ble_eq_true rfl⟩ qX12_count_6 ?_
  rintro _ _ ⟨rfl, rfl⟩
  first | refine v_if_neB hX 15 qX12_count_9 rfl (fun q9 => ?_) (fun q9 => ?_) | refine v_if_ne hX 15 qX12_count_9 rfl (fun q9 => ?_) (fun q9 => ?_)
  · skip
    refine v_iload_n hX rfl qX12_count_15 ?_
    refine v_iconst hX li_4 qX12_count_16 ?_
    refine v_icmp_geS hX 60 qX12_count_17 rfl (fun q17 => ?_) (fun q17 => ?_)
    · skip
      refine v_iload_n hX rfl qX12_count_60 ?_
      refine v_bipush hX lb_7 qX12_count_61 ?_
      refine v_icmp_geS hX 95 qX12_count_63 rfl (fun q63 => ?_) (fun q63 => ?_)
      · skip
        refine v_iconst hX li_0 qX12_count_95 ?_
        refine v_istore_n hX (Nat.le_of_ble_eq_true rfl) rfl (ls' := [some _, some _, some _, none]) rfl qX12_count_96 ?_
        refine v_iconst hX li_0 qX12_count_97 ?_
        refine v_istore_n hX (Nat.le_of_ble_eq_true rfl) rfl (ls' := [some _, some _, some _, some _]) rfl qX12_count_98 ?_
        have L99 : ∀ (mz : Nat) (k : Nat), 48 - k = mz → (k ≤ 48) → V X G 4 0 0 (QM X G P 0 0) 99 [some (.ref 38), some (.int w), some (.int (sumN (sB E 2) k)), some (.int (nI k))] [] h := by
          intro mz
          induction mz using Nat.strongRecOn with
          | _ mz ih =>
          intro k hmz hi
          refine v_iload_n hX rfl qX12_count_99 ?_
          refine v_bipush hX lb_48 qX12_count_100 ?_
          refine v_icmp_geS hX 120 qX12_count_102 rfl (fun q102 => ?_) (fun q102 => ?_)
          · have e1 := geN (N := 48) rfl hi q102; subst e1
            refine v_iload_n hX rfl qX12_count_120 ?_
            refine v_ireturn hX qX12_count_121 (hP _ _ ?_)
            rw [w_is7 q9.2 q63]; exact ⟨rfl, rfl⟩
          · have hl := ltN (N := 48) rfl hi q102
            refine v_iload_n hX rfl qX12_count_105 ?_
            refine v_aload_n hX rfl qX12_count_106 ?_
            refine v_getR hX g_X12_26 (hm.kd 38 rfl) (hm.rf 4 rfl) qX12_count_107 ?_
            refine v_iload_n hX rfl qX12_count_110 ?_
            refine v_ialdV hX (hm.kd 43 rfl) (hm.ln 43 rfl) (by exact ix_n hl rfl) (show _ = sB E 2 k by rw [← hb, bm2 hl]) qX12_count_111 ?_
            refine v_iadd hX qX12_count_112 ?_
            refine v_istore_n hX (Nat.le_of_ble_eq_true rfl) rfl (ls' := [some _, some _, some _, some _]) rfl qX12_count_113 ?_
            refine v_iinc hX rfl (by first | exact ii_nI _ | exact ii_1 _) (Nat.le_of_ble_eq_true rfl) rfl (ls' := [some _, some _, some _, some _]) rfl qX12_count_114 ?_
            refine v_goto hX 99 qX12_count_117 rfl ?_
            exact ih _ (by omega) (k + 1) rfl (by omega)
        exact L99 _ 0 rfl (by omega)
      · skip
        refine v_iload_n hX rfl qX12_count_66 ?_
        refine v_iconst hX li_4 qX12_count_67 ?_
        refine v_icmp_ne hX 78 qX12_count_68 rfl (fun q68 => ?_) (fun q68 => ?_)
        · skip
          refine v_iload_n hX rfl qX12_count_78 ?_
          refine v_iconst hX li_5 qX12_count_79 ?_
          refine v_icmp_ne hX 90 qX12_count_80 rfl (fun q80 => ?_) (fun q80 => ?_)
          · skip
            refine v_aload_n hX rfl qX12_count_90 ?_
            refine v_getIv hX g_X12_239 (Or.inl rfl) (hm.kd 38 rfl) (show _ = sB E 0 5 by rw [← hb]; rfl) qX12_count_91 ?_
            refine v_ireturn hX qX12_count_94 (hP _ _ ?_)
            first | (rw [q68]; exact ⟨rfl, rfl⟩) | (rw [q80]; exact ⟨rfl, rfl⟩) | (rw [w_is6 q17 q63 q68 q80]; exact ⟨rfl, rfl⟩)
          · skip
            refine v_aload_n hX rfl qX12_count_83 ?_
            refine v_getIv hX g_X12_120 (Or.inl rfl) (hm.kd 38 rfl) htp.1 qX12_count_84 ?_
            refine v_goto hX 94 qX12_count_87 rfl ?_
            refine v_ireturn hX qX12_count_94 (hP _ _ ?_)
            first | (rw [q68]; exact ⟨rfl, rfl⟩) | (rw [q80]; exact ⟨rfl, rfl⟩) | (rw [w_is6 q17 q63 q68 q80]; exact ⟨rfl, rfl⟩)
        · skip
          refine v_aload_n hX rfl qX12_count_71 ?_
          refine v_getIv hX g_X12_82 (Or.inl rfl) (hm.kd 38 rfl) htx.1 qX12_count_72 ?_
          refine v_goto hX 94 qX12_count_75 rfl ?_
          refine v_ireturn hX qX12_count_94 (hP _ _ ?_)
          first | (rw [q68]; exact ⟨rfl, rfl⟩) | (rw [q80]; exact ⟨rfl, rfl⟩) | (rw [w_is6 q17 q63 q68 q80]; exact ⟨rfl, rfl⟩)
    · skip
      refine v_iload_n hX rfl qX12_count_20 ?_
      first | refine v_if_neB hX 31 qX12_count_21 rfl (fun q21 => ?_) (fun q21 => ?_) | refine v_if_ne hX 31 qX12_count_21 rfl (fun q21 => ?_) (fun q21 => ?_)
      · skip
        refine v_iload_n hX rfl qX12_count_31 ?_
        refine v_iconst hX li_1 qX12_count_32 ?_
        refine v_icmp_ne hX 43 qX12_count_33 rfl (fun q33 => ?_) (fun q33 => ?_)
        · skip
          refine v_iload_n hX rfl qX12_count_43 ?_
          refine v_iconst hX li_2 qX12_count_44 ?_
          refine v_icmp_ne hX 55 qX12_count_45 rfl (fun q45 => ?_) (fun q45 => ?_)
          · skip
            refine v_aload_n hX rfl qX12_count_55 ?_
            refine v_getIv hX g_X12_111 (Or.inl rfl) (hm.kd 38 rfl) (show _ = sB E 0 4 by rw [← hb]; rfl) qX12_count_56 ?_
            refine v_ireturn hX qX12_count_59 (hP _ _ ?_)
            first | (rw [q21]; exact ⟨rfl, rfl⟩) | (rw [q33]; exact ⟨rfl, rfl⟩) | (rw [q45]; exact ⟨rfl, rfl⟩) | (rw [w_is3 q9.1 q17 q21 q33 q45]; exact ⟨rfl, rfl⟩)
          · skip
            refine v_aload_n hX rfl qX12_count_48 ?_
            refine v_getIv hX g_X12_29 (Or.inl rfl) (hm.kd 38 rfl) (show _ = sB E 0 3 by rw [← hb]; rfl) qX12_count_49 ?_
            refine v_goto hX 59 qX12_count_52 rfl ?_
            refine v_ireturn hX qX12_count_59 (hP _ _ ?_)
            first | (rw [q21]; exact ⟨rfl, rfl⟩) | (rw [q33]; exact ⟨rfl, rfl⟩) | (rw [q45]; exact ⟨rfl, rfl⟩) | (rw [w_is3 q9.1 q17 q21 q33 q45]; exact ⟨rfl, rfl⟩)
        · skip
          refine v_aload_n hX rfl qX12_count_36 ?_
          refine v_getIv hX g_X12_108 (Or.inl rfl) (hm.kd 38 rfl) (show _ = sB E 0 2 by rw [← hb]; rfl) qX12_count_37 ?_
          refine v_goto hX 59 qX12_count_40 rfl ?_
          refine v_ireturn hX qX12_count_59 (hP _ _ ?_)
          first | (rw [q21]; exact ⟨rfl, rfl⟩) | (rw [q33]; exact ⟨rfl, rfl⟩) | (rw [q45]; exact ⟨rfl, rfl⟩) | (rw [w_is3 q9.1 q17 q21 q33 q45]; exact ⟨rfl, rfl⟩)
      · skip
        refine v_aload_n hX rfl qX12_count_24 ?_
        refine v_getIv hX g_X12_91 (Or.inl rfl) (hm.kd 38 rfl) hp.1 qX12_count_25 ?_
        refine v_goto hX 59 qX12_count_28 rfl ?_
        refine v_ireturn hX qX12_count_59 (hP _ _ ?_)
        first | (rw [q21]; exact ⟨rfl, rfl⟩) | (rw [q33]; exact ⟨rfl, rfl⟩) | (rw [q45]; exact ⟨rfl, rfl⟩) | (rw [w_is3 q9.1 q17 q21 q33 q45]; exact ⟨rfl, rfl⟩)
  · skip
    refine v_bipush hX lb_n2 qX12_count_12 ?_
    refine v_ireturn hX qX12_count_14 (hP _ _ ?_)
    exact ⟨by rw [countI, if_neg (fun z => q9 (by rw [z]; decide)), if_neg (fun z => q9 (by rw [z]; decide)), if_neg (fun z => q9 (by rw [z]; decide)), if_neg (fun z => q9 (by rw [z]; decide)), if_neg (fun z => q9 (by rw [z]; decide)), if_neg (fun z => q9 (by rw [z]; decide)), if_neg (fun z => q9 (by rw [z]; decide)), if_neg (fun z => q9 (by rw [z]; decide))], rfl⟩
theorem qX12_set_0 : Dq cX12_set 0 (.iload_n 1) 1 1 := ⟨by decide +kernel, rfl⟩
theorem qX12_set_1 : Dq cX12_set 1 (.i2l) 1 2 := ⟨by decide +kernel, rfl⟩
theorem qX12_set_2 : Dq cX12_set 2 (.lconst 0) 1 3 := ⟨by decide +kernel, rfl⟩
theorem qX12_set_3 : Dq cX12_set 3 (.ldc2_w 94) 3 6 := ⟨by decide +kernel, rfl⟩
theorem qX12_set_6 : Dq cX12_set 6 (.invokestatic 87) 3 9 := ⟨by decide +kernel, rfl⟩
theorem qX12_set_9 : Dq cX12_set 9 (.ifCond .eq 60) 3 12 := ⟨by decide +kernel, rfl⟩
theorem qX12_set_12 : Dq cX12_set 12 (.iload_n 1) 1 13 := ⟨by decide +kernel, rfl⟩
theorem qX12_set_13 : Dq cX12_set 13 (.iconst 2) 1 14 := ⟨by decide +kernel, rfl⟩
theorem qX12_set_14 : Dq cX12_set 14 (.if_icmp .ge 10) 3 17 := ⟨by decide +kernel, rfl⟩
theorem qX12_set_17 : Dq cX12_set 17 (.iload_n 2) 1 18 := ⟨by decide +kernel, rfl⟩
theorem qX12_set_18 : Dq cX12_set 18 (.invokestatic 96) 3 21 := ⟨by decide +kernel, rfl⟩
theorem qX12_set_21 : Dq cX12_set 21 (.ifCond .eq 48) 3 24 := ⟨by decide +kernel, rfl⟩
theorem qX12_set_24 : Dq cX12_set 24 (.iload_n 3) 1 25 := ⟨by decide +kernel, rfl⟩
theorem qX12_set_25 : Dq cX12_set 25 (.i2l) 1 26 := ⟨by decide +kernel, rfl⟩
theorem qX12_set_26 : Dq cX12_set 26 (.lconst 0) 1 27 := ⟨by decide +kernel, rfl⟩
theorem qX12_set_27 : Dq cX12_set 27 (.iload_n 1) 1 28 := ⟨by decide +kernel, rfl⟩
theorem qX12_set_28 : Dq cX12_set 28 (.iconst 1) 1 29 := ⟨by decide +kernel, rfl⟩
theorem qX12_set_29 : Dq cX12_set 29 (.if_icmp .ne 9) 3 32 := ⟨by decide +kernel, rfl⟩
theorem qX12_set_32 : Dq cX12_set 32 (.ldc2_w 100) 3 35 := ⟨by decide +kernel, rfl⟩
theorem qX12_set_35 : Dq cX12_set 35 (.goto 28) 3 38 := ⟨by decide +kernel, rfl⟩
theorem qX12_set_38 : Dq cX12_set 38 (.iload_n 1) 1 39 := ⟨by decide +kernel, rfl⟩
theorem qX12_set_39 : Dq cX12_set 39 (.iconst 3) 1 40 := ⟨by decide +kernel, rfl⟩
theorem qX12_set_40 : Dq cX12_set 40 (.if_icmp .ne 9) 3 43 := ⟨by decide +kernel, rfl⟩
theorem qX12_set_43 : Dq cX12_set 43 (.ldc2_w 102) 3 46 := ⟨by decide +kernel, rfl⟩
theorem qX12_set_46 : Dq cX12_set 46 (.goto 17) 3 49 := ⟨by decide +kernel, rfl⟩
theorem qX12_set_49 : Dq cX12_set 49 (.iload_n 1) 1 50 := ⟨by decide +kernel, rfl⟩
theorem qX12_set_50 : Dq cX12_set 50 (.iconst 4) 1 51 := ⟨by decide +kernel, rfl⟩
theorem qX12_set_51 : Dq cX12_set 51 (.if_icmp .ne 9) 3 54 := ⟨by decide +kernel, rfl⟩
theorem qX12_set_54 : Dq cX12_set 54 (.ldc2_w 104) 3 57 := ⟨by decide +kernel, rfl⟩
theorem qX12_set_57 : Dq cX12_set 57 (.goto 6) 3 60 := ⟨by decide +kernel, rfl⟩
theorem qX12_set_60 : Dq cX12_set 60 (.ldc2_w 106) 3 63 := ⟨by decide +kernel, rfl⟩
theorem qX12_set_63 : Dq cX12_set 63 (.invokestatic 87) 3 66 := ⟨by decide +kernel, rfl⟩
theorem qX12_set_66 : Dq cX12_set 66 (.ifCond .ne 6) 3 69 := ⟨by decide +kernel, rfl⟩
theorem qX12_set_69 : Dq cX12_set 69 (.bipush (-2)) 2 71 := ⟨by decide +kernel, rfl⟩
theorem qX12_set_71 : Dq cX12_set 71 (.ireturn) 1 72 := ⟨by decide +kernel, rfl⟩
theorem qX12_set_72 : Dq cX12_set 72 (.iload_n 1) 1 73 := ⟨by decide +kernel, rfl⟩
theorem qX12_set_73 : Dq cX12_set 73 (.ifCond .ne 12) 3 76 := ⟨by decide +kernel, rfl⟩
theorem qX12_set_76 : Dq cX12_set 76 (.aload_n 0) 1 77 := ⟨by decide +kernel, rfl⟩
theorem qX12_set_77 : Dq cX12_set 77 (.getfield 23) 3 80 := ⟨by decide +kernel, rfl⟩
theorem qX12_set_80 : Dq cX12_set 80 (.iload_n 2) 1 81 := ⟨by decide +kernel, rfl⟩
theorem qX12_set_81 : Dq cX12_set 81 (.iaload) 1 82 := ⟨by decide +kernel, rfl⟩
theorem qX12_set_82 : Dq cX12_set 82 (.goto 45) 3 85 := ⟨by decide +kernel, rfl⟩
theorem qX12_set_85 : Dq cX12_set 85 (.iload_n 1) 1 86 := ⟨by decide +kernel, rfl⟩
theorem qX12_set_86 : Dq cX12_set 86 (.iconst 1) 1 87 := ⟨by decide +kernel, rfl⟩
theorem qX12_set_87 : Dq cX12_set 87 (.if_icmp .ne 12) 3 90 := ⟨by decide +kernel, rfl⟩
theorem qX12_set_90 : Dq cX12_set 90 (.aload_n 0) 1 91 := ⟨by decide +kernel, rfl⟩
theorem qX12_set_91 : Dq cX12_set 91 (.getfield 26) 3 94 := ⟨by decide +kernel, rfl⟩
theorem qX12_set_94 : Dq cX12_set 94 (.iload_n 2) 1 95 := ⟨by decide +kernel, rfl⟩
theorem qX12_set_95 : Dq cX12_set 95 (.iaload) 1 96 := ⟨by decide +kernel, rfl⟩
theorem qX12_set_96 : Dq cX12_set 96 (.goto 31) 3 99 := ⟨by decide +kernel, rfl⟩
theorem qX12_set_99 : Dq cX12_set 99 (.iload_n 1) 1 100 := ⟨by decide +kernel, rfl⟩
theorem qX12_set_100 : Dq cX12_set 100 (.iconst 2) 1 101 := ⟨by decide +kernel, rfl⟩
theorem qX12_set_101 : Dq cX12_set 101 (.if_icmp .ne 10) 3 104 := ⟨by decide +kernel, rfl⟩
theorem qX12_set_104 : Dq cX12_set 104 (.aload_n 0) 1 105 := ⟨by decide +kernel, rfl⟩
theorem qX12_set_105 : Dq cX12_set 105 (.getfield 108) 3 108 := ⟨by decide +kernel, rfl⟩
theorem qX12_set_108 : Dq cX12_set 108 (.goto 19) 3 111 := ⟨by decide +kernel, rfl⟩
theorem qX12_set_111 : Dq cX12_set 111 (.iload_n 1) 1 112 := ⟨by decide +kernel, rfl⟩
theorem qX12_set_112 : Dq cX12_set 112 (.iconst 3) 1 113 := ⟨by decide +kernel, rfl⟩
theorem qX12_set_113 : Dq cX12_set 113 (.if_icmp .ne 10) 3 116 := ⟨by decide +kernel, rfl⟩
theorem qX12_set_116 : Dq cX12_set 116 (.aload_n 0) 1 117 := ⟨by decide +kernel, rfl⟩
theorem qX12_set_117 : Dq cX12_set 117 (.getfield 29) 3 120 := ⟨by decide +kernel, rfl⟩
theorem qX12_set_120 : Dq cX12_set 120 (.goto 7) 3 123 := ⟨by decide +kernel, rfl⟩
theorem qX12_set_123 : Dq cX12_set 123 (.aload_n 0) 1 124 := ⟨by decide +kernel, rfl⟩
theorem qX12_set_124 : Dq cX12_set 124 (.getfield 111) 3 127 := ⟨by decide +kernel, rfl⟩
theorem qX12_set_127 : Dq cX12_set 127 (.istore 4) 2 129 := ⟨by decide +kernel, rfl⟩
theorem qX12_set_129 : Dq cX12_set 129 (.iload_n 1) 1 130 := ⟨by decide +kernel, rfl⟩
theorem qX12_set_130 : Dq cX12_set 130 (.ifCond .ne 13) 3 133 := ⟨by decide +kernel, rfl⟩
theorem qX12_set_133 : Dq cX12_set 133 (.aload_n 0) 1 134 := ⟨by decide +kernel, rfl⟩
theorem qX12_set_134 : Dq cX12_set 134 (.getfield 23) 3 137 := ⟨by decide +kernel, rfl⟩
theorem qX12_set_137 : Dq cX12_set 137 (.iload_n 2) 1 138 := ⟨by decide +kernel, rfl⟩
theorem qX12_set_138 : Dq cX12_set 138 (.iload_n 3) 1 139 := ⟨by decide +kernel, rfl⟩
theorem qX12_set_139 : Dq cX12_set 139 (.iastore) 1 140 := ⟨by decide +kernel, rfl⟩
theorem qX12_set_140 : Dq cX12_set 140 (.goto 49) 3 143 := ⟨by decide +kernel, rfl⟩
theorem qX12_set_143 : Dq cX12_set 143 (.iload_n 1) 1 144 := ⟨by decide +kernel, rfl⟩
theorem qX12_set_144 : Dq cX12_set 144 (.iconst 1) 1 145 := ⟨by decide +kernel, rfl⟩
theorem qX12_set_145 : Dq cX12_set 145 (.if_icmp .ne 13) 3 148 := ⟨by decide +kernel, rfl⟩
theorem qX12_set_148 : Dq cX12_set 148 (.aload_n 0) 1 149 := ⟨by decide +kernel, rfl⟩
theorem qX12_set_149 : Dq cX12_set 149 (.getfield 26) 3 152 := ⟨by decide +kernel, rfl⟩
theorem qX12_set_152 : Dq cX12_set 152 (.iload_n 2) 1 153 := ⟨by decide +kernel, rfl⟩
theorem qX12_set_153 : Dq cX12_set 153 (.iload_n 3) 1 154 := ⟨by decide +kernel, rfl⟩
theorem qX12_set_154 : Dq cX12_set 154 (.iastore) 1 155 := ⟨by decide +kernel, rfl⟩
theorem qX12_set_155 : Dq cX12_set 155 (.goto 34) 3 158 := ⟨by decide +kernel, rfl⟩
theorem qX12_set_158 : Dq cX12_set 158 (.iload_n 1) 1 159 := ⟨by decide +kernel, rfl⟩
theorem qX12_set_159 : Dq cX12_set 159 (.iconst 2) 1 160 := ⟨by decide +kernel, rfl⟩
theorem qX12_set_160 : Dq cX12_set 160 (.if_icmp .ne 11) 3 163 := ⟨by decide +kernel, rfl⟩
theorem qX12_set_163 : Dq cX12_set 163 (.aload_n 0) 1 164 := ⟨by decide +kernel, rfl⟩
theorem qX12_set_164 : Dq cX12_set 164 (.iload_n 3) 1 165 := ⟨by decide +kernel, rfl⟩
theorem qX12_set_165 : Dq cX12_set 165 (.putfield 108) 3 168 := ⟨by decide +kernel, rfl⟩
theorem qX12_set_168 : Dq cX12_set 168 (.goto 21) 3 171 := ⟨by decide +kernel, rfl⟩
theorem qX12_set_171 : Dq cX12_set 171 (.iload_n 1) 1 172 := ⟨by decide +kernel, rfl⟩
theorem qX12_set_172 : Dq cX12_set 172 (.iconst 3) 1 173 := ⟨by decide +kernel, rfl⟩
theorem qX12_set_173 : Dq cX12_set 173 (.if_icmp .ne 11) 3 176 := ⟨by decide +kernel, rfl⟩
theorem qX12_set_176 : Dq cX12_set 176 (.aload_n 0) 1 177 := ⟨by decide +kernel, rfl⟩
theorem qX12_set_177 : Dq cX12_set 177 (.iload_n 3) 1 178 := ⟨by decide +kernel, rfl⟩
theorem qX12_set_178 : Dq cX12_set 178 (.putfield 29) 3 181 := ⟨by decide +kernel, rfl⟩
theorem qX12_set_181 : Dq cX12_set 181 (.goto 8) 3 184 := ⟨by decide +kernel, rfl⟩
theorem qX12_set_184 : Dq cX12_set 184 (.aload_n 0) 1 185 := ⟨by decide +kernel, rfl⟩
theorem qX12_set_185 : Dq cX12_set 185 (.iload_n 3) 1 186 := ⟨by decide +kernel, rfl⟩
theorem qX12_set_186 : Dq cX12_set 186 (.putfield 111) 3 189 := ⟨by decide +kernel, rfl⟩
theorem qX12_set_189 : Dq cX12_set 189 (.iload 4) 2 191 := ⟨by decide +kernel, rfl⟩
theorem qX12_set_191 : Dq cX12_set 191 (.ireturn) 1 192 := ⟨by decide +kernel, rfl⟩
set_option maxRecDepth 100000 in
set_option maxHeartbeats 4000000 in
theorem m_set {G : Glb} {h : AHp} {E : Sst} (hc : MW h E) (what of v : Int32) : CP G m_X12_set 3 0 0 [.ref 38, .int what, .int of, .int v] h (fun r h' => r = some (.int (setI (sB E) what of v).1) ∧ ∃ σ J, h' = mkH h σ J ∧ MW (mkH h σ J) (setB E (setI (sB E) what of v).2) ∧ K58 h σ) := by
  suffices key : ∀ P : Option Value → AHp → Prop, (∀ r h', (r = some (.int (setI (sB E) what of v).1) ∧ ∃ σ J, h' = mkH h σ J ∧ MW (mkH h σ J) (setB E (setI (sB E) what of v).2) ∧ K58 h σ) → P r h') → CP G m_X12_set 3 0 0 [.ref 38, .int what, .int of, .int v] h P from key _ (fun _ _ z => z)
  intro P hP
  obtain ⟨hm, htx, hp, hb, hkp, htp, hst, hok⟩ := id hc
  have hc6 := hok.1
  have hm6 := hok.2.1
  have hkd : ∀ i, i < sM E → sK E i < 6 := fun i hi => (hok.2.2.1 i hi).1
  have hnu : ∀ i, i < sM E → inR (sN E i) 9 := fun i hi => (hok.2.2.1 i hi).2
  have hbe : BeOK (bm h) (sC E) := by rw [hb]; exact hok.2.2.2.1
  refine CP.of (by decide +kernel) (Nat.le_of_ble_eq_true rfl) fun X hX hR hnm => ?_
  show V X G 5 0 0 _ 0 [some (.ref 38), some (.int what), some (.int of), some (.int v), none] [] h
  refine v_iload_n hX rfl qX12_set_0 ?_
  refine v_i2l hX qX12_set_1 ?_
  refine v_lconst hX ll_0 qX12_set_2 ?_
  refine v_ldc2 hX c_X12_94 qX12_set_3 ?_
  refine v_callSq hX hR k_X12_87 (m_in _ (by exact (0)) (by exact (4))) rfl (Nat.le_of_ble_eq_true rfl) rfl (Nat.le_of_ble_eq_true rfl) ⟨Nat.le_of_ble_eq_true rfl, Nat.le_of_ble_eq_true rfl⟩ qX12_set_6 ?_
  rintro _ _ ⟨rfl, rfl⟩
  first | refine v_if_eqB hX 69 qX12_set_9 rfl (fun q9 => ?_) (fun q9 => ?_) | refine v_if_eq hX 69 qX12_set_9 rfl (fun q9 => ?_) (fun q9 => ?_)
  · skip
    refine v_bipush hX lb_n2 qX12_set_69 ?_
    refine v_ireturn hX qX12_set_71 (hP _ _ ?_)
    rw [setI, if_neg (fun z => q9 (by rw [z]; decide)), if_neg (fun z => q9 (by rw [z]; decide)), if_neg (fun z => q9 (by rw [z]; decide)), if_neg (fun z => q9 (by rw [z]; decide)), if_neg (fun z => q9 (by rw [z]; decide))]
    exact ⟨rfl, h.1, h.2.2.1, rfl, hc, fun a _ => rfl⟩
  · skip
    obtain ⟨w, hw, rfl⟩ := rng_ex 4 (by omega) q9
    have hw5 : w = 0 ∨ w = 1 ∨ w = 2 ∨ w = 3 ∨ w = 4 := by omega
    rcases hw5 with rfl | rfl | rfl | rfl | rfl
    · skip
      refine v_iload_n hX rfl qX12_set_12 ?_
      refine v_iconst hX li_2 qX12_set_13 ?_
      refine v_icmp_geS hX 24 qX12_set_14 rfl (fun q14 => ?_) (fun q14 => ?_)
      · exact absurd q14 (by decide)
      · skip
        refine v_iload_n hX rfl qX12_set_17 ?_
        refine v_callSq hX hR k_X12_96 (m_isCell _) rfl (Nat.le_of_ble_eq_true rfl) rfl (Nat.le_of_ble_eq_true rfl) ⟨Nat.le_of_ble_eq_true rfl, Nat.le_of_ble_eq_true rfl⟩ qX12_set_18 ?_
        rintro _ _ ⟨rfl, rfl⟩
        first | refine v_if_eqB hX 69 qX12_set_21 rfl (fun q21 => ?_) (fun q21 => ?_) | refine v_if_eq hX 69 qX12_set_21 rfl (fun q21 => ?_) (fun q21 => ?_)
        · skip
          refine v_bipush hX lb_n2 qX12_set_69 ?_
          refine v_ireturn hX qX12_set_71 (hP _ _ ?_)
          first | (rw [setI, if_pos (show nI 0 = 0 from rfl), if_neg (fun z => q21 z.1)]; exact ⟨rfl, h.1, h.2.2.1, rfl, hc, fun a _ => rfl⟩) | (rw [setI, if_pos (show nI 0 = 0 from rfl), if_neg (fun z => q66 z.2)]; exact ⟨rfl, h.1, h.2.2.1, rfl, hc, fun a _ => rfl⟩)
        · obtain ⟨q, hq, rfl⟩ := isC_ex q21
          refine v_iload_n hX rfl qX12_set_24 ?_
          refine v_i2l hX qX12_set_25 ?_
          refine v_lconst hX ll_0 qX12_set_26 ?_
          refine v_iload_n hX rfl qX12_set_27 ?_
          refine v_iconst hX li_1 qX12_set_28 ?_
          refine v_icmp_ne hX 38 qX12_set_29 rfl (fun q29 => ?_) (fun q29 => ?_)
          · skip
            refine v_iload_n hX rfl qX12_set_38 ?_
            refine v_iconst hX li_3 qX12_set_39 ?_
            refine v_icmp_ne hX 49 qX12_set_40 rfl (fun q40 => ?_) (fun q40 => ?_)
            · skip
              refine v_iload_n hX rfl qX12_set_49 ?_
              refine v_iconst hX li_4 qX12_set_50 ?_
              refine v_icmp_ne hX 60 qX12_set_51 rfl (fun q51 => ?_) (fun q51 => ?_)
              · skip
                refine v_ldc2 hX c_X12_106 qX12_set_60 ?_
                refine v_callSq hX hR k_X12_87 (m_in _ (by exact (0)) (by exact (999999))) rfl (Nat.le_of_ble_eq_true rfl) rfl (Nat.le_of_ble_eq_true rfl) ⟨Nat.le_of_ble_eq_true rfl, Nat.le_of_ble_eq_true rfl⟩ qX12_set_63 ?_
                rintro _ _ ⟨rfl, rfl⟩
                first | refine v_if_neB hX 72 qX12_set_66 rfl (fun q66 => ?_) (fun q66 => ?_) | refine v_if_ne hX 72 qX12_set_66 rfl (fun q66 => ?_) (fun q66 => ?_)
                · skip
                  refine v_iload_n hX rfl qX12_set_72 ?_
                  first | refine v_if_neB hX 85 qX12_set_73 rfl (fun q73 => ?_) (fun q73 => ?_) | refine v_if_ne hX 85 qX12_set_73 rfl (fun q73 => ?_) (fun q73 => ?_)
                  · exact absurd rfl q73
                  · skip
                    refine v_aload_n hX rfl qX12_set_76 ?_
                    refine v_getR hX g_X12_23 (hm.kd 38 rfl) (hm.rf 3 rfl) qX12_set_77 ?_
                    refine v_iload_n hX rfl qX12_set_80 ?_
                    refine v_ialdV hX (hm.kd 42 rfl) (hm.ln 42 rfl) (by exact ix_n hq rfl) (show _ = sB E 1 q by rw [← hb, bm1 hq]) qX12_set_81 ?_
                    refine v_goto hX 127 qX12_set_82 rfl ?_
                    refine v_istore hX (Nat.le_of_ble_eq_true rfl) rfl (ls' := [some _, some _, some _, some _, some _]) rfl qX12_set_127 ?_
                    refine v_iload_n hX rfl qX12_set_129 ?_
                    first | refine v_if_neB hX 143 qX12_set_130 rfl (fun q130 => ?_) (fun q130 => ?_) | refine v_if_ne hX 143 qX12_set_130 rfl (fun q130 => ?_) (fun q130 => ?_)
                    · exact absurd rfl q130
                    · skip
                      refine v_aload_n hX rfl qX12_set_133 ?_
                      refine v_getR hX g_X12_23 (hm.kd 38 rfl) (hm.rf 3 rfl) qX12_set_134 ?_
                      refine v_iload_n hX rfl qX12_set_137 ?_
                      refine v_iload_n hX rfl qX12_set_138 ?_
                      refine v_iastJ hX (hm.kd 42 rfl) (hm.ln 42 rfl) (by exact ix_n hq rfl) qX12_set_139 ?_
                      refine v_goto hX 189 qX12_set_140 rfl ?_
                      refine v_iload hX rfl qX12_set_189 ?_
                      refine v_ireturn hX qX12_set_191 (hP _ _ ?_)
                      rw [setI, if_pos (show nI 0 = 0 from rfl), if_pos ⟨isCn hq, q66⟩, tn_nI (show q < 2000000 by omega)]
                      exact ⟨rfl, hc.st1 (Or.inl (Or.inl rfl)) (by rw [bm_u1 hq, hb]) (hok.2.2.2.1.o (inR.of (n := 999999) (by omega) q66.1 q66.2))⟩
                · skip
                  refine v_bipush hX lb_n2 qX12_set_69 ?_
                  refine v_ireturn hX qX12_set_71 (hP _ _ ?_)
                  first | (rw [setI, if_pos (show nI 0 = 0 from rfl), if_neg (fun z => q21 z.1)]; exact ⟨rfl, h.1, h.2.2.1, rfl, hc, fun a _ => rfl⟩) | (rw [setI, if_pos (show nI 0 = 0 from rfl), if_neg (fun z => q66 z.2)]; exact ⟨rfl, h.1, h.2.2.1, rfl, hc, fun a _ => rfl⟩)
              · exact absurd q51 (by decide)
            · exact absurd q40 (by decide)
          · exact absurd q29 (by decide)
    · skip
      refine v_iload_n hX rfl qX12_set_12 ?_
      refine v_iconst hX li_2 qX12_set_13 ?_
      refine v_icmp_geS hX 24 qX12_set_14 rfl (fun q14 => ?_) (fun q14 => ?_)
      · exact absurd q14 (by decide)
      · skip
        refine v_iload_n hX rfl qX12_set_17 ?_
        refine v_callSq hX hR k_X12_96 (m_isCell _) rfl (Nat.le_of_ble_eq_true rfl) rfl (Nat.le_of_ble_eq_true rfl) ⟨Nat.le_of_ble_eq_true rfl, Nat.le_of_ble_eq_true rfl⟩ qX12_set_18 ?_
        rintro _ _ ⟨rfl, rfl⟩
        first | refine v_if_eqB hX 69 qX12_set_21 rfl (fun q21 => ?_) (fun q21 => ?_) | refine v_if_eq hX 69 qX12_set_21 rfl (fun q21 => ?_) (fun q21 => ?_)
        · skip
          refine v_bipush hX lb_n2 qX12_set_69 ?_
          refine v_ireturn hX qX12_set_71 (hP _ _ ?_)
          first | (rw [setI, if_neg (show ¬ nI 1 = 0 by decide), if_pos (show nI 1 = 1 from rfl), if_neg (fun z => q21 z.1)]; exact ⟨rfl, h.1, h.2.2.1, rfl, hc, fun a _ => rfl⟩) | (rw [setI, if_neg (show ¬ nI 1 = 0 by decide), if_pos (show nI 1 = 1 from rfl), if_neg (fun z => q66 z.2)]; exact ⟨rfl, h.1, h.2.2.1, rfl, hc, fun a _ => rfl⟩)
        · obtain ⟨q, hq, rfl⟩ := isC_ex q21
          refine v_iload_n hX rfl qX12_set_24 ?_
          refine v_i2l hX qX12_set_25 ?_
          refine v_lconst hX ll_0 qX12_set_26 ?_
          refine v_iload_n hX rfl qX12_set_27 ?_
          refine v_iconst hX li_1 qX12_set_28 ?_
          refine v_icmp_ne hX 38 qX12_set_29 rfl (fun q29 => ?_) (fun q29 => ?_)
          · exact absurd rfl q29
          · skip
            refine v_ldc2 hX c_X12_100 qX12_set_32 ?_
            refine v_goto hX 63 qX12_set_35 rfl ?_
            refine v_callSq hX hR k_X12_87 (m_in _ (by exact (0)) (by exact (99))) rfl (Nat.le_of_ble_eq_true rfl) rfl (Nat.le_of_ble_eq_true rfl) ⟨Nat.le_of_ble_eq_true rfl, Nat.le_of_ble_eq_true rfl⟩ qX12_set_63 ?_
            rintro _ _ ⟨rfl, rfl⟩
            first | refine v_if_neB hX 72 qX12_set_66 rfl (fun q66 => ?_) (fun q66 => ?_) | refine v_if_ne hX 72 qX12_set_66 rfl (fun q66 => ?_) (fun q66 => ?_)
            · skip
              refine v_iload_n hX rfl qX12_set_72 ?_
              first | refine v_if_neB hX 85 qX12_set_73 rfl (fun q73 => ?_) (fun q73 => ?_) | refine v_if_ne hX 85 qX12_set_73 rfl (fun q73 => ?_) (fun q73 => ?_)
              · skip
                refine v_iload_n hX rfl qX12_set_85 ?_
                refine v_iconst hX li_1 qX12_set_86 ?_
                refine v_icmp_ne hX 99 qX12_set_87 rfl (fun q87 => ?_) (fun q87 => ?_)
                · exact absurd rfl q87
                · skip
                  refine v_aload_n hX rfl qX12_set_90 ?_
                  refine v_getR hX g_X12_26 (hm.kd 38 rfl) (hm.rf 4 rfl) qX12_set_91 ?_
                  refine v_iload_n hX rfl qX12_set_94 ?_
                  refine v_ialdV hX (hm.kd 43 rfl) (hm.ln 43 rfl) (by exact ix_n hq rfl) (show _ = sB E 2 q by rw [← hb, bm2 hq]) qX12_set_95 ?_
                  refine v_goto hX 127 qX12_set_96 rfl ?_
                  refine v_istore hX (Nat.le_of_ble_eq_true rfl) rfl (ls' := [some _, some _, some _, some _, some _]) rfl qX12_set_127 ?_
                  refine v_iload_n hX rfl qX12_set_129 ?_
                  first | refine v_if_neB hX 143 qX12_set_130 rfl (fun q130 => ?_) (fun q130 => ?_) | refine v_if_ne hX 143 qX12_set_130 rfl (fun q130 => ?_) (fun q130 => ?_)
                  · skip
                    refine v_iload_n hX rfl qX12_set_143 ?_
                    refine v_iconst hX li_1 qX12_set_144 ?_
                    refine v_icmp_ne hX 158 qX12_set_145 rfl (fun q145 => ?_) (fun q145 => ?_)
                    · exact absurd rfl q145
                    · skip
                      refine v_aload_n hX rfl qX12_set_148 ?_
                      refine v_getR hX g_X12_26 (hm.kd 38 rfl) (hm.rf 4 rfl) qX12_set_149 ?_
                      refine v_iload_n hX rfl qX12_set_152 ?_
                      refine v_iload_n hX rfl qX12_set_153 ?_
                      refine v_iastJ hX (hm.kd 43 rfl) (hm.ln 43 rfl) (by exact ix_n hq rfl) qX12_set_154 ?_
                      refine v_goto hX 189 qX12_set_155 rfl ?_
                      refine v_iload hX rfl qX12_set_189 ?_
                      refine v_ireturn hX qX12_set_191 (hP _ _ ?_)
                      rw [setI, if_neg (show ¬ nI 1 = 0 by decide), if_pos (show nI 1 = 1 from rfl), if_pos ⟨isCn hq, q66⟩, tn_nI (show q < 2000000 by omega)]
                      exact ⟨rfl, hc.st1 (Or.inl (Or.inr rfl)) (by rw [bm_u2 hq, hb]) (hok.2.2.2.1.t (inR.of (n := 99) (by omega) q66.1 q66.2))⟩
                  · exact absurd q130 (by decide)
              · exact absurd q73 (by decide)
            · skip
              refine v_bipush hX lb_n2 qX12_set_69 ?_
              refine v_ireturn hX qX12_set_71 (hP _ _ ?_)
              first | (rw [setI, if_neg (show ¬ nI 1 = 0 by decide), if_pos (show nI 1 = 1 from rfl), if_neg (fun z => q21 z.1)]; exact ⟨rfl, h.1, h.2.2.1, rfl, hc, fun a _ => rfl⟩) | (rw [setI, if_neg (show ¬ nI 1 = 0 by decide), if_pos (show nI 1 = 1 from rfl), if_neg (fun z => q66 z.2)]; exact ⟨rfl, h.1, h.2.2.1, rfl, hc, fun a _ => rfl⟩)
    · skip
      refine v_iload_n hX rfl qX12_set_12 ?_
      refine v_iconst hX li_2 qX12_set_13 ?_
      refine v_icmp_geS hX 24 qX12_set_14 rfl (fun q14 => ?_) (fun q14 => ?_)
      · skip
        refine v_iload_n hX rfl qX12_set_24 ?_
        refine v_i2l hX qX12_set_25 ?_
        refine v_lconst hX ll_0 qX12_set_26 ?_
        refine v_iload_n hX rfl qX12_set_27 ?_
        refine v_iconst hX li_1 qX12_set_28 ?_
        refine v_icmp_ne hX 38 qX12_set_29 rfl (fun q29 => ?_) (fun q29 => ?_)
        · skip
          refine v_iload_n hX rfl qX12_set_38 ?_
          refine v_iconst hX li_3 qX12_set_39 ?_
          refine v_icmp_ne hX 49 qX12_set_40 rfl (fun q40 => ?_) (fun q40 => ?_)
          · skip
            refine v_iload_n hX rfl qX12_set_49 ?_
            refine v_iconst hX li_4 qX12_set_50 ?_
            refine v_icmp_ne hX 60 qX12_set_51 rfl (fun q51 => ?_) (fun q51 => ?_)
            · skip
              refine v_ldc2 hX c_X12_106 qX12_set_60 ?_
              refine v_callSq hX hR k_X12_87 (m_in _ (by exact (0)) (by exact (999999))) rfl (Nat.le_of_ble_eq_true rfl) rfl (Nat.le_of_ble_eq_true rfl) ⟨Nat.le_of_ble_eq_true rfl, Nat.le_of_ble_eq_true rfl⟩ qX12_set_63 ?_
              rintro _ _ ⟨rfl, rfl⟩
              first | refine v_if_neB hX 72 qX12_set_66 rfl (fun q66 => ?_) (fun q66 => ?_) | refine v_if_ne hX 72 qX12_set_66 rfl (fun q66 => ?_) (fun q66 => ?_)
              · skip
                refine v_iload_n hX rfl qX12_set_72 ?_
                first | refine v_if_neB hX 85 qX12_set_73 rfl (fun q73 => ?_) (fun q73 => ?_) | refine v_if_ne hX 85 qX12_set_73 rfl (fun q73 => ?_) (fun q73 => ?_)
                · skip
                  refine v_iload_n hX rfl qX12_set_85 ?_
                  refine v_iconst hX li_1 qX12_set_86 ?_
                  refine v_icmp_ne hX 99 qX12_set_87 rfl (fun q87 => ?_) (fun q87 => ?_)
                  · skip
                    refine v_iload_n hX rfl qX12_set_99 ?_
                    refine v_iconst hX li_2 qX12_set_100 ?_
                    refine v_icmp_ne hX 111 qX12_set_101 rfl (fun q101 => ?_) (fun q101 => ?_)
                    · exact absurd rfl q101
                    · skip
                      refine v_aload_n hX rfl qX12_set_104 ?_
                      refine v_getIv hX g_X12_108 (Or.inl rfl) (hm.kd 38 rfl) (show _ = sB E 0 2 by rw [← hb]; rfl) qX12_set_105 ?_
                      refine v_goto hX 127 qX12_set_108 rfl ?_
                      refine v_istore hX (Nat.le_of_ble_eq_true rfl) rfl (ls' := [some _, some _, some _, some _, some _]) rfl qX12_set_127 ?_
                      refine v_iload_n hX rfl qX12_set_129 ?_
                      first | refine v_if_neB hX 143 qX12_set_130 rfl (fun q130 => ?_) (fun q130 => ?_) | refine v_if_ne hX 143 qX12_set_130 rfl (fun q130 => ?_) (fun q130 => ?_)
                      · skip
                        refine v_iload_n hX rfl qX12_set_143 ?_
                        refine v_iconst hX li_1 qX12_set_144 ?_
                        refine v_icmp_ne hX 158 qX12_set_145 rfl (fun q145 => ?_) (fun q145 => ?_)
                        · skip
                          refine v_iload_n hX rfl qX12_set_158 ?_
                          refine v_iconst hX li_2 qX12_set_159 ?_
                          refine v_icmp_ne hX 171 qX12_set_160 rfl (fun q160 => ?_) (fun q160 => ?_)
                          · exact absurd rfl q160
                          · skip
                            refine v_aload_n hX rfl qX12_set_163 ?_
                            refine v_iload_n hX rfl qX12_set_164 ?_
                            refine v_putI hX p_X12_108 (hm.kd 38 rfl) (Or.inl rfl) qX12_set_165 ?_
                            refine v_goto hX 189 qX12_set_168 rfl ?_
                            refine v_iload hX rfl qX12_set_189 ?_
                            refine v_ireturn hX qX12_set_191 (hP _ _ ?_)
                            rw [setI, if_neg (show ¬ nI 2 = 0 by decide), if_neg (show ¬ nI 2 = 1 by decide), if_pos (show nI 2 = 2 from rfl), if_pos q66]
                            exact ⟨rfl, hc.st1 (Or.inr ⟨rfl, Or.inl rfl⟩) (by rw [bm_uB, hb]) (hok.2.2.2.1.f (Or.inl ⟨rfl, inR.of (n := 999999) (by omega) q66.1 q66.2⟩))⟩
                        · exact absurd q145 (by decide)
                      · exact absurd q130 (by decide)
                  · exact absurd q87 (by decide)
                · exact absurd q73 (by decide)
              · skip
                refine v_bipush hX lb_n2 qX12_set_69 ?_
                refine v_ireturn hX qX12_set_71 (hP _ _ ?_)
                rw [setI, if_neg (show ¬ nI 2 = 0 by decide), if_neg (show ¬ nI 2 = 1 by decide), if_pos (show nI 2 = 2 from rfl), if_neg q66]
                exact ⟨rfl, h.1, h.2.2.1, rfl, hc, fun a _ => rfl⟩
            · exact absurd q51 (by decide)
          · exact absurd q40 (by decide)
        · exact absurd q29 (by decide)
      · exact absurd q14 (by decide)
    · skip
      refine v_iload_n hX rfl qX12_set_12 ?_
      refine v_iconst hX li_2 qX12_set_13 ?_
      refine v_icmp_geS hX 24 qX12_set_14 rfl (fun q14 => ?_) (fun q14 => ?_)
      · skip
        refine v_iload_n hX rfl qX12_set_24 ?_
        refine v_i2l hX qX12_set_25 ?_
        refine v_lconst hX ll_0 qX12_set_26 ?_
        refine v_iload_n hX rfl qX12_set_27 ?_
        refine v_iconst hX li_1 qX12_set_28 ?_
        refine v_icmp_ne hX 38 qX12_set_29 rfl (fun q29 => ?_) (fun q29 => ?_)
        · skip
          refine v_iload_n hX rfl qX12_set_38 ?_
          refine v_iconst hX li_3 qX12_set_39 ?_
          refine v_icmp_ne hX 49 qX12_set_40 rfl (fun q40 => ?_) (fun q40 => ?_)
          · exact absurd rfl q40
          · skip
            refine v_ldc2 hX c_X12_102 qX12_set_43 ?_
            refine v_goto hX 63 qX12_set_46 rfl ?_
            refine v_callSq hX hR k_X12_87 (m_in _ (by exact (0)) (by exact (23))) rfl (Nat.le_of_ble_eq_true rfl) rfl (Nat.le_of_ble_eq_true rfl) ⟨Nat.le_of_ble_eq_true rfl, Nat.le_of_ble_eq_true rfl⟩ qX12_set_63 ?_
            rintro _ _ ⟨rfl, rfl⟩
            first | refine v_if_neB hX 72 qX12_set_66 rfl (fun q66 => ?_) (fun q66 => ?_) | refine v_if_ne hX 72 qX12_set_66 rfl (fun q66 => ?_) (fun q66 => ?_)
            · skip
              refine v_iload_n hX rfl qX12_set_72 ?_
              first | refine v_if_neB hX 85 qX12_set_73 rfl (fun q73 => ?_) (fun q73 => ?_) | refine v_if_ne hX 85 qX12_set_73 rfl (fun q73 => ?_) (fun q73 => ?_)
              · skip
                refine v_iload_n hX rfl qX12_set_85 ?_
                refine v_iconst hX li_1 qX12_set_86 ?_
                refine v_icmp_ne hX 99 qX12_set_87 rfl (fun q87 => ?_) (fun q87 => ?_)
                · skip
                  refine v_iload_n hX rfl qX12_set_99 ?_
                  refine v_iconst hX li_2 qX12_set_100 ?_
                  refine v_icmp_ne hX 111 qX12_set_101 rfl (fun q101 => ?_) (fun q101 => ?_)
                  · skip
                    refine v_iload_n hX rfl qX12_set_111 ?_
                    refine v_iconst hX li_3 qX12_set_112 ?_
                    refine v_icmp_ne hX 123 qX12_set_113 rfl (fun q113 => ?_) (fun q113 => ?_)
                    · exact absurd rfl q113
                    · skip
                      refine v_aload_n hX rfl qX12_set_116 ?_
                      refine v_getIv hX g_X12_29 (Or.inl rfl) (hm.kd 38 rfl) (show _ = sB E 0 3 by rw [← hb]; rfl) qX12_set_117 ?_
                      refine v_goto hX 127 qX12_set_120 rfl ?_
                      refine v_istore hX (Nat.le_of_ble_eq_true rfl) rfl (ls' := [some _, some _, some _, some _, some _]) rfl qX12_set_127 ?_
                      refine v_iload_n hX rfl qX12_set_129 ?_
                      first | refine v_if_neB hX 143 qX12_set_130 rfl (fun q130 => ?_) (fun q130 => ?_) | refine v_if_ne hX 143 qX12_set_130 rfl (fun q130 => ?_) (fun q130 => ?_)
                      · skip
                        refine v_iload_n hX rfl qX12_set_143 ?_
                        refine v_iconst hX li_1 qX12_set_144 ?_
                        refine v_icmp_ne hX 158 qX12_set_145 rfl (fun q145 => ?_) (fun q145 => ?_)
                        · skip
                          refine v_iload_n hX rfl qX12_set_158 ?_
                          refine v_iconst hX li_2 qX12_set_159 ?_
                          refine v_icmp_ne hX 171 qX12_set_160 rfl (fun q160 => ?_) (fun q160 => ?_)
                          · skip
                            refine v_iload_n hX rfl qX12_set_171 ?_
                            refine v_iconst hX li_3 qX12_set_172 ?_
                            refine v_icmp_ne hX 184 qX12_set_173 rfl (fun q173 => ?_) (fun q173 => ?_)
                            · exact absurd rfl q173
                            · skip
                              refine v_aload_n hX rfl qX12_set_176 ?_
                              refine v_iload_n hX rfl qX12_set_177 ?_
                              refine v_putI hX p_X12_29 (hm.kd 38 rfl) (Or.inl rfl) qX12_set_178 ?_
                              refine v_goto hX 189 qX12_set_181 rfl ?_
                              refine v_iload hX rfl qX12_set_189 ?_
                              refine v_ireturn hX qX12_set_191 (hP _ _ ?_)
                              rw [setI, if_neg (show ¬ nI 3 = 0 by decide), if_neg (show ¬ nI 3 = 1 by decide), if_neg (show ¬ nI 3 = 2 by decide), if_pos (show nI 3 = 3 from rfl), if_pos q66]
                              exact ⟨rfl, hc.st1 (Or.inr ⟨rfl, Or.inr (Or.inl rfl)⟩) (by rw [bm_uH, hb]) (hok.2.2.2.1.f (Or.inr (Or.inl ⟨rfl, inR.of (n := 23) (by omega) q66.1 q66.2⟩)))⟩
                          · exact absurd q160 (by decide)
                        · exact absurd q145 (by decide)
                      · exact absurd q130 (by decide)
                  · exact absurd q101 (by decide)
                · exact absurd q87 (by decide)
              · exact absurd q73 (by decide)
            · skip
              refine v_bipush hX lb_n2 qX12_set_69 ?_
              refine v_ireturn hX qX12_set_71 (hP _ _ ?_)
              rw [setI, if_neg (show ¬ nI 3 = 0 by decide), if_neg (show ¬ nI 3 = 1 by decide), if_neg (show ¬ nI 3 = 2 by decide), if_pos (show nI 3 = 3 from rfl), if_neg q66]
              exact ⟨rfl, h.1, h.2.2.1, rfl, hc, fun a _ => rfl⟩
        · exact absurd q29 (by decide)
      · exact absurd q14 (by decide)
    · skip
      refine v_iload_n hX rfl qX12_set_12 ?_
      refine v_iconst hX li_2 qX12_set_13 ?_
      refine v_icmp_geS hX 24 qX12_set_14 rfl (fun q14 => ?_) (fun q14 => ?_)
      · skip
        refine v_iload_n hX rfl qX12_set_24 ?_
        refine v_i2l hX qX12_set_25 ?_
        refine v_lconst hX ll_0 qX12_set_26 ?_
        refine v_iload_n hX rfl qX12_set_27 ?_
        refine v_iconst hX li_1 qX12_set_28 ?_
        refine v_icmp_ne hX 38 qX12_set_29 rfl (fun q29 => ?_) (fun q29 => ?_)
        · skip
          refine v_iload_n hX rfl qX12_set_38 ?_
          refine v_iconst hX li_3 qX12_set_39 ?_
          refine v_icmp_ne hX 49 qX12_set_40 rfl (fun q40 => ?_) (fun q40 => ?_)
          · skip
            refine v_iload_n hX rfl qX12_set_49 ?_
            refine v_iconst hX li_4 qX12_set_50 ?_
            refine v_icmp_ne hX 60 qX12_set_51 rfl (fun q51 => ?_) (fun q51 => ?_)
            · exact absurd rfl q51
            · skip
              refine v_ldc2 hX c_X12_104 qX12_set_54 ?_
              refine v_goto hX 63 qX12_set_57 rfl ?_
              refine v_callSq hX hR k_X12_87 (m_in _ (by exact (0)) (by exact (59))) rfl (Nat.le_of_ble_eq_true rfl) rfl (Nat.le_of_ble_eq_true rfl) ⟨Nat.le_of_ble_eq_true rfl, Nat.le_of_ble_eq_true rfl⟩ qX12_set_63 ?_
              rintro _ _ ⟨rfl, rfl⟩
              first | refine v_if_neB hX 72 qX12_set_66 rfl (fun q66 => ?_) (fun q66 => ?_) | refine v_if_ne hX 72 qX12_set_66 rfl (fun q66 => ?_) (fun q66 => ?_)
              · skip
                refine v_iload_n hX rfl qX12_set_72 ?_
                first | refine v_if_neB hX 85 qX12_set_73 rfl (fun q73 => ?_) (fun q73 => ?_) | refine v_if_ne hX 85 qX12_set_73 rfl (fun q73 => ?_) (fun q73 => ?_)
                · skip
                  refine v_iload_n hX rfl qX12_set_85 ?_
                  refine v_iconst hX li_1 qX12_set_86 ?_
                  refine v_icmp_ne hX 99 qX12_set_87 rfl (fun q87 => ?_) (fun q87 => ?_)
                  · skip
                    refine v_iload_n hX rfl qX12_set_99 ?_
                    refine v_iconst hX li_2 qX12_set_100 ?_
                    refine v_icmp_ne hX 111 qX12_set_101 rfl (fun q101 => ?_) (fun q101 => ?_)
                    · skip
                      refine v_iload_n hX rfl qX12_set_111 ?_
                      refine v_iconst hX li_3 qX12_set_112 ?_
                      refine v_icmp_ne hX 123 qX12_set_113 rfl (fun q113 => ?_) (fun q113 => ?_)
                      · skip
                        refine v_aload_n hX rfl qX12_set_123 ?_
                        refine v_getIv hX g_X12_111 (Or.inl rfl) (hm.kd 38 rfl) (show _ = sB E 0 4 by rw [← hb]; rfl) qX12_set_124 ?_
                        refine v_istore hX (Nat.le_of_ble_eq_true rfl) rfl (ls' := [some _, some _, some _, some _, some _]) rfl qX12_set_127 ?_
                        refine v_iload_n hX rfl qX12_set_129 ?_
                        first | refine v_if_neB hX 143 qX12_set_130 rfl (fun q130 => ?_) (fun q130 => ?_) | refine v_if_ne hX 143 qX12_set_130 rfl (fun q130 => ?_) (fun q130 => ?_)
                        · skip
                          refine v_iload_n hX rfl qX12_set_143 ?_
                          refine v_iconst hX li_1 qX12_set_144 ?_
                          refine v_icmp_ne hX 158 qX12_set_145 rfl (fun q145 => ?_) (fun q145 => ?_)
                          · skip
                            refine v_iload_n hX rfl qX12_set_158 ?_
                            refine v_iconst hX li_2 qX12_set_159 ?_
                            refine v_icmp_ne hX 171 qX12_set_160 rfl (fun q160 => ?_) (fun q160 => ?_)
                            · skip
                              refine v_iload_n hX rfl qX12_set_171 ?_
                              refine v_iconst hX li_3 qX12_set_172 ?_
                              refine v_icmp_ne hX 184 qX12_set_173 rfl (fun q173 => ?_) (fun q173 => ?_)
                              · skip
                                refine v_aload_n hX rfl qX12_set_184 ?_
                                refine v_iload_n hX rfl qX12_set_185 ?_
                                refine v_putI hX p_X12_111 (hm.kd 38 rfl) (Or.inl rfl) qX12_set_186 ?_
                                refine v_iload hX rfl qX12_set_189 ?_
                                refine v_ireturn hX qX12_set_191 (hP _ _ ?_)
                                rw [setI, if_neg (show ¬ nI 4 = 0 by decide), if_neg (show ¬ nI 4 = 1 by decide), if_neg (show ¬ nI 4 = 2 by decide), if_neg (show ¬ nI 4 = 3 by decide), if_pos (show nI 4 = 4 from rfl), if_pos q66]
                                exact ⟨rfl, hc.st1 (Or.inr ⟨rfl, Or.inr (Or.inr rfl)⟩) (by rw [bm_uN, hb]) (hok.2.2.2.1.f (Or.inr (Or.inr (Or.inl ⟨rfl, inR.of (n := 59) (by omega) q66.1 q66.2⟩))))⟩
                              · exact absurd q173 (by decide)
                            · exact absurd q160 (by decide)
                          · exact absurd q145 (by decide)
                        · exact absurd q130 (by decide)
                      · exact absurd q113 (by decide)
                    · exact absurd q101 (by decide)
                  · exact absurd q87 (by decide)
                · exact absurd q73 (by decide)
              · skip
                refine v_bipush hX lb_n2 qX12_set_69 ?_
                refine v_ireturn hX qX12_set_71 (hP _ _ ?_)
                rw [setI, if_neg (show ¬ nI 4 = 0 by decide), if_neg (show ¬ nI 4 = 1 by decide), if_neg (show ¬ nI 4 = 2 by decide), if_neg (show ¬ nI 4 = 3 by decide), if_pos (show nI 4 = 4 from rfl), if_neg q66]
                exact ⟨rfl, h.1, h.2.2.1, rfl, hc, fun a _ => rfl⟩
          · exact absurd q40 (by decide)
        · exact absurd q29 (by decide)
      · exact absurd q14 (by decide)
theorem MW.pt {h : AHp} {E : Sst} (hc : MW h E) {σ : Nat → Nat → Int32} (hf : ∀ a k, ¬ (a = 44 ∨ a = 45) → ¬ (a = 38 ∧ k = 14) → σ a k = hpI h a k) {m : Nat} {k : Nat → Nat} {n : Nat → Int32} (ht : PtM (mkH h σ h.2.2.1) m k n) (hm : m ≤ 6) (hk : ∀ i, i < m → k i < 6 ∧ inR (n i) 9) : MW (mkH h σ h.2.2.1) (setP E m k n) := by
  obtain ⟨h1, h2, h3, h4, h5, h6, h7, h8⟩ := hc
  refine ⟨h1, h2.fr (hf 38 3 (by omega) (by omega)) (funext fun k => hf 39 k (by omega) (by omega)) (funext fun k => hf 40 k (by omega) (by omega)), ht, (bm_ext (h := mkH h σ h.2.2.1) (h' := h) (fun k _ => hf 42 k (by omega) (by omega)) (fun k _ => hf 43 k (by omega) (by omega)) (hf 38 9 (by omega) (by omega)) (hf 38 10 (by omega) (by omega)) (hf 38 11 (by omega) (by omega)) (hf 38 4 (by omega) (by omega))).trans h4, ?_, ⟨(hf 38 6 (by omega) (by omega)).trans h6.1, fun i hi => (hf 41 i (by omega) (by omega)).trans (h6.2 i hi)⟩, fun i hi => ?_, ⟨h8.1, hm, hk, h8.2.2.2⟩⟩
  · rcases h5 with ⟨z1, z2⟩ | ⟨b, z1, z2, z3, z4, z5, z6, z7⟩
    · exact Or.inl ⟨z1, (hf 38 46 (by omega) (by omega)).trans z2⟩
    · exact Or.inr ⟨b, z1, fun k hk => ⟨(hf 52 k (by omega) (by omega)).trans (z2 k hk).1, (hf 53 k (by omega) (by omega)).trans (z2 k hk).2⟩, (hf 38 46 (by omega) (by omega)).trans z3, (hf 38 47 (by omega) (by omega)).trans z4, (hf 38 48 (by omega) (by omega)).trans z5, (hf 38 49 (by omega) (by omega)).trans z6, z7⟩
  · obtain ⟨g1, g2⟩ := h7 i hi
    exact ⟨(hf 54 i (by omega) (by omega)).trans g1, fun z => ⟨(hf 55 i (by omega) (by omega)).trans (g2 z).1, (hf 56 i (by omega) (by omega)).trans (g2 z).2.1, fun k hk => (hf 57 _ (by omega) (by omega)).trans ((g2 z).2.2 k hk)⟩⟩
theorem qX12_looker_0 : Dq cX12_looker 0 (.iload_n 1) 1 1 := ⟨by decide +kernel, rfl⟩
theorem qX12_looker_1 : Dq cX12_looker 1 (.i2l) 1 2 := ⟨by decide +kernel, rfl⟩
theorem qX12_looker_2 : Dq cX12_looker 2 (.lconst 0) 1 3 := ⟨by decide +kernel, rfl⟩
theorem qX12_looker_3 : Dq cX12_looker 3 (.ldc2_w 114) 3 6 := ⟨by decide +kernel, rfl⟩
theorem qX12_looker_6 : Dq cX12_looker 6 (.invokestatic 87) 3 9 := ⟨by decide +kernel, rfl⟩
theorem qX12_looker_9 : Dq cX12_looker 9 (.ifCond .eq 15) 3 12 := ⟨by decide +kernel, rfl⟩
theorem qX12_looker_12 : Dq cX12_looker 12 (.iload_n 2) 1 13 := ⟨by decide +kernel, rfl⟩
theorem qX12_looker_13 : Dq cX12_looker 13 (.i2l) 1 14 := ⟨by decide +kernel, rfl⟩
theorem qX12_looker_14 : Dq cX12_looker 14 (.lconst 0) 1 15 := ⟨by decide +kernel, rfl⟩
theorem qX12_looker_15 : Dq cX12_looker 15 (.ldc2_w 116) 3 18 := ⟨by decide +kernel, rfl⟩
theorem qX12_looker_18 : Dq cX12_looker 18 (.invokestatic 87) 3 21 := ⟨by decide +kernel, rfl⟩
theorem qX12_looker_21 : Dq cX12_looker 21 (.ifCond .ne 6) 3 24 := ⟨by decide +kernel, rfl⟩
theorem qX12_looker_24 : Dq cX12_looker 24 (.bipush (-2)) 2 26 := ⟨by decide +kernel, rfl⟩
theorem qX12_looker_26 : Dq cX12_looker 26 (.ireturn) 1 27 := ⟨by decide +kernel, rfl⟩
theorem qX12_looker_27 : Dq cX12_looker 27 (.aload_n 0) 1 28 := ⟨by decide +kernel, rfl⟩
theorem qX12_looker_28 : Dq cX12_looker 28 (.getfield 91) 3 31 := ⟨by decide +kernel, rfl⟩
theorem qX12_looker_31 : Dq cX12_looker 31 (.bipush 6) 2 33 := ⟨by decide +kernel, rfl⟩
theorem qX12_looker_33 : Dq cX12_looker 33 (.if_icmp .ne 6) 3 36 := ⟨by decide +kernel, rfl⟩
theorem qX12_looker_36 : Dq cX12_looker 36 (.bipush (-4)) 2 38 := ⟨by decide +kernel, rfl⟩
theorem qX12_looker_38 : Dq cX12_looker 38 (.ireturn) 1 39 := ⟨by decide +kernel, rfl⟩
theorem qX12_looker_39 : Dq cX12_looker 39 (.aload_n 0) 1 40 := ⟨by decide +kernel, rfl⟩
theorem qX12_looker_40 : Dq cX12_looker 40 (.getfield 32) 3 43 := ⟨by decide +kernel, rfl⟩
theorem qX12_looker_43 : Dq cX12_looker 43 (.aload_n 0) 1 44 := ⟨by decide +kernel, rfl⟩
theorem qX12_looker_44 : Dq cX12_looker 44 (.getfield 91) 3 47 := ⟨by decide +kernel, rfl⟩
theorem qX12_looker_47 : Dq cX12_looker 47 (.iload_n 1) 1 48 := ⟨by decide +kernel, rfl⟩
theorem qX12_looker_48 : Dq cX12_looker 48 (.iastore) 1 49 := ⟨by decide +kernel, rfl⟩
theorem qX12_looker_49 : Dq cX12_looker 49 (.aload_n 0) 1 50 := ⟨by decide +kernel, rfl⟩
theorem qX12_looker_50 : Dq cX12_looker 50 (.getfield 35) 3 53 := ⟨by decide +kernel, rfl⟩
theorem qX12_looker_53 : Dq cX12_looker 53 (.aload_n 0) 1 54 := ⟨by decide +kernel, rfl⟩
theorem qX12_looker_54 : Dq cX12_looker 54 (.getfield 91) 3 57 := ⟨by decide +kernel, rfl⟩
theorem qX12_looker_57 : Dq cX12_looker 57 (.iload_n 2) 1 58 := ⟨by decide +kernel, rfl⟩
theorem qX12_looker_58 : Dq cX12_looker 58 (.iastore) 1 59 := ⟨by decide +kernel, rfl⟩
theorem qX12_looker_59 : Dq cX12_looker 59 (.aload_n 0) 1 60 := ⟨by decide +kernel, rfl⟩
theorem qX12_looker_60 : Dq cX12_looker 60 (.dup) 1 61 := ⟨by decide +kernel, rfl⟩
theorem qX12_looker_61 : Dq cX12_looker 61 (.getfield 91) 3 64 := ⟨by decide +kernel, rfl⟩
theorem qX12_looker_64 : Dq cX12_looker 64 (.iconst 1) 1 65 := ⟨by decide +kernel, rfl⟩
theorem qX12_looker_65 : Dq cX12_looker 65 (.iadd) 1 66 := ⟨by decide +kernel, rfl⟩
theorem qX12_looker_66 : Dq cX12_looker 66 (.putfield 91) 3 69 := ⟨by decide +kernel, rfl⟩
theorem qX12_looker_69 : Dq cX12_looker 69 (.aload_n 0) 1 70 := ⟨by decide +kernel, rfl⟩
theorem qX12_looker_70 : Dq cX12_looker 70 (.getfield 91) 3 73 := ⟨by decide +kernel, rfl⟩
theorem qX12_looker_73 : Dq cX12_looker 73 (.iconst 1) 1 74 := ⟨by decide +kernel, rfl⟩
theorem qX12_looker_74 : Dq cX12_looker 74 (.isub) 1 75 := ⟨by decide +kernel, rfl⟩
theorem qX12_looker_75 : Dq cX12_looker 75 (.ireturn) 1 76 := ⟨by decide +kernel, rfl⟩
set_option maxRecDepth 100000 in
set_option maxHeartbeats 4000000 in
theorem m_looker {G : Glb} {h : AHp} {E : Sst} (hc : MW h E) (k n : Int32) : CP G m_X12_looker 2 0 0 [.ref 38, .int k, .int n] h (fun r h' => r = some (.int (lookerI E k n).1) ∧ ∃ σ J, h' = mkH h σ J ∧ MW (mkH h σ J) (lookerI E k n).2 ∧ K58 h σ) := by
  suffices key : ∀ P : Option Value → AHp → Prop, (∀ r h', (r = some (.int (lookerI E k n).1) ∧ ∃ σ J, h' = mkH h σ J ∧ MW (mkH h σ J) (lookerI E k n).2 ∧ K58 h σ) → P r h') → CP G m_X12_looker 2 0 0 [.ref 38, .int k, .int n] h P from key _ (fun _ _ z => z)
  intro P hP
  obtain ⟨hm, htx, hp, hb, hkp, htp, hst, hok⟩ := id hc
  have hc6 := hok.1
  have hm6 := hok.2.1
  have hkd : ∀ i, i < sM E → sK E i < 6 := fun i hi => (hok.2.2.1 i hi).1
  have hnu : ∀ i, i < sM E → inR (sN E i) 9 := fun i hi => (hok.2.2.1 i hi).2
  have hbe : BeOK (bm h) (sC E) := by rw [hb]; exact hok.2.2.2.1
  refine CP.of (by decide +kernel) (Nat.le_of_ble_eq_true rfl) fun X hX hR hnm => ?_
  show V X G 3 0 0 _ 0 [some (.ref 38), some (.int k), some (.int n)] [] h
  refine v_iload_n hX rfl qX12_looker_0 ?_
  refine v_i2l hX qX12_looker_1 ?_
  refine v_lconst hX ll_0 qX12_looker_2 ?_
  refine v_ldc2 hX c_X12_114 qX12_looker_3 ?_
  refine v_callSq hX hR k_X12_87 (m_in _ (by exact (0)) (by exact (5))) rfl (Nat.le_of_ble_eq_true rfl) rfl (Nat.le_of_ble_eq_true rfl) ⟨Nat.le_of_ble_eq_true rfl, Nat.le_of_ble_eq_true rfl⟩ qX12_looker_6 ?_
  rintro _ _ ⟨rfl, rfl⟩
  first | refine v_if_eqB hX 24 qX12_looker_9 rfl (fun q9 => ?_) (fun q9 => ?_) | refine v_if_eq hX 24 qX12_looker_9 rfl (fun q9 => ?_) (fun q9 => ?_)
  · skip
    refine v_bipush hX lb_n2 qX12_looker_24 ?_
    refine v_ireturn hX qX12_looker_26 (hP _ _ ?_)
    first | (rw [lookerI, if_neg (fun z => q9 z.1)]; exact ⟨rfl, h.1, h.2.2.1, rfl, hc, fun a _ => rfl⟩) | (rw [lookerI, if_neg (fun z => q21 z.2)]; exact ⟨rfl, h.1, h.2.2.1, rfl, hc, fun a _ => rfl⟩)
  · skip
    refine v_iload_n hX rfl qX12_looker_12 ?_
    refine v_i2l hX qX12_looker_13 ?_
    refine v_lconst hX ll_0 qX12_looker_14 ?_
    refine v_ldc2 hX c_X12_116 qX12_looker_15 ?_
    refine v_callSq hX hR k_X12_87 (m_in _ (by exact (0)) (by exact (9))) rfl (Nat.le_of_ble_eq_true rfl) rfl (Nat.le_of_ble_eq_true rfl) ⟨Nat.le_of_ble_eq_true rfl, Nat.le_of_ble_eq_true rfl⟩ qX12_looker_18 ?_
    rintro _ _ ⟨rfl, rfl⟩
    first | refine v_if_neB hX 27 qX12_looker_21 rfl (fun q21 => ?_) (fun q21 => ?_) | refine v_if_ne hX 27 qX12_looker_21 rfl (fun q21 => ?_) (fun q21 => ?_)
    · skip
      obtain ⟨kd, hkd6, rfl⟩ := rng_ex 5 (by omega) q9
      obtain ⟨nu, hnu9, rfl⟩ := rng_ex 9 (by omega) q21
      refine v_aload_n hX rfl qX12_looker_27 ?_
      refine v_getIv hX g_X12_91 (Or.inl rfl) (hm.kd 38 rfl) hp.1 qX12_looker_28 ?_
      refine v_bipush hX lb_6 qX12_looker_31 ?_
      refine v_icmp_ne hX 39 qX12_looker_33 rfl (fun q33 => ?_) (fun q33 => ?_)
      · have hl : sM E < 6 := by
              rcases Nat.lt_or_ge (sM E) 6 with z | z
              · exact z
              · exact absurd (show nI (sM E) = 6 by rw [show sM E = 6 by omega]; rfl) q33
        refine v_aload_n hX rfl qX12_looker_39 ?_
        refine v_getR hX g_X12_32 (hm.kd 38 rfl) (hm.rf 5 rfl) qX12_looker_40 ?_
        refine v_aload_n hX rfl qX12_looker_43 ?_
        refine v_getIv hX g_X12_91 (Or.inl rfl) (hm.kd 38 rfl) hp.1 qX12_looker_44 ?_
        refine v_iload_n hX rfl qX12_looker_47 ?_
        refine v_iastJ hX (hm.kd 44 rfl) (hm.ln 44 rfl) (by exact ix_n (n := sM E) (by omega) rfl) qX12_looker_48 ?_
        refine v_aload_n hX rfl qX12_looker_49 ?_
        refine v_getR hX g_X12_35 (hm.kd 38 rfl) (hm.rf 6 rfl) qX12_looker_50 ?_
        refine v_aload_n hX rfl qX12_looker_53 ?_
        refine v_getIv hX g_X12_91 (Or.inl rfl) (hm.kd 38 rfl) (show _ = nI (sM E) from hp.1) qX12_looker_54 ?_
        refine v_iload_n hX rfl qX12_looker_57 ?_
        refine v_iastJ hX (hm.kd 45 rfl) (hm.ln 45 rfl) (by exact ix_n (n := sM E) (by omega) rfl) qX12_looker_58 ?_
        refine v_aload_n hX rfl qX12_looker_59 ?_
        refine v_dup hX rfl qX12_looker_60 ?_
        refine v_getIv hX g_X12_91 (Or.inl rfl) (hm.kd 38 rfl) (show _ = nI (sM E) from hp.1) qX12_looker_61 ?_
        refine v_iconst hX li_1 qX12_looker_64 ?_
        refine v_iadd hX qX12_looker_65 ?_
        refine v_eqI (nI_1 _) ?_
        refine v_putI hX p_X12_91 (hm.kd 38 rfl) (Or.inl rfl) qX12_looker_66 ?_
        refine v_aload_n hX rfl qX12_looker_69 ?_
        refine v_getIv hX g_X12_91 (Or.inl rfl) (hm.kd 38 rfl) (show _ = nI (sM E + 1) from rfl) qX12_looker_70 ?_
        refine v_iconst hX li_1 qX12_looker_73 ?_
        refine v_isub hX qX12_looker_74 ?_
        refine v_eqI (nI_pred _) ?_
        refine v_ireturn hX qX12_looker_75 (hP _ _ ?_)
        rw [lookerI, if_pos ⟨q9, q21⟩, if_pos hl]
        refine ⟨rfl, (stI (stI (stI h 44 (sM E) (nI kd)) 45 (sM E) (nI nu)) 38 14 (nI (sM E + 1))).1, h.2.2.1, rfl, hc.pt (fun a k a1 a2 => ?_) ⟨rfl, fun i hi => ?_⟩ (by omega) (fun i hi => ?_), fun a ha => funext fun k => ?_⟩
        · show hpI (stI _ _ _ _) _ _ = _; rw [hpI_st, if_neg a2, hpI_st, if_neg (fun z => a1 (Or.inr z.1)), hpI_st, if_neg (fun z => a1 (Or.inl z.1))]
        · show hpI (stI (stI (stI h 44 (sM E) (nI kd)) 45 (sM E) (nI nu)) 38 14 (nI (sM E + 1))) 44 i = nI (if i = sM E then tn (nI kd) else sK E i) ∧ hpI (stI (stI (stI h 44 (sM E) (nI kd)) 45 (sM E) (nI nu)) 38 14 (nI (sM E + 1))) 45 i = if i = sM E then nI nu else sN E i
          have hi : i < sM E + 1 := hi
          by_cases e : i = sM E
          · rw [if_pos e, if_pos e, tn_nI (by omega)]
            exact ⟨by rw [hpI_st, if_neg (by omega), hpI_st, if_neg (by omega), hpI_st, if_pos ⟨rfl, e⟩], by rw [hpI_st, if_neg (by omega), hpI_st, if_pos ⟨rfl, e⟩]⟩
          · rw [if_neg e, if_neg e]
            exact ⟨by rw [hpI_st, if_neg (by omega), hpI_st, if_neg (by omega), hpI_st, if_neg (by omega)]; exact (hp.2 i (by omega)).1, by rw [hpI_st, if_neg (by omega), hpI_st, if_neg (by omega), hpI_st, if_neg (by omega)]; exact (hp.2 i (by omega)).2⟩
        · have hi : i < sM E + 1 := hi
          show (if i = sM E then tn (nI kd) else sK E i) < 6 ∧ inR (if i = sM E then nI nu else sN E i) 9
          by_cases e : i = sM E
          · rw [if_pos e, if_pos e, tn_nI (by omega)]; exact ⟨by omega, inR_nI hnu9 (by omega)⟩
          · rw [if_neg e, if_neg e]; exact hok.2.2.1 i (by omega)
        · show hpI (stI _ _ _ _) _ _ = _; rw [hpI_st, if_neg (by omega), hpI_st, if_neg (by omega), hpI_st, if_neg (by omega)]
      · have hl : ¬ sM E < 6 := fun z => by have := (nI_eq (a := sM E) (b := 6) (by omega) (by omega)).mp q33; omega
        refine v_bipush hX lb_n4 qX12_looker_36 ?_
        refine v_ireturn hX qX12_looker_38 (hP _ _ ?_)
        rw [lookerI, if_pos ⟨q9, q21⟩, if_neg hl]
        exact ⟨rfl, h.1, h.2.2.1, rfl, hc, fun a _ => rfl⟩
    · skip
      refine v_bipush hX lb_n2 qX12_looker_24 ?_
      refine v_ireturn hX qX12_looker_26 (hP _ _ ?_)
      first | (rw [lookerI, if_neg (fun z => q9 z.1)]; exact ⟨rfl, h.1, h.2.2.1, rfl, hc, fun a _ => rfl⟩) | (rw [lookerI, if_neg (fun z => q21 z.2)]; exact ⟨rfl, h.1, h.2.2.1, rfl, hc, fun a _ => rfl⟩)
