/-! the reference: look, next, search; lays aside and back -/
theorem wq2b {w : Int32} (h0 : 0 ≤ w) (h3 : w ≤ 2) (n0 : ¬ w = 0) (n1 : ¬ w = 1) : w = 2 := by
  rw [leI] at h0 h3; rw [eqI] at n0 n1 ⊢
  have e0 : (0 : Int32).toInt = 0 := rfl
  have e1 : (1 : Int32).toInt = 1 := rfl
  have e2 : (2 : Int32).toInt = 2 := rfl
  omega
/-- what plans and judges leave alone -/
def FrZ (h : AHp) (σ : Nat → Nat → Int32) : Prop := ∀ a k, ¬ (a = 42 ∨ a = 43) → ¬ (46 ≤ a ∧ a ≤ 51) → ¬ (a = 38 ∧ (k = 10 ∨ k = 11 ∨ (15 ≤ k ∧ k ≤ 43))) → σ a k = hpI h a k
theorem FrZ.n {h : AHp} {σ : Nat → Nat → Int32} (hf : FrZ h σ) : FrN h σ := fun a k a1 a2 a3 => hf a k a1 a2 (by omega)
theorem FrY.z {h : AHp} {σ : Nat → Nat → Int32} (hf : FrY h σ) : FrZ h σ := fun a k a1 a2 a3 => hf a k a1 (by omega) (by omega)
theorem FrX.z {h : AHp} {σ : Nat → Nat → Int32} (hf : FrX h σ) : FrZ h σ := hf.s.z
theorem FrR.z {h : AHp} {σ : Nat → Nat → Int32} {J : Nat → Nat → Int64} (hf : FrR h σ J) : FrZ h σ := hf.t.z
theorem FrZ.tr {h : AHp} {σ σ' : Nat → Nat → Int32} {J : Nat → Nat → Int64} (a : FrZ h σ) (b : FrZ (mkH h σ J) σ') : FrZ h σ' := fun x k h1 h2 h3 => (b x k h1 h2 h3).trans (a x k h1 h2 h3)
theorem MW.sc {h : AHp} {E : Sst} (hc : MW h E) {a k : Nat} {v : Int32} (ha : (46 ≤ a ∧ a ≤ 51) ∨ a = 38 ∧ (15 ≤ k ∧ k ≤ 43)) : MW (stI h a k v) E :=
  hc.q (σ := (stI h a k v).1) (J := h.2.2.1) (fun x y a1 a2 a3 => by show hpI (stI _ _ _ _) _ _ = _; rw [hpI_st, if_neg (by omega)]) ((bm_ext (h := mkH h (stI h a k v).1 h.2.2.1) (h' := h) (fun j _ => by show hpI (stI h a k v) _ _ = _; rw [hpI_st, if_neg (by omega)]) (fun j _ => by show hpI (stI h a k v) _ _ = _; rw [hpI_st, if_neg (by omega)]) (by show hpI (stI h a k v) _ _ = _; rw [hpI_st, if_neg (by omega)]) (by show hpI (stI h a k v) _ _ = _; rw [hpI_st, if_neg (by omega)]) (by show hpI (stI h a k v) _ _ = _; rw [hpI_st, if_neg (by omega)]) (by show hpI (stI h a k v) _ _ = _; rw [hpI_st, if_neg (by omega)])).trans hc.2.2.2.1) hc.2.2.2.2.2.2.2.2.2.2.1
/-- laid aside: the beach b lies in the other cells -/
def Was (σ : Nat → Nat → Int32) (b : Bch) : Prop := (∀ k, k < 48 → σ 48 k = b 1 k ∧ σ 49 k = b 2 k) ∧ σ 38 37 = b 0 3 ∧ σ 38 38 = b 0 4
theorem Was.z {h : AHp} {σ : Nat → Nat → Int32} {b : Bch} (hw : Was h.1 b) (hf : ∀ a k, (a = 48 ∨ a = 49 ∨ a = 38 ∧ (k = 37 ∨ k = 38)) → σ a k = hpI h a k) : Was σ b := ⟨fun k hk => ⟨(hf 48 k (by omega)).trans (hw.1 k hk).1, (hf 49 k (by omega)).trans (hw.1 k hk).2⟩, (hf 38 37 (by omega)).trans hw.2.1, (hf 38 38 (by omega)).trans hw.2.2⟩
theorem qX12_look_0 : Dq cX12_look 0 (.aload_n 0) 1 1 := ⟨by decide +kernel, rfl⟩
theorem qX12_look_1 : Dq cX12_look 1 (.iload_n 1) 1 2 := ⟨by decide +kernel, rfl⟩
theorem qX12_look_2 : Dq cX12_look 2 (.invokevirtual 264) 3 5 := ⟨by decide +kernel, rfl⟩
theorem qX12_look_5 : Dq cX12_look 5 (.ifCond .eq 10) 3 8 := ⟨by decide +kernel, rfl⟩
theorem qX12_look_8 : Dq cX12_look 8 (.iload_n 2) 1 9 := ⟨by decide +kernel, rfl⟩
theorem qX12_look_9 : Dq cX12_look 9 (.invokestatic 96) 3 12 := ⟨by decide +kernel, rfl⟩
theorem qX12_look_12 : Dq cX12_look 12 (.ifCond .ne 6) 3 15 := ⟨by decide +kernel, rfl⟩
theorem qX12_look_15 : Dq cX12_look 15 (.bipush (-2)) 2 17 := ⟨by decide +kernel, rfl⟩
theorem qX12_look_17 : Dq cX12_look 17 (.ireturn) 1 18 := ⟨by decide +kernel, rfl⟩
theorem qX12_look_18 : Dq cX12_look 18 (.aload_n 0) 1 19 := ⟨by decide +kernel, rfl⟩
theorem qX12_look_19 : Dq cX12_look 19 (.iload_n 2) 1 20 := ⟨by decide +kernel, rfl⟩
theorem qX12_look_20 : Dq cX12_look 20 (.invokevirtual 255) 3 23 := ⟨by decide +kernel, rfl⟩
theorem qX12_look_23 : Dq cX12_look 23 (.ifCond .eq 6) 3 26 := ⟨by decide +kernel, rfl⟩
theorem qX12_look_26 : Dq cX12_look 26 (.bipush (-3)) 2 28 := ⟨by decide +kernel, rfl⟩
theorem qX12_look_28 : Dq cX12_look 28 (.ireturn) 1 29 := ⟨by decide +kernel, rfl⟩
theorem qX12_look_29 : Dq cX12_look 29 (.aload_n 0) 1 30 := ⟨by decide +kernel, rfl⟩
theorem qX12_look_30 : Dq cX12_look 30 (.iload_n 1) 1 31 := ⟨by decide +kernel, rfl⟩
theorem qX12_look_31 : Dq cX12_look 31 (.iload_n 2) 1 32 := ⟨by decide +kernel, rfl⟩
theorem qX12_look_32 : Dq cX12_look 32 (.invokevirtual 276) 3 35 := ⟨by decide +kernel, rfl⟩
theorem qX12_look_35 : Dq cX12_look 35 (.aload_n 0) 1 36 := ⟨by decide +kernel, rfl⟩
theorem qX12_look_36 : Dq cX12_look 36 (.getfield 23) 3 39 := ⟨by decide +kernel, rfl⟩
theorem qX12_look_39 : Dq cX12_look 39 (.iload_n 2) 1 40 := ⟨by decide +kernel, rfl⟩
theorem qX12_look_40 : Dq cX12_look 40 (.iaload) 1 41 := ⟨by decide +kernel, rfl⟩
theorem qX12_look_41 : Dq cX12_look 41 (.ireturn) 1 42 := ⟨by decide +kernel, rfl⟩
set_option maxRecDepth 100000 in
set_option maxHeartbeats 4000000 in
theorem m_look {G : Glb} {h : AHp} {E : Sst} (hc : MW h E) (ll c : Int32) : CP G m_X12_look 66 0 0 [.ref 38, .int ll, .int c] h (fun r h' => r = some (.int ((lookI E ll c).1)) ∧ ∃ σ J, h' = mkH h σ J ∧ MW (mkH h σ J) (setB E (lookI E ll c).2) ∧ K58 h σ) := by
  suffices key : ∀ P : Option Value → AHp → Prop, (∀ r h', (r = some (.int ((lookI E ll c).1)) ∧ ∃ σ J, h' = mkH h σ J ∧ MW (mkH h σ J) (setB E (lookI E ll c).2) ∧ K58 h σ) → P r h') → CP G m_X12_look 66 0 0 [.ref 38, .int ll, .int c] h P from key _ (fun _ _ z => z)
  intro P hP
  obtain ⟨hm, htx, hp, hb, hkp, htp, hst, hok⟩ := id hc
  have hc6 := hok.1
  have hm6 := hok.2.1
  have hkd : ∀ i, i < sM E → sK E i < 6 := fun i hi => (hok.2.2.1 i hi).1
  have hnu : ∀ i, i < sM E → inR (sN E i) 9 := fun i hi => (hok.2.2.1 i hi).2
  have hbe : BeOK (bm h) (sC E) := by rw [hb]; exact hok.2.2.2.1
  refine CP.of (by decide +kernel) (Nat.le_of_ble_eq_true rfl) fun X hX hR hnm => ?_
  show V X G 3 0 0 _ 0 [some (.ref 38), some (.int ll), some (.int c)] [] h
  refine v_aload_n hX rfl qX12_look_0 ?_
  refine v_iload_n hX rfl qX12_look_1 ?_
  refine v_callVq hX hR k_X12_264 (hm.kd 38 rfl) (m_isLooker (by exact hm) (by exact hp.1) (by exact hm6) _) rfl (Nat.le_of_ble_eq_true rfl) rfl (Nat.le_of_ble_eq_true rfl) ⟨Nat.le_of_ble_eq_true rfl, Nat.le_of_ble_eq_true rfl⟩ qX12_look_2 ?_
  rintro _ _ ⟨rfl, rfl⟩
  first | refine v_if_eqB hX 15 qX12_look_5 rfl (fun q5 => ?_) (fun q5 => ?_) | refine v_if_eq hX 15 qX12_look_5 rfl (fun q5 => ?_) (fun q5 => ?_)
  · skip
    refine v_bipush hX lb_n2 qX12_look_15 ?_
    refine v_ireturn hX qX12_look_17 (hP _ _ ?_)
    first | (rw [lookI, if_neg (fun z => q5 z.1)]; exact ⟨rfl, h.1, h.2.2.1, rfl, hc, fun a _ => rfl⟩) | (rw [lookI, if_neg (fun z => q12 z.2)]; exact ⟨rfl, h.1, h.2.2.1, rfl, hc, fun a _ => rfl⟩)
  · obtain ⟨l, hl, rfl⟩ := ofRange q5.1 q5.2 (by omega)
    refine v_iload_n hX rfl qX12_look_8 ?_
    refine v_callSq hX hR k_X12_96 (m_isCell _) rfl (Nat.le_of_ble_eq_true rfl) rfl (Nat.le_of_ble_eq_true rfl) ⟨Nat.le_of_ble_eq_true rfl, Nat.le_of_ble_eq_true rfl⟩ qX12_look_9 ?_
    rintro _ _ ⟨rfl, rfl⟩
    first | refine v_if_neB hX 18 qX12_look_12 rfl (fun q12 => ?_) (fun q12 => ?_) | refine v_if_ne hX 18 qX12_look_12 rfl (fun q12 => ?_) (fun q12 => ?_)
    · obtain ⟨q, hq, rfl⟩ := isC_ex q12
      refine v_aload_n hX rfl qX12_look_18 ?_
      refine v_iload_n hX rfl qX12_look_19 ?_
      refine v_callVq hX hR k_X12_255 (hm.kd 38 rfl) (mw_isUnder (by exact hc) (by exact hq)) rfl (Nat.le_of_ble_eq_true rfl) rfl (Nat.le_of_ble_eq_true rfl) ⟨Nat.le_of_ble_eq_true rfl, Nat.le_of_ble_eq_true rfl⟩ qX12_look_20 ?_
      rintro _ _ ⟨rfl, σ, J, rfl, hf⟩
      first | refine v_if_eqB hX 29 qX12_look_23 rfl (fun q23 => ?_) (fun q23 => ?_) | refine v_if_eq hX 29 qX12_look_23 rfl (fun q23 => ?_) (fun q23 => ?_)
      · have hse : seB (sT E) (sB E) q = 0 := Classical.byContradiction q23
        refine v_aload_n hX rfl qX12_look_29 ?_
        refine v_iload_n hX rfl qX12_look_30 ?_
        refine v_iload_n hX rfl qX12_look_31 ?_
        refine v_callVq hX hR k_X12_276 (hm.kd 38 rfl) (m_looks (by exact (hc.fr hf)) (by exact hl) (by exact hq)) rfl (Nat.le_of_ble_eq_true rfl) rfl (Nat.le_of_ble_eq_true rfl) ⟨Nat.le_of_ble_eq_true rfl, Nat.le_of_ble_eq_true rfl⟩ qX12_look_32 ?_
        rintro _ _ ⟨rfl, σ2, J2, rfl, hf2, hm2⟩
        refine v_aload_n hX rfl qX12_look_35 ?_
        refine v_getR hX g_X12_23 (hm.kd 38 rfl) (hm.rf 3 rfl) qX12_look_36 ?_
        refine v_iload_n hX rfl qX12_look_39 ?_
        refine v_ialdV hX (hm.kd 42 rfl) (hm.ln 42 rfl) (by exact ix_n hq rfl) (show _ = lookB (sT E) (sB E) (sK E l) (sN E l) q 1 q by have z := congrFun (congrFun hm2.2.2.2.1 1) q; rw [bm1 hq] at z; exact z) qX12_look_40 ?_
        refine v_ireturn hX qX12_look_41 (hP _ _ ?_)
        rw [lookI, if_pos (show (0 ≤ nI l ∧ nI l < nI (sM E)) ∧ isC (nI q) from ⟨q5, isCn hq⟩), tn_nI (show l < 2000000 by omega), tn_nI (show q < 2000000 by omega), if_pos hse]
        exact ⟨rfl, σ2, J2, rfl, hm2, fun a ha => (hf2.n.k a ha).trans (hf.k a ha)⟩
      · skip
        refine v_bipush hX lb_n3 qX12_look_26 ?_
        refine v_ireturn hX qX12_look_28 (hP _ _ ?_)
        rw [lookI, if_pos (show (0 ≤ nI l ∧ nI l < nI (sM E)) ∧ isC (nI q) from ⟨q5, isCn hq⟩), tn_nI (show l < 2000000 by omega), tn_nI (show q < 2000000 by omega), if_neg q23]
        exact ⟨rfl, σ, J, rfl, hc.fr hf, hf.k⟩
    · skip
      refine v_bipush hX lb_n2 qX12_look_15 ?_
      refine v_ireturn hX qX12_look_17 (hP _ _ ?_)
      first | (rw [lookI, if_neg (fun z => q5 z.1)]; exact ⟨rfl, h.1, h.2.2.1, rfl, hc, fun a _ => rfl⟩) | (rw [lookI, if_neg (fun z => q12 z.2)]; exact ⟨rfl, h.1, h.2.2.1, rfl, hc, fun a _ => rfl⟩)
theorem qX12_next_0 : Dq cX12_next 0 (.iload_n 1) 1 1 := ⟨by decide +kernel, rfl⟩
theorem qX12_next_1 : Dq cX12_next 1 (.i2l) 1 2 := ⟨by decide +kernel, rfl⟩
theorem qX12_next_2 : Dq cX12_next 2 (.lconst 0) 1 3 := ⟨by decide +kernel, rfl⟩
theorem qX12_next_3 : Dq cX12_next 3 (.ldc2_w 289) 3 6 := ⟨by decide +kernel, rfl⟩
theorem qX12_next_6 : Dq cX12_next 6 (.invokestatic 87) 3 9 := ⟨by decide +kernel, rfl⟩
theorem qX12_next_9 : Dq cX12_next 9 (.ifCond .ne 6) 3 12 := ⟨by decide +kernel, rfl⟩
theorem qX12_next_12 : Dq cX12_next 12 (.bipush (-2)) 2 14 := ⟨by decide +kernel, rfl⟩
theorem qX12_next_14 : Dq cX12_next 14 (.ireturn) 1 15 := ⟨by decide +kernel, rfl⟩
theorem qX12_next_15 : Dq cX12_next 15 (.aload_n 0) 1 16 := ⟨by decide +kernel, rfl⟩
theorem qX12_next_16 : Dq cX12_next 16 (.invokevirtual 291) 3 19 := ⟨by decide +kernel, rfl⟩
theorem qX12_next_19 : Dq cX12_next 19 (.aload_n 0) 1 20 := ⟨by decide +kernel, rfl⟩
theorem qX12_next_20 : Dq cX12_next 20 (.getfield 280) 3 23 := ⟨by decide +kernel, rfl⟩
theorem qX12_next_23 : Dq cX12_next 23 (.iconst (-1)) 1 24 := ⟨by decide +kernel, rfl⟩
theorem qX12_next_24 : Dq cX12_next 24 (.if_icmp .ne 7) 3 27 := ⟨by decide +kernel, rfl⟩
theorem qX12_next_27 : Dq cX12_next 27 (.iconst (-1)) 1 28 := ⟨by decide +kernel, rfl⟩
theorem qX12_next_28 : Dq cX12_next 28 (.goto 30) 3 31 := ⟨by decide +kernel, rfl⟩
theorem qX12_next_31 : Dq cX12_next 31 (.iload_n 1) 1 32 := ⟨by decide +kernel, rfl⟩
theorem qX12_next_32 : Dq cX12_next 32 (.ifCond .ne 10) 3 35 := ⟨by decide +kernel, rfl⟩
theorem qX12_next_35 : Dq cX12_next 35 (.aload_n 0) 1 36 := ⟨by decide +kernel, rfl⟩
theorem qX12_next_36 : Dq cX12_next 36 (.getfield 280) 3 39 := ⟨by decide +kernel, rfl⟩
theorem qX12_next_39 : Dq cX12_next 39 (.goto 19) 3 42 := ⟨by decide +kernel, rfl⟩
theorem qX12_next_42 : Dq cX12_next 42 (.iload_n 1) 1 43 := ⟨by decide +kernel, rfl⟩
theorem qX12_next_43 : Dq cX12_next 43 (.iconst 1) 1 44 := ⟨by decide +kernel, rfl⟩
theorem qX12_next_44 : Dq cX12_next 44 (.if_icmp .ne 10) 3 47 := ⟨by decide +kernel, rfl⟩
theorem qX12_next_47 : Dq cX12_next 47 (.aload_n 0) 1 48 := ⟨by decide +kernel, rfl⟩
theorem qX12_next_48 : Dq cX12_next 48 (.getfield 283) 3 51 := ⟨by decide +kernel, rfl⟩
theorem qX12_next_51 : Dq cX12_next 51 (.goto 7) 3 54 := ⟨by decide +kernel, rfl⟩
theorem qX12_next_54 : Dq cX12_next 54 (.aload_n 0) 1 55 := ⟨by decide +kernel, rfl⟩
theorem qX12_next_55 : Dq cX12_next 55 (.getfield 286) 3 58 := ⟨by decide +kernel, rfl⟩
theorem qX12_next_58 : Dq cX12_next 58 (.ireturn) 1 59 := ⟨by decide +kernel, rfl⟩
set_option maxRecDepth 100000 in
set_option maxHeartbeats 4000000 in
theorem m_next {G : Glb} {h : AHp} {E : Sst} (hc : MW h E) (w : Int32) : CP G m_X12_next 65 0 0 [.ref 38, .int w] h (fun r h' => r = some (.int (nextI E w)) ∧ ∃ σ J, h' = mkH h σ J ∧ MW (mkH h σ J) E ∧ K58 h σ) := by
  suffices key : ∀ P : Option Value → AHp → Prop, (∀ r h', (r = some (.int (nextI E w)) ∧ ∃ σ J, h' = mkH h σ J ∧ MW (mkH h σ J) E ∧ K58 h σ) → P r h') → CP G m_X12_next 65 0 0 [.ref 38, .int w] h P from key _ (fun _ _ z => z)
  intro P hP
  obtain ⟨hm, htx, hp, hb, hkp, htp, hst, hok⟩ := id hc
  have hc6 := hok.1
  have hm6 := hok.2.1
  have hkd : ∀ i, i < sM E → sK E i < 6 := fun i hi => (hok.2.2.1 i hi).1
  have hnu : ∀ i, i < sM E → inR (sN E i) 9 := fun i hi => (hok.2.2.1 i hi).2
  have hbe : BeOK (bm h) (sC E) := by rw [hb]; exact hok.2.2.2.1
  refine CP.of (by decide +kernel) (Nat.le_of_ble_eq_true rfl) fun X hX hR hnm => ?_
  show V X G 2 0 0 _ 0 [some (.ref 38), some (.int w)] [] h
  refine v_iload_n hX rfl qX12_next_0 ?_
  refine v_i2l hX qX12_next_1 ?_
  refine v_lconst hX ll_0 qX12_next_2 ?_
  refine v_ldc2 hX c_X12_289 qX12_next_3 ?_
  refine v_callSq hX hR k_X12_87 (m_in _ (by exact (0)) (by exact (2))) rfl (Nat.le_of_ble_eq_true rfl) rfl (Nat.le_of_ble_eq_true rfl) ⟨Nat.le_of_ble_eq_true rfl, Nat.le_of_ble_eq_true rfl⟩ qX12_next_6 ?_
  rintro _ _ ⟨rfl, rfl⟩
  first | refine v_if_neB hX 15 qX12_next_9 rfl (fun q9 => ?_) (fun q9 => ?_) | refine v_if_ne hX 15 qX12_next_9 rfl (fun q9 => ?_) (fun q9 => ?_)
  · skip
    refine v_aload_n hX rfl qX12_next_15 ?_
    refine v_callVq hX hR k_X12_291 (hm.kd 38 rfl) (m_best (by exact hc)) rfl (Nat.le_of_ble_eq_true rfl) rfl (Nat.le_of_ble_eq_true rfl) ⟨Nat.le_of_ble_eq_true rfl, Nat.le_of_ble_eq_true rfl⟩ qX12_next_16 ?_
    rintro _ _ ⟨rfl, σ, J, rfl, hf, b1, b2, b3⟩
    refine v_aload_n hX rfl qX12_next_19 ?_
    refine v_getIv hX g_X12_280 (Or.inl rfl) (hm.kd 38 rfl) (show _ = (chE E).1 from b1) qX12_next_20 ?_
    refine v_iconst hX li_n1 qX12_next_23 ?_
    refine v_icmp_ne hX 31 qX12_next_24 rfl (fun q24 => ?_) (fun q24 => ?_)
    · skip
      refine v_iload_n hX rfl qX12_next_31 ?_
      first | refine v_if_neB hX 42 qX12_next_32 rfl (fun q32 => ?_) (fun q32 => ?_) | refine v_if_ne hX 42 qX12_next_32 rfl (fun q32 => ?_) (fun q32 => ?_)
      · skip
        refine v_iload_n hX rfl qX12_next_42 ?_
        refine v_iconst hX li_1 qX12_next_43 ?_
        refine v_icmp_ne hX 54 qX12_next_44 rfl (fun q44 => ?_) (fun q44 => ?_)
        · skip
          refine v_aload_n hX rfl qX12_next_54 ?_
          refine v_getIv hX g_X12_286 (Or.inl rfl) (hm.kd 38 rfl) (show _ = (chE E).2.2 from b3) qX12_next_55 ?_
          refine v_ireturn hX qX12_next_58 (hP _ _ ?_)
          first | (rw [nextI, if_pos q9, if_pos q24]; exact ⟨rfl, σ, J, rfl, hf.mw hc J, hf.s.n.k⟩) | (rw [nextI, if_pos q9, if_neg q24, if_pos q32]; exact ⟨rfl, σ, J, rfl, hf.mw hc J, hf.s.n.k⟩) | (rw [nextI, if_pos q9, if_neg q24, if_neg q32, if_pos q44]; exact ⟨rfl, σ, J, rfl, hf.mw hc J, hf.s.n.k⟩) | (rw [nextI, if_pos q9, if_neg q24, if_neg q32, if_neg q44]; exact ⟨rfl, σ, J, rfl, hf.mw hc J, hf.s.n.k⟩)
        · skip
          refine v_aload_n hX rfl qX12_next_47 ?_
          refine v_getIv hX g_X12_283 (Or.inl rfl) (hm.kd 38 rfl) (show _ = (chE E).2.1 from b2) qX12_next_48 ?_
          refine v_goto hX 58 qX12_next_51 rfl ?_
          refine v_ireturn hX qX12_next_58 (hP _ _ ?_)
          first | (rw [nextI, if_pos q9, if_pos q24]; exact ⟨rfl, σ, J, rfl, hf.mw hc J, hf.s.n.k⟩) | (rw [nextI, if_pos q9, if_neg q24, if_pos q32]; exact ⟨rfl, σ, J, rfl, hf.mw hc J, hf.s.n.k⟩) | (rw [nextI, if_pos q9, if_neg q24, if_neg q32, if_pos q44]; exact ⟨rfl, σ, J, rfl, hf.mw hc J, hf.s.n.k⟩) | (rw [nextI, if_pos q9, if_neg q24, if_neg q32, if_neg q44]; exact ⟨rfl, σ, J, rfl, hf.mw hc J, hf.s.n.k⟩)
      · skip
        refine v_aload_n hX rfl qX12_next_35 ?_
        refine v_getIv hX g_X12_280 (Or.inl rfl) (hm.kd 38 rfl) (show _ = (chE E).1 from b1) qX12_next_36 ?_
        refine v_goto hX 58 qX12_next_39 rfl ?_
        refine v_ireturn hX qX12_next_58 (hP _ _ ?_)
        first | (rw [nextI, if_pos q9, if_pos q24]; exact ⟨rfl, σ, J, rfl, hf.mw hc J, hf.s.n.k⟩) | (rw [nextI, if_pos q9, if_neg q24, if_pos q32]; exact ⟨rfl, σ, J, rfl, hf.mw hc J, hf.s.n.k⟩) | (rw [nextI, if_pos q9, if_neg q24, if_neg q32, if_pos q44]; exact ⟨rfl, σ, J, rfl, hf.mw hc J, hf.s.n.k⟩) | (rw [nextI, if_pos q9, if_neg q24, if_neg q32, if_neg q44]; exact ⟨rfl, σ, J, rfl, hf.mw hc J, hf.s.n.k⟩)
    · skip
      refine v_iconst hX li_n1 qX12_next_27 ?_
      refine v_goto hX 58 qX12_next_28 rfl ?_
      refine v_ireturn hX qX12_next_58 (hP _ _ ?_)
      first | (rw [nextI, if_pos q9, if_pos q24]; exact ⟨rfl, σ, J, rfl, hf.mw hc J, hf.s.n.k⟩) | (rw [nextI, if_pos q9, if_neg q24, if_pos q32]; exact ⟨rfl, σ, J, rfl, hf.mw hc J, hf.s.n.k⟩) | (rw [nextI, if_pos q9, if_neg q24, if_neg q32, if_pos q44]; exact ⟨rfl, σ, J, rfl, hf.mw hc J, hf.s.n.k⟩) | (rw [nextI, if_pos q9, if_neg q24, if_neg q32, if_neg q44]; exact ⟨rfl, σ, J, rfl, hf.mw hc J, hf.s.n.k⟩)
  · skip
    refine v_bipush hX lb_n2 qX12_next_12 ?_
    refine v_ireturn hX qX12_next_14 (hP _ _ ?_)
    rw [nextI, if_neg q9]
    exact ⟨rfl, h.1, h.2.2.1, rfl, hc, fun a _ => rfl⟩
theorem qX12_search_0 : Dq cX12_search 0 (.aload_n 0) 1 1 := ⟨by decide +kernel, rfl⟩
theorem qX12_search_1 : Dq cX12_search 1 (.invokevirtual 291) 3 4 := ⟨by decide +kernel, rfl⟩
theorem qX12_search_4 : Dq cX12_search 4 (.aload_n 0) 1 5 := ⟨by decide +kernel, rfl⟩
theorem qX12_search_5 : Dq cX12_search 5 (.getfield 280) 3 8 := ⟨by decide +kernel, rfl⟩
theorem qX12_search_8 : Dq cX12_search 8 (.iconst (-1)) 1 9 := ⟨by decide +kernel, rfl⟩
theorem qX12_search_9 : Dq cX12_search 9 (.if_icmp .ne 5) 3 12 := ⟨by decide +kernel, rfl⟩
theorem qX12_search_12 : Dq cX12_search 12 (.iconst (-1)) 1 13 := ⟨by decide +kernel, rfl⟩
theorem qX12_search_13 : Dq cX12_search 13 (.ireturn) 1 14 := ⟨by decide +kernel, rfl⟩
theorem qX12_search_14 : Dq cX12_search 14 (.aload_n 0) 1 15 := ⟨by decide +kernel, rfl⟩
theorem qX12_search_15 : Dq cX12_search 15 (.getfield 283) 3 18 := ⟨by decide +kernel, rfl⟩
theorem qX12_search_18 : Dq cX12_search 18 (.istore_n 1) 1 19 := ⟨by decide +kernel, rfl⟩
theorem qX12_search_19 : Dq cX12_search 19 (.aload_n 0) 1 20 := ⟨by decide +kernel, rfl⟩
theorem qX12_search_20 : Dq cX12_search 20 (.aload_n 0) 1 21 := ⟨by decide +kernel, rfl⟩
theorem qX12_search_21 : Dq cX12_search 21 (.getfield 280) 3 24 := ⟨by decide +kernel, rfl⟩
theorem qX12_search_24 : Dq cX12_search 24 (.iload_n 1) 1 25 := ⟨by decide +kernel, rfl⟩
theorem qX12_search_25 : Dq cX12_search 25 (.invokevirtual 276) 3 28 := ⟨by decide +kernel, rfl⟩
theorem qX12_search_28 : Dq cX12_search 28 (.iload_n 1) 1 29 := ⟨by decide +kernel, rfl⟩
theorem qX12_search_29 : Dq cX12_search 29 (.ireturn) 1 30 := ⟨by decide +kernel, rfl⟩
set_option maxRecDepth 100000 in
set_option maxHeartbeats 4000000 in
theorem m_search {G : Glb} {h : AHp} {E : Sst} (hc : MW h E)  : CP G m_X12_search 66 0 0 [.ref 38] h (fun r h' => r = some (.int ((searchI E).1)) ∧ ∃ σ J, h' = mkH h σ J ∧ MW (mkH h σ J) (setB E (searchI E).2) ∧ K58 h σ) := by
  suffices key : ∀ P : Option Value → AHp → Prop, (∀ r h', (r = some (.int ((searchI E).1)) ∧ ∃ σ J, h' = mkH h σ J ∧ MW (mkH h σ J) (setB E (searchI E).2) ∧ K58 h σ) → P r h') → CP G m_X12_search 66 0 0 [.ref 38] h P from key _ (fun _ _ z => z)
  intro P hP
  obtain ⟨hm, htx, hp, hb, hkp, htp, hst, hok⟩ := id hc
  have hc6 := hok.1
  have hm6 := hok.2.1
  have hkd : ∀ i, i < sM E → sK E i < 6 := fun i hi => (hok.2.2.1 i hi).1
  have hnu : ∀ i, i < sM E → inR (sN E i) 9 := fun i hi => (hok.2.2.1 i hi).2
  have hbe : BeOK (bm h) (sC E) := by rw [hb]; exact hok.2.2.2.1
  refine CP.of (by decide +kernel) (Nat.le_of_ble_eq_true rfl) fun X hX hR hnm => ?_
  show V X G 2 0 0 _ 0 [some (.ref 38), none] [] h
  refine v_aload_n hX rfl qX12_search_0 ?_
  refine v_callVq hX hR k_X12_291 (hm.kd 38 rfl) (m_best (by exact hc)) rfl (Nat.le_of_ble_eq_true rfl) rfl (Nat.le_of_ble_eq_true rfl) ⟨Nat.le_of_ble_eq_true rfl, Nat.le_of_ble_eq_true rfl⟩ qX12_search_1 ?_
  rintro _ _ ⟨rfl, σ, J, rfl, hf, b1, b2, b3⟩
  refine v_aload_n hX rfl qX12_search_4 ?_
  refine v_getIv hX g_X12_280 (Or.inl rfl) (hm.kd 38 rfl) (show _ = (chE E).1 from b1) qX12_search_5 ?_
  refine v_iconst hX li_n1 qX12_search_8 ?_
  refine v_icmp_ne hX 14 qX12_search_9 rfl (fun q9 => ?_) (fun q9 => ?_)
  · obtain ⟨l, w, hl, hw, hch, hse⟩ := ch_some hm6 q9
    have hch2 : chE E = _ := hch
    rw [hch2] at b1 b2 b3
    refine v_aload_n hX rfl qX12_search_14 ?_
    refine v_getIv hX g_X12_283 (Or.inl rfl) (hm.kd 38 rfl) (show _ = nI w from b2) qX12_search_15 ?_
    refine v_istore_n hX (Nat.le_of_ble_eq_true rfl) rfl (ls' := [some _, some _]) rfl qX12_search_18 ?_
    refine v_aload_n hX rfl qX12_search_19 ?_
    refine v_aload_n hX rfl qX12_search_20 ?_
    refine v_getIv hX g_X12_280 (Or.inl rfl) (hm.kd 38 rfl) (show _ = nI l from b1) qX12_search_21 ?_
    refine v_iload_n hX rfl qX12_search_24 ?_
    refine v_callVq hX hR k_X12_276 (hm.kd 38 rfl) (m_looks (by exact (hf.mw hc J)) (by exact hl) (by exact hw)) rfl (Nat.le_of_ble_eq_true rfl) rfl (Nat.le_of_ble_eq_true rfl) ⟨Nat.le_of_ble_eq_true rfl, Nat.le_of_ble_eq_true rfl⟩ qX12_search_25 ?_
    rintro _ _ ⟨rfl, σ2, J2, rfl, hf2, hm2⟩
    refine v_iload_n hX rfl qX12_search_28 ?_
    refine v_ireturn hX qX12_search_29 (hP _ _ ?_)
    have es : stB (sT E) (sM E) (sK E) (sN E) (sB E) = lookB (sT E) (sB E) (sK E l) (sN E l) w := by
      unfold stB
      rw [if_neg q9, hch]
      show lookB _ _ (sK E (tn (nI l))) (sN E (tn (nI l))) (tn (nI w)) = _
      rw [tn_nI (by omega), tn_nI (by omega)]
    rw [searchI, if_neg q9, es]
    exact ⟨by rw [hch2], σ2, J2, rfl, hm2, fun a ha => (hf2.n.k a ha).trans (hf.s.n.k a ha)⟩
  · skip
    refine v_iconst hX li_n1 qX12_search_12 ?_
    refine v_ireturn hX qX12_search_13 (hP _ _ ?_)
    rw [searchI, if_pos q9]
    exact ⟨rfl, σ, J, rfl, hf.mw hc J, hf.s.n.k⟩
theorem qX12_laysAside_0 : Dq cX12_laysAside 0 (.iconst 0) 1 1 := ⟨by decide +kernel, rfl⟩
theorem qX12_laysAside_1 : Dq cX12_laysAside 1 (.istore_n 1) 1 2 := ⟨by decide +kernel, rfl⟩
theorem qX12_laysAside_2 : Dq cX12_laysAside 2 (.iload_n 1) 1 3 := ⟨by decide +kernel, rfl⟩
theorem qX12_laysAside_3 : Dq cX12_laysAside 3 (.bipush 48) 2 5 := ⟨by decide +kernel, rfl⟩
theorem qX12_laysAside_5 : Dq cX12_laysAside 5 (.if_icmp .ge 33) 3 8 := ⟨by decide +kernel, rfl⟩
theorem qX12_laysAside_8 : Dq cX12_laysAside 8 (.aload_n 0) 1 9 := ⟨by decide +kernel, rfl⟩
theorem qX12_laysAside_9 : Dq cX12_laysAside 9 (.getfield 44) 3 12 := ⟨by decide +kernel, rfl⟩
theorem qX12_laysAside_12 : Dq cX12_laysAside 12 (.iload_n 1) 1 13 := ⟨by decide +kernel, rfl⟩
theorem qX12_laysAside_13 : Dq cX12_laysAside 13 (.aload_n 0) 1 14 := ⟨by decide +kernel, rfl⟩
theorem qX12_laysAside_14 : Dq cX12_laysAside 14 (.getfield 23) 3 17 := ⟨by decide +kernel, rfl⟩
theorem qX12_laysAside_17 : Dq cX12_laysAside 17 (.iload_n 1) 1 18 := ⟨by decide +kernel, rfl⟩
theorem qX12_laysAside_18 : Dq cX12_laysAside 18 (.iaload) 1 19 := ⟨by decide +kernel, rfl⟩
theorem qX12_laysAside_19 : Dq cX12_laysAside 19 (.iastore) 1 20 := ⟨by decide +kernel, rfl⟩
theorem qX12_laysAside_20 : Dq cX12_laysAside 20 (.aload_n 0) 1 21 := ⟨by decide +kernel, rfl⟩
theorem qX12_laysAside_21 : Dq cX12_laysAside 21 (.getfield 47) 3 24 := ⟨by decide +kernel, rfl⟩
theorem qX12_laysAside_24 : Dq cX12_laysAside 24 (.iload_n 1) 1 25 := ⟨by decide +kernel, rfl⟩
theorem qX12_laysAside_25 : Dq cX12_laysAside 25 (.aload_n 0) 1 26 := ⟨by decide +kernel, rfl⟩
theorem qX12_laysAside_26 : Dq cX12_laysAside 26 (.getfield 26) 3 29 := ⟨by decide +kernel, rfl⟩
theorem qX12_laysAside_29 : Dq cX12_laysAside 29 (.iload_n 1) 1 30 := ⟨by decide +kernel, rfl⟩
theorem qX12_laysAside_30 : Dq cX12_laysAside 30 (.iaload) 1 31 := ⟨by decide +kernel, rfl⟩
theorem qX12_laysAside_31 : Dq cX12_laysAside 31 (.iastore) 1 32 := ⟨by decide +kernel, rfl⟩
theorem qX12_laysAside_32 : Dq cX12_laysAside 32 (.iinc 1 1) 3 35 := ⟨by decide +kernel, rfl⟩
theorem qX12_laysAside_35 : Dq cX12_laysAside 35 (.goto (-33)) 3 38 := ⟨by decide +kernel, rfl⟩
theorem qX12_laysAside_38 : Dq cX12_laysAside 38 (.aload_n 0) 1 39 := ⟨by decide +kernel, rfl⟩
theorem qX12_laysAside_39 : Dq cX12_laysAside 39 (.aload_n 0) 1 40 := ⟨by decide +kernel, rfl⟩
theorem qX12_laysAside_40 : Dq cX12_laysAside 40 (.getfield 29) 3 43 := ⟨by decide +kernel, rfl⟩
theorem qX12_laysAside_43 : Dq cX12_laysAside 43 (.putfield 294) 3 46 := ⟨by decide +kernel, rfl⟩
theorem qX12_laysAside_46 : Dq cX12_laysAside 46 (.aload_n 0) 1 47 := ⟨by decide +kernel, rfl⟩
theorem qX12_laysAside_47 : Dq cX12_laysAside 47 (.aload_n 0) 1 48 := ⟨by decide +kernel, rfl⟩
theorem qX12_laysAside_48 : Dq cX12_laysAside 48 (.getfield 111) 3 51 := ⟨by decide +kernel, rfl⟩
theorem qX12_laysAside_51 : Dq cX12_laysAside 51 (.putfield 297) 3 54 := ⟨by decide +kernel, rfl⟩
theorem qX12_laysAside_54 : Dq cX12_laysAside 54 (.return_) 1 55 := ⟨by decide +kernel, rfl⟩
set_option maxRecDepth 100000 in
set_option maxHeartbeats 4000000 in
theorem m_laysAside {G : Glb} {h : AHp} (hm : ShM h)  : CP G m_X12_laysAside 1 0 0 [.ref 38] h (fun r h' => r = none ∧ ∃ σ, h' = mkH h σ h.2.2.1 ∧ (∀ a k, ¬ (a = 48 ∨ a = 49) → ¬ (a = 38 ∧ (k = 37 ∨ k = 38)) → σ a k = hpI h a k) ∧ Was σ (bm h)) := by
  suffices key : ∀ P : Option Value → AHp → Prop, (∀ r h', (r = none ∧ ∃ σ, h' = mkH h σ h.2.2.1 ∧ (∀ a k, ¬ (a = 48 ∨ a = 49) → ¬ (a = 38 ∧ (k = 37 ∨ k = 38)) → σ a k = hpI h a k) ∧ Was σ (bm h)) → P r h') → CP G m_X12_laysAside 1 0 0 [.ref 38] h P from key _ (fun _ _ z => z)
  intro P hP
  refine CP.of (by decide +kernel) (Nat.le_of_ble_eq_true rfl) fun X hX hR hnm => ?_
  show V X G 2 0 0 _ 0 [some (.ref 38), none] [] h
  refine v_iconst hX li_0 qX12_laysAside_0 ?_
  refine v_istore_n hX (Nat.le_of_ble_eq_true rfl) rfl (ls' := [some _, some _]) rfl qX12_laysAside_1 ?_
  have L2 : ∀ (mz : Nat) (i : Nat) (σ : Nat → Nat → Int32), 48 - i = mz → (i ≤ 48) → (∀ a k, ¬ (a = 48 ∨ a = 49) → σ a k = hpI h a k) → (∀ j, j < i → σ 48 j = hpI h 42 j ∧ σ 49 j = hpI h 43 j) → V X G 2 0 0 (QM X G P 0 0) 2 [some (.ref 38), some (.int (nI i))] [] (mkH h σ h.2.2.1) := by
    intro mz
    induction mz using Nat.strongRecOn with
    | _ mz ih =>
    intro i σ hmz hi hf h0
    refine v_iload_n hX rfl qX12_laysAside_2 ?_
    refine v_bipush hX lb_48 qX12_laysAside_3 ?_
    refine v_icmp_geS hX 38 qX12_laysAside_5 rfl (fun q5 => ?_) (fun q5 => ?_)
    · have e1 := geN (N := 48) rfl hi q5; subst e1
      refine v_aload_n hX rfl qX12_laysAside_38 ?_
      refine v_aload_n hX rfl qX12_laysAside_39 ?_
      refine v_getIv hX g_X12_29 (Or.inl rfl) (hm.kd 38 rfl) (show _ = hpI h 38 10 from hf 38 10 (by omega)) qX12_laysAside_40 ?_
      refine v_putI hX p_X12_294 (hm.kd 38 rfl) (Or.inl rfl) qX12_laysAside_43 ?_
      refine v_aload_n hX rfl qX12_laysAside_46 ?_
      refine v_aload_n hX rfl qX12_laysAside_47 ?_
      refine v_getIv hX g_X12_111 (Or.inl rfl) (hm.kd 38 rfl) (show _ = hpI h 38 11 from hf 38 11 (by omega)) qX12_laysAside_48 ?_
      refine v_putI hX p_X12_297 (hm.kd 38 rfl) (Or.inl rfl) qX12_laysAside_51 ?_
      refine v_return hX qX12_laysAside_54 (hP _ _ ?_)
      exact ⟨rfl, (stI (stI (mkH h σ h.2.2.1) 38 37 (hpI h 38 10)) 38 38 (hpI h 38 11)).1, rfl, fun a k a1 a2 => by show hpI (stI _ _ _ _) _ _ = _; rw [hpI_st, if_neg (by omega), hpI_st, if_neg (by omega)]; exact hf a k a1, ⟨fun k hk => ⟨by rw [bm1 hk]; exact (h0 k hk).1, by rw [bm2 hk]; exact (h0 k hk).2⟩, by rw [bmH]; rfl, by rw [bmN]; rfl⟩⟩
    · have hl := ltN (N := 48) rfl hi q5
      refine v_aload_n hX rfl qX12_laysAside_8 ?_
      refine v_getR hX g_X12_44 (hm.kd 38 rfl) (hm.rf 9 rfl) qX12_laysAside_9 ?_
      refine v_iload_n hX rfl qX12_laysAside_12 ?_
      refine v_aload_n hX rfl qX12_laysAside_13 ?_
      refine v_getR hX g_X12_23 (hm.kd 38 rfl) (hm.rf 3 rfl) qX12_laysAside_14 ?_
      refine v_iload_n hX rfl qX12_laysAside_17 ?_
      refine v_ialdV hX (hm.kd 42 rfl) (hm.ln 42 rfl) (by exact ix_n hl rfl) (show _ = hpI h 42 i from hf 42 i (by omega)) qX12_laysAside_18 ?_
      refine v_iastJ hX (hm.kd 48 rfl) (hm.ln 48 rfl) (by exact ix_n hl rfl) qX12_laysAside_19 ?_
      refine v_aload_n hX rfl qX12_laysAside_20 ?_
      refine v_getR hX g_X12_47 (hm.kd 38 rfl) (hm.rf 10 rfl) qX12_laysAside_21 ?_
      refine v_iload_n hX rfl qX12_laysAside_24 ?_
      refine v_aload_n hX rfl qX12_laysAside_25 ?_
      refine v_getR hX g_X12_26 (hm.kd 38 rfl) (hm.rf 4 rfl) qX12_laysAside_26 ?_
      refine v_iload_n hX rfl qX12_laysAside_29 ?_
      refine v_ialdV hX (hm.kd 43 rfl) (hm.ln 43 rfl) (by exact ix_n hl rfl) (show _ = hpI h 43 i from hf 43 i (by omega)) qX12_laysAside_30 ?_
      refine v_iastJ hX (hm.kd 49 rfl) (hm.ln 49 rfl) (by exact ix_n hl rfl) qX12_laysAside_31 ?_
      refine v_iinc hX rfl (by first | exact ii_nI _ | exact ii_1 _) (Nat.le_of_ble_eq_true rfl) rfl (ls' := [some _, some _]) rfl qX12_laysAside_32 ?_
      refine v_goto hX 2 qX12_laysAside_35 rfl ?_
      exact ih _ (by omega) (i + 1) (stI (stI (mkH h σ h.2.2.1) 48 i (hpI h 42 i)) 49 i (hpI h 43 i)).1 rfl (by omega) (fun a k a1 => by show hpI (stI _ _ _ _) _ _ = _; rw [hpI_st, if_neg (by omega), hpI_st, if_neg (by omega)]; exact hf a k a1) (fun j hj => by
        show hpI (stI (stI (mkH h σ h.2.2.1) 48 i (hpI h 42 i)) 49 i (hpI h 43 i)) _ _ = _ ∧ hpI (stI (stI (mkH h σ h.2.2.1) 48 i (hpI h 42 i)) 49 i (hpI h 43 i)) _ _ = _
        rw [hpI_st, if_neg (by omega), hpI_st, hpI_st]
        by_cases e : j = i
        · rw [if_pos ⟨rfl, e⟩, if_pos ⟨rfl, e⟩, e]; exact ⟨rfl, rfl⟩
        · rw [if_neg (fun z => e z.2), if_neg (fun z => e z.2), hpI_st, if_neg (by omega)]; exact h0 j (by omega))
  exact L2 _ 0 h.1 rfl (by omega) (fun a k _ => rfl) (fun j hj => absurd hj (by omega))
theorem qX12_laysBack_0 : Dq cX12_laysBack 0 (.iconst 0) 1 1 := ⟨by decide +kernel, rfl⟩
theorem qX12_laysBack_1 : Dq cX12_laysBack 1 (.istore_n 1) 1 2 := ⟨by decide +kernel, rfl⟩
theorem qX12_laysBack_2 : Dq cX12_laysBack 2 (.iload_n 1) 1 3 := ⟨by decide +kernel, rfl⟩
theorem qX12_laysBack_3 : Dq cX12_laysBack 3 (.bipush 48) 2 5 := ⟨by decide +kernel, rfl⟩
theorem qX12_laysBack_5 : Dq cX12_laysBack 5 (.if_icmp .ge 33) 3 8 := ⟨by decide +kernel, rfl⟩
theorem qX12_laysBack_8 : Dq cX12_laysBack 8 (.aload_n 0) 1 9 := ⟨by decide +kernel, rfl⟩
theorem qX12_laysBack_9 : Dq cX12_laysBack 9 (.getfield 23) 3 12 := ⟨by decide +kernel, rfl⟩
theorem qX12_laysBack_12 : Dq cX12_laysBack 12 (.iload_n 1) 1 13 := ⟨by decide +kernel, rfl⟩
theorem qX12_laysBack_13 : Dq cX12_laysBack 13 (.aload_n 0) 1 14 := ⟨by decide +kernel, rfl⟩
theorem qX12_laysBack_14 : Dq cX12_laysBack 14 (.getfield 44) 3 17 := ⟨by decide +kernel, rfl⟩
theorem qX12_laysBack_17 : Dq cX12_laysBack 17 (.iload_n 1) 1 18 := ⟨by decide +kernel, rfl⟩
theorem qX12_laysBack_18 : Dq cX12_laysBack 18 (.iaload) 1 19 := ⟨by decide +kernel, rfl⟩
theorem qX12_laysBack_19 : Dq cX12_laysBack 19 (.iastore) 1 20 := ⟨by decide +kernel, rfl⟩
theorem qX12_laysBack_20 : Dq cX12_laysBack 20 (.aload_n 0) 1 21 := ⟨by decide +kernel, rfl⟩
theorem qX12_laysBack_21 : Dq cX12_laysBack 21 (.getfield 26) 3 24 := ⟨by decide +kernel, rfl⟩
theorem qX12_laysBack_24 : Dq cX12_laysBack 24 (.iload_n 1) 1 25 := ⟨by decide +kernel, rfl⟩
theorem qX12_laysBack_25 : Dq cX12_laysBack 25 (.aload_n 0) 1 26 := ⟨by decide +kernel, rfl⟩
theorem qX12_laysBack_26 : Dq cX12_laysBack 26 (.getfield 47) 3 29 := ⟨by decide +kernel, rfl⟩
theorem qX12_laysBack_29 : Dq cX12_laysBack 29 (.iload_n 1) 1 30 := ⟨by decide +kernel, rfl⟩
theorem qX12_laysBack_30 : Dq cX12_laysBack 30 (.iaload) 1 31 := ⟨by decide +kernel, rfl⟩
theorem qX12_laysBack_31 : Dq cX12_laysBack 31 (.iastore) 1 32 := ⟨by decide +kernel, rfl⟩
theorem qX12_laysBack_32 : Dq cX12_laysBack 32 (.iinc 1 1) 3 35 := ⟨by decide +kernel, rfl⟩
theorem qX12_laysBack_35 : Dq cX12_laysBack 35 (.goto (-33)) 3 38 := ⟨by decide +kernel, rfl⟩
theorem qX12_laysBack_38 : Dq cX12_laysBack 38 (.aload_n 0) 1 39 := ⟨by decide +kernel, rfl⟩
theorem qX12_laysBack_39 : Dq cX12_laysBack 39 (.aload_n 0) 1 40 := ⟨by decide +kernel, rfl⟩
theorem qX12_laysBack_40 : Dq cX12_laysBack 40 (.getfield 294) 3 43 := ⟨by decide +kernel, rfl⟩
theorem qX12_laysBack_43 : Dq cX12_laysBack 43 (.putfield 29) 3 46 := ⟨by decide +kernel, rfl⟩
theorem qX12_laysBack_46 : Dq cX12_laysBack 46 (.aload_n 0) 1 47 := ⟨by decide +kernel, rfl⟩
theorem qX12_laysBack_47 : Dq cX12_laysBack 47 (.aload_n 0) 1 48 := ⟨by decide +kernel, rfl⟩
theorem qX12_laysBack_48 : Dq cX12_laysBack 48 (.getfield 297) 3 51 := ⟨by decide +kernel, rfl⟩
theorem qX12_laysBack_51 : Dq cX12_laysBack 51 (.putfield 111) 3 54 := ⟨by decide +kernel, rfl⟩
theorem qX12_laysBack_54 : Dq cX12_laysBack 54 (.return_) 1 55 := ⟨by decide +kernel, rfl⟩
set_option maxRecDepth 100000 in
set_option maxHeartbeats 4000000 in
theorem m_laysBack {G : Glb} {h : AHp} (hm : ShM h) {b : Bch} (hw : Was h.1 b) (b2 : hpI h 38 9 = b 0 2) (b5 : hpI h 38 4 = b 0 5) (b0 : ∀ i k, ¬ okI i k → b i k = 0) : CP G m_X12_laysBack 1 0 0 [.ref 38] h (fun r h' => r = none ∧ ∃ σ, h' = mkH h σ h.2.2.1 ∧ (∀ a k, ¬ (a = 42 ∨ a = 43) → ¬ (a = 38 ∧ (k = 10 ∨ k = 11)) → σ a k = hpI h a k) ∧ bm (mkH h σ h.2.2.1) = b) := by
  suffices key : ∀ P : Option Value → AHp → Prop, (∀ r h', (r = none ∧ ∃ σ, h' = mkH h σ h.2.2.1 ∧ (∀ a k, ¬ (a = 42 ∨ a = 43) → ¬ (a = 38 ∧ (k = 10 ∨ k = 11)) → σ a k = hpI h a k) ∧ bm (mkH h σ h.2.2.1) = b) → P r h') → CP G m_X12_laysBack 1 0 0 [.ref 38] h P from key _ (fun _ _ z => z)
  intro P hP
  refine CP.of (by decide +kernel) (Nat.le_of_ble_eq_true rfl) fun X hX hR hnm => ?_
  show V X G 2 0 0 _ 0 [some (.ref 38), none] [] h
  refine v_iconst hX li_0 qX12_laysBack_0 ?_
  refine v_istore_n hX (Nat.le_of_ble_eq_true rfl) rfl (ls' := [some _, some _]) rfl qX12_laysBack_1 ?_
  have L2 : ∀ (mz : Nat) (i : Nat) (σ : Nat → Nat → Int32), 48 - i = mz → (i ≤ 48) → (∀ a k, ¬ (a = 42 ∨ a = 43) → σ a k = hpI h a k) → (∀ j, j < i → σ 42 j = hpI h 48 j ∧ σ 43 j = hpI h 49 j) → V X G 2 0 0 (QM X G P 0 0) 2 [some (.ref 38), some (.int (nI i))] [] (mkH h σ h.2.2.1) := by
    intro mz
    induction mz using Nat.strongRecOn with
    | _ mz ih =>
    intro i σ hmz hi hf h0
    refine v_iload_n hX rfl qX12_laysBack_2 ?_
    refine v_bipush hX lb_48 qX12_laysBack_3 ?_
    refine v_icmp_geS hX 38 qX12_laysBack_5 rfl (fun q5 => ?_) (fun q5 => ?_)
    · have e1 := geN (N := 48) rfl hi q5; subst e1
      refine v_aload_n hX rfl qX12_laysBack_38 ?_
      refine v_aload_n hX rfl qX12_laysBack_39 ?_
      refine v_getIv hX g_X12_294 (Or.inl rfl) (hm.kd 38 rfl) (show _ = hpI h 38 37 from hf 38 37 (by omega)) qX12_laysBack_40 ?_
      refine v_putI hX p_X12_29 (hm.kd 38 rfl) (Or.inl rfl) qX12_laysBack_43 ?_
      refine v_aload_n hX rfl qX12_laysBack_46 ?_
      refine v_aload_n hX rfl qX12_laysBack_47 ?_
      refine v_getIv hX g_X12_297 (Or.inl rfl) (hm.kd 38 rfl) (show _ = hpI h 38 38 from hf 38 38 (by omega)) qX12_laysBack_48 ?_
      refine v_putI hX p_X12_111 (hm.kd 38 rfl) (Or.inl rfl) qX12_laysBack_51 ?_
      refine v_return hX qX12_laysBack_54 (hP _ _ ?_)
      exact ⟨rfl, (stI (stI (mkH h σ h.2.2.1) 38 10 (hpI h 38 37)) 38 11 (hpI h 38 38)).1, rfl, fun a k a1 a2 => by show hpI (stI _ _ _ _) _ _ = _; rw [hpI_st, if_neg (by omega), hpI_st, if_neg (by omega)]; exact hf a k a1, bm_is (h := mkH h (stI (stI (mkH h σ h.2.2.1) 38 10 (hpI h 38 37)) 38 11 (hpI h 38 38)).1 h.2.2.1) (fun k hk => (h0 k hk).1.trans (hw.1 k hk).1) (fun k hk => (h0 k hk).2.trans (hw.1 k hk).2) ((hf 38 9 (by omega)).trans b2) hw.2.1 hw.2.2 ((hf 38 4 (by omega)).trans b5) b0⟩
    · have hl := ltN (N := 48) rfl hi q5
      refine v_aload_n hX rfl qX12_laysBack_8 ?_
      refine v_getR hX g_X12_23 (hm.kd 38 rfl) (hm.rf 3 rfl) qX12_laysBack_9 ?_
      refine v_iload_n hX rfl qX12_laysBack_12 ?_
      refine v_aload_n hX rfl qX12_laysBack_13 ?_
      refine v_getR hX g_X12_44 (hm.kd 38 rfl) (hm.rf 9 rfl) qX12_laysBack_14 ?_
      refine v_iload_n hX rfl qX12_laysBack_17 ?_
      refine v_ialdV hX (hm.kd 48 rfl) (hm.ln 48 rfl) (by exact ix_n hl rfl) (show _ = hpI h 48 i from hf 48 i (by omega)) qX12_laysBack_18 ?_
      refine v_iastJ hX (hm.kd 42 rfl) (hm.ln 42 rfl) (by exact ix_n hl rfl) qX12_laysBack_19 ?_
      refine v_aload_n hX rfl qX12_laysBack_20 ?_
      refine v_getR hX g_X12_26 (hm.kd 38 rfl) (hm.rf 4 rfl) qX12_laysBack_21 ?_
      refine v_iload_n hX rfl qX12_laysBack_24 ?_
      refine v_aload_n hX rfl qX12_laysBack_25 ?_
      refine v_getR hX g_X12_47 (hm.kd 38 rfl) (hm.rf 10 rfl) qX12_laysBack_26 ?_
      refine v_iload_n hX rfl qX12_laysBack_29 ?_
      refine v_ialdV hX (hm.kd 49 rfl) (hm.ln 49 rfl) (by exact ix_n hl rfl) (show _ = hpI h 49 i from hf 49 i (by omega)) qX12_laysBack_30 ?_
      refine v_iastJ hX (hm.kd 43 rfl) (hm.ln 43 rfl) (by exact ix_n hl rfl) qX12_laysBack_31 ?_
      refine v_iinc hX rfl (by first | exact ii_nI _ | exact ii_1 _) (Nat.le_of_ble_eq_true rfl) rfl (ls' := [some _, some _]) rfl qX12_laysBack_32 ?_
      refine v_goto hX 2 qX12_laysBack_35 rfl ?_
      exact ih _ (by omega) (i + 1) (stI (stI (mkH h σ h.2.2.1) 42 i (hpI h 48 i)) 43 i (hpI h 49 i)).1 rfl (by omega) (fun a k a1 => by show hpI (stI _ _ _ _) _ _ = _; rw [hpI_st, if_neg (by omega), hpI_st, if_neg (by omega)]; exact hf a k a1) (fun j hj => by
        show hpI (stI (stI (mkH h σ h.2.2.1) 42 i (hpI h 48 i)) 43 i (hpI h 49 i)) _ _ = _ ∧ hpI (stI (stI (mkH h σ h.2.2.1) 42 i (hpI h 48 i)) 43 i (hpI h 49 i)) _ _ = _
        rw [hpI_st, if_neg (by omega), hpI_st, hpI_st]
        by_cases e : j = i
        · rw [if_pos ⟨rfl, e⟩, if_pos ⟨rfl, e⟩, e]; exact ⟨rfl, rfl⟩
        · rw [if_neg (fun z => e z.2), if_neg (fun z => e z.2), hpI_st, if_neg (by omega)]; exact h0 j (by omega))
  exact L2 _ 0 h.1 rfl (by omega) (fun a k _ => rfl) (fun j hj => absurd hj (by omega))
