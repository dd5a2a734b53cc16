/-! public calls of the reference: force, feed; its beach changes -/
/-- what the reference's thinking and looking leave alone -/
def FrN (h : AHp) (σ : Nat → Nat → Int32) : Prop := ∀ a k, ¬ (a = 42 ∨ a = 43) → ¬ (46 ≤ a ∧ a ≤ 51) → ¬ (a = 38 ∧ (k = 4 ∨ k = 9 ∨ k = 10 ∨ k = 11 ∨ (15 ≤ k ∧ k ≤ 43))) → σ a k = hpI h a k
theorem FrN.k {h : AHp} {σ : Nat → Nat → Int32} (hf : FrN h σ) : K58 h σ := fun a ha => funext fun k => hf a k (by omega) (by omega) (by omega)
theorem MW.q {h : AHp} {E : Sst} (hc : MW h E) {σ : Nat → Nat → Int32} {J : Nat → Nat → Int64} (hf : FrN h σ) {b : Bch} (hb : bm (mkH h σ J) = b) (hbe : BeOK b (sC E)) : MW (mkH h σ J) (setB E b) := by
  obtain ⟨h1, h2, h3, h4, h5, h6, h7, h8⟩ := hc
  refine ⟨h1, h2.fr (hf 38 3 (by omega) (by omega) (by omega)) (funext fun k => hf 39 k (by omega) (by omega) (by omega)) (funext fun k => hf 40 k (by omega) (by omega) (by omega)), ⟨(hf 38 14 (by omega) (by omega) (by omega)).trans h3.1, fun i hi => ⟨(hf 44 i (by omega) (by omega) (by omega)).trans (h3.2 i hi).1, (hf 45 i (by omega) (by omega) (by omega)).trans (h3.2 i hi).2⟩⟩, hb, ?_, ⟨(hf 38 6 (by omega) (by omega) (by omega)).trans h6.1, fun i hi => (hf 41 i (by omega) (by omega) (by omega)).trans (h6.2 i hi)⟩, fun i hi => ?_, ⟨h8.1, h8.2.1, h8.2.2.1, hbe, h8.2.2.2.2⟩⟩
  · rcases h5 with ⟨z1, z2⟩ | ⟨b, z1, z2, z3, z4, z5, z6, z7⟩
    · exact Or.inl ⟨z1, (hf 38 46 (by omega) (by omega) (by omega)).trans z2⟩
    · exact Or.inr ⟨b, z1, fun k hk => ⟨(hf 52 k (by omega) (by omega) (by omega)).trans (z2 k hk).1, (hf 53 k (by omega) (by omega) (by omega)).trans (z2 k hk).2⟩, (hf 38 46 (by omega) (by omega) (by omega)).trans z3, (hf 38 47 (by omega) (by omega) (by omega)).trans z4, (hf 38 48 (by omega) (by omega) (by omega)).trans z5, (hf 38 49 (by omega) (by omega) (by omega)).trans z6, z7⟩
  · obtain ⟨g1, g2⟩ := h7 i hi
    exact ⟨(hf 54 i (by omega) (by omega) (by omega)).trans g1, fun z => ⟨(hf 55 i (by omega) (by omega) (by omega)).trans (g2 z).1, (hf 56 i (by omega) (by omega) (by omega)).trans (g2 z).2.1, fun k hk => (hf 57 _ (by omega) (by omega) (by omega)).trans ((g2 z).2.2 k hk)⟩⟩
theorem MW.tape {h : AHp} {E : Sst} (hc : MW h E) {σ : Nat → Nat → Int32} (hf : ∀ a k, ¬ a = 41 → ¬ (a = 38 ∧ k = 6) → σ a k = hpI h a k) {z : Nat} {y : Nat → Int32} (ht : TpM (mkH h σ h.2.2.1) z y) (hz : z ≤ 160) (hy : ∀ i, i < z → inR (y i) 255) : MW (mkH h σ h.2.2.1) (setY E z y) := by
  obtain ⟨h1, h2, h3, h4, h5, h6, h7, h8⟩ := hc
  refine ⟨h1, h2.fr (hf 38 3 (by omega) (by omega)) (funext fun k => hf 39 k (by omega) (by omega)) (funext fun k => hf 40 k (by omega) (by omega)), ⟨(hf 38 14 (by omega) (by omega)).trans h3.1, fun i hi => ⟨(hf 44 i (by omega) (by omega)).trans (h3.2 i hi).1, (hf 45 i (by omega) (by omega)).trans (h3.2 i hi).2⟩⟩, (bm_ext (h := mkH h σ h.2.2.1) (h' := h) (fun k _ => hf 42 k (by omega) (by omega)) (fun k _ => hf 43 k (by omega) (by omega)) (hf 38 9 (by omega) (by omega)) (hf 38 10 (by omega) (by omega)) (hf 38 11 (by omega) (by omega)) (hf 38 4 (by omega) (by omega))).trans h4, ?_, ht, fun i hi => ?_, ⟨h8.1, h8.2.1, h8.2.2.1, h8.2.2.2.1, h8.2.2.2.2.1, hz, hy, h8.2.2.2.2.2.2.2⟩⟩
  · rcases h5 with ⟨z1, z2⟩ | ⟨b, z1, z2, z3, z4, z5, z6, z7⟩
    · exact Or.inl ⟨z1, (hf 38 46 (by omega) (by omega)).trans z2⟩
    · exact Or.inr ⟨b, z1, fun k hk => ⟨(hf 52 k (by omega) (by omega)).trans (z2 k hk).1, (hf 53 k (by omega) (by omega)).trans (z2 k hk).2⟩, (hf 38 46 (by omega) (by omega)).trans z3, (hf 38 47 (by omega) (by omega)).trans z4, (hf 38 48 (by omega) (by omega)).trans z5, (hf 38 49 (by omega) (by omega)).trans z6, z7⟩
  · obtain ⟨g1, g2⟩ := h7 i hi
    exact ⟨(hf 54 i (by omega) (by omega)).trans g1, fun z => ⟨(hf 55 i (by omega) (by omega)).trans (g2 z).1, (hf 56 i (by omega) (by omega)).trans (g2 z).2.1, fun k hk => (hf 57 _ (by omega) (by omega)).trans ((g2 z).2.2 k hk)⟩⟩
theorem qX12_force_0 : Dq cX12_force 0 (.iload_n 1) 1 1 := ⟨by decide +kernel, rfl⟩
theorem qX12_force_1 : Dq cX12_force 1 (.i2l) 1 2 := ⟨by decide +kernel, rfl⟩
theorem qX12_force_2 : Dq cX12_force 2 (.lconst 0) 1 3 := ⟨by decide +kernel, rfl⟩
theorem qX12_force_3 : Dq cX12_force 3 (.aload_n 0) 1 4 := ⟨by decide +kernel, rfl⟩
theorem qX12_force_4 : Dq cX12_force 4 (.getfield 82) 3 7 := ⟨by decide +kernel, rfl⟩
theorem qX12_force_7 : Dq cX12_force 7 (.iconst 1) 1 8 := ⟨by decide +kernel, rfl⟩
theorem qX12_force_8 : Dq cX12_force 8 (.isub) 1 9 := ⟨by decide +kernel, rfl⟩
theorem qX12_force_9 : Dq cX12_force 9 (.i2l) 1 10 := ⟨by decide +kernel, rfl⟩
theorem qX12_force_10 : Dq cX12_force 10 (.invokestatic 87) 3 13 := ⟨by decide +kernel, rfl⟩
theorem qX12_force_13 : Dq cX12_force 13 (.ifCond .ne 6) 3 16 := ⟨by decide +kernel, rfl⟩
theorem qX12_force_16 : Dq cX12_force 16 (.bipush (-2)) 2 18 := ⟨by decide +kernel, rfl⟩
theorem qX12_force_18 : Dq cX12_force 18 (.ireturn) 1 19 := ⟨by decide +kernel, rfl⟩
theorem qX12_force_19 : Dq cX12_force 19 (.aload_n 0) 1 20 := ⟨by decide +kernel, rfl⟩
theorem qX12_force_20 : Dq cX12_force 20 (.getfield 239) 3 23 := ⟨by decide +kernel, rfl⟩
theorem qX12_force_23 : Dq cX12_force 23 (.istore_n 2) 1 24 := ⟨by decide +kernel, rfl⟩
theorem qX12_force_24 : Dq cX12_force 24 (.aload_n 0) 1 25 := ⟨by decide +kernel, rfl⟩
theorem qX12_force_25 : Dq cX12_force 25 (.iload_n 1) 1 26 := ⟨by decide +kernel, rfl⟩
theorem qX12_force_26 : Dq cX12_force 26 (.putfield 239) 3 29 := ⟨by decide +kernel, rfl⟩
theorem qX12_force_29 : Dq cX12_force 29 (.iload_n 2) 1 30 := ⟨by decide +kernel, rfl⟩
theorem qX12_force_30 : Dq cX12_force 30 (.ireturn) 1 31 := ⟨by decide +kernel, rfl⟩
set_option maxRecDepth 100000 in
set_option maxHeartbeats 4000000 in
theorem m_force {G : Glb} {h : AHp} {E : Sst} (hc : MW h E) (t : Int32) : CP G m_X12_force 2 0 0 [.ref 38, .int t] h (fun r h' => r = some (.int ((forceI E t).1)) ∧ ∃ σ J, h' = mkH h σ J ∧ MW (mkH h σ J) (setB E (forceI E t).2) ∧ K58 h σ) := by
  suffices key : ∀ P : Option Value → AHp → Prop, (∀ r h', (r = some (.int ((forceI E t).1)) ∧ ∃ σ J, h' = mkH h σ J ∧ MW (mkH h σ J) (setB E (forceI E t).2) ∧ K58 h σ) → P r h') → CP G m_X12_force 2 0 0 [.ref 38, .int t] h P from key _ (fun _ _ z => z)
  intro P hP
  obtain ⟨hm, htx, hp, hb, hkp, htp, hst, hok⟩ := id hc
  have hc6 := hok.1
  have hm6 := hok.2.1
  have hkd : ∀ i, i < sM E → sK E i < 6 := fun i hi => (hok.2.2.1 i hi).1
  have hnu : ∀ i, i < sM E → inR (sN E i) 9 := fun i hi => (hok.2.2.1 i hi).2
  have hbe : BeOK (bm h) (sC E) := by rw [hb]; exact hok.2.2.2.1
  refine CP.of (by decide +kernel) (Nat.le_of_ble_eq_true rfl) fun X hX hR hnm => ?_
  show V X G 3 0 0 _ 0 [some (.ref 38), some (.int t), none] [] h
  refine v_iload_n hX rfl qX12_force_0 ?_
  refine v_i2l hX qX12_force_1 ?_
  refine v_lconst hX ll_0 qX12_force_2 ?_
  refine v_aload_n hX rfl qX12_force_3 ?_
  refine v_getIv hX g_X12_82 (Or.inl rfl) (hm.kd 38 rfl) htx.1 qX12_force_4 ?_
  refine v_iconst hX li_1 qX12_force_7 ?_
  refine v_isub hX qX12_force_8 ?_
  refine v_i2l hX qX12_force_9 ?_
  refine v_callSq hX hR k_X12_87 (m_in _ (by exact (0)) _) rfl (Nat.le_of_ble_eq_true rfl) rfl (Nat.le_of_ble_eq_true rfl) ⟨Nat.le_of_ble_eq_true rfl, Nat.le_of_ble_eq_true rfl⟩ qX12_force_10 ?_
  rintro _ _ ⟨rfl, rfl⟩
  first | refine v_if_neB hX 19 qX12_force_13 rfl (fun q13 => ?_) (fun q13 => ?_) | refine v_if_ne hX 19 qX12_force_13 rfl (fun q13 => ?_) (fun q13 => ?_)
  · have q : 0 ≤ t ∧ t < nI (sC E) := ⟨q13.1, (leM1 (by omega)).mp q13.2⟩
    refine v_aload_n hX rfl qX12_force_19 ?_
    refine v_getIv hX g_X12_239 (Or.inl rfl) (hm.kd 38 rfl) (show _ = sB E 0 5 by rw [← hb]; rfl) qX12_force_20 ?_
    refine v_istore_n hX (Nat.le_of_ble_eq_true rfl) rfl (ls' := [some _, some _, some _]) rfl qX12_force_23 ?_
    refine v_aload_n hX rfl qX12_force_24 ?_
    refine v_iload_n hX rfl qX12_force_25 ?_
    refine v_putI hX p_X12_239 (hm.kd 38 rfl) (Or.inl rfl) qX12_force_26 ?_
    refine v_iload_n hX rfl qX12_force_29 ?_
    refine v_ireturn hX qX12_force_30 (hP _ _ ?_)
    rw [forceI, if_pos q]
    obtain ⟨w, hw, ew⟩ := ofRange q.1 q.2 (by omega)
    refine ⟨rfl, (stI h 38 4 t).1, h.2.2.1, rfl, hc.q (fun a k a1 a2 a3 => by show hpI (stI _ _ _ _) _ _ = _; rw [hpI_st, if_neg (by omega)]) ?_ (hok.2.2.2.1.f (Or.inr (Or.inr (Or.inr ⟨rfl, w, hw, ew⟩)))), fun a ha => funext fun k => by show hpI (stI _ _ _ _) _ _ = _; rw [hpI_st, if_neg (by omega)]⟩
    rw [← hb]
    funext i k
    show (if okB i k then _ else _) = (if i = 0 ∧ k = 5 then t else bm h i k)
    by_cases e : i = 0 ∧ k = 5
    · obtain ⟨rfl, rfl⟩ := e; rfl
    · rw [if_neg e]
      unfold bm
      by_cases ho : okB i k = true
      · rw [if_pos ho, if_pos ho]
        rcases okB_iff.mp ho with ⟨rfl | rfl, hk⟩ | ⟨rfl, hk, hk2⟩
        · rfl
        · rfl
        · have hk3 : k = 2 ∨ k = 3 ∨ k = 4 := by omega
          rcases hk3 with rfl | rfl | rfl <;> rfl
      · rw [if_neg ho, if_neg ho]
  · have q : ¬ (0 ≤ t ∧ t < nI (sC E)) := fun z => q13 ⟨z.1, (leM1 (by omega)).mpr z.2⟩
    refine v_bipush hX lb_n2 qX12_force_16 ?_
    refine v_ireturn hX qX12_force_18 (hP _ _ ?_)
    rw [forceI, if_neg q]
    exact ⟨rfl, h.1, h.2.2.1, rfl, hc, fun a _ => rfl⟩
theorem qX12_feed_0 : Dq cX12_feed 0 (.iload_n 1) 1 1 := ⟨by decide +kernel, rfl⟩
theorem qX12_feed_1 : Dq cX12_feed 1 (.i2l) 1 2 := ⟨by decide +kernel, rfl⟩
theorem qX12_feed_2 : Dq cX12_feed 2 (.lconst 0) 1 3 := ⟨by decide +kernel, rfl⟩
theorem qX12_feed_3 : Dq cX12_feed 3 (.ldc2_w 118) 3 6 := ⟨by decide +kernel, rfl⟩
theorem qX12_feed_6 : Dq cX12_feed 6 (.invokestatic 87) 3 9 := ⟨by decide +kernel, rfl⟩
theorem qX12_feed_9 : Dq cX12_feed 9 (.ifCond .ne 6) 3 12 := ⟨by decide +kernel, rfl⟩
theorem qX12_feed_12 : Dq cX12_feed 12 (.bipush (-2)) 2 14 := ⟨by decide +kernel, rfl⟩
theorem qX12_feed_14 : Dq cX12_feed 14 (.ireturn) 1 15 := ⟨by decide +kernel, rfl⟩
theorem qX12_feed_15 : Dq cX12_feed 15 (.aload_n 0) 1 16 := ⟨by decide +kernel, rfl⟩
theorem qX12_feed_16 : Dq cX12_feed 16 (.getfield 120) 3 19 := ⟨by decide +kernel, rfl⟩
theorem qX12_feed_19 : Dq cX12_feed 19 (.sipush 160) 3 22 := ⟨by decide +kernel, rfl⟩
theorem qX12_feed_22 : Dq cX12_feed 22 (.if_icmp .ne 6) 3 25 := ⟨by decide +kernel, rfl⟩
theorem qX12_feed_25 : Dq cX12_feed 25 (.bipush (-4)) 2 27 := ⟨by decide +kernel, rfl⟩
theorem qX12_feed_27 : Dq cX12_feed 27 (.ireturn) 1 28 := ⟨by decide +kernel, rfl⟩
theorem qX12_feed_28 : Dq cX12_feed 28 (.aload_n 0) 1 29 := ⟨by decide +kernel, rfl⟩
theorem qX12_feed_29 : Dq cX12_feed 29 (.getfield 20) 3 32 := ⟨by decide +kernel, rfl⟩
theorem qX12_feed_32 : Dq cX12_feed 32 (.aload_n 0) 1 33 := ⟨by decide +kernel, rfl⟩
theorem qX12_feed_33 : Dq cX12_feed 33 (.getfield 120) 3 36 := ⟨by decide +kernel, rfl⟩
theorem qX12_feed_36 : Dq cX12_feed 36 (.iload_n 1) 1 37 := ⟨by decide +kernel, rfl⟩
theorem qX12_feed_37 : Dq cX12_feed 37 (.iastore) 1 38 := ⟨by decide +kernel, rfl⟩
theorem qX12_feed_38 : Dq cX12_feed 38 (.aload_n 0) 1 39 := ⟨by decide +kernel, rfl⟩
theorem qX12_feed_39 : Dq cX12_feed 39 (.dup) 1 40 := ⟨by decide +kernel, rfl⟩
theorem qX12_feed_40 : Dq cX12_feed 40 (.getfield 120) 3 43 := ⟨by decide +kernel, rfl⟩
theorem qX12_feed_43 : Dq cX12_feed 43 (.iconst 1) 1 44 := ⟨by decide +kernel, rfl⟩
theorem qX12_feed_44 : Dq cX12_feed 44 (.iadd) 1 45 := ⟨by decide +kernel, rfl⟩
theorem qX12_feed_45 : Dq cX12_feed 45 (.putfield 120) 3 48 := ⟨by decide +kernel, rfl⟩
theorem qX12_feed_48 : Dq cX12_feed 48 (.aload_n 0) 1 49 := ⟨by decide +kernel, rfl⟩
theorem qX12_feed_49 : Dq cX12_feed 49 (.getfield 120) 3 52 := ⟨by decide +kernel, rfl⟩
theorem qX12_feed_52 : Dq cX12_feed 52 (.ireturn) 1 53 := ⟨by decide +kernel, rfl⟩
set_option maxRecDepth 100000 in
set_option maxHeartbeats 4000000 in
theorem m_feed {G : Glb} {h : AHp} {E : Sst} (hc : MW h E) (c : Int32) : CP G m_X12_feed 2 0 0 [.ref 38, .int c] h (fun r h' => r = some (.int ((feedI E c).1)) ∧ ∃ σ J, h' = mkH h σ J ∧ MW (mkH h σ J) (setY E (feedI E c).2.1 (feedI E c).2.2) ∧ K58 h σ) := by
  suffices key : ∀ P : Option Value → AHp → Prop, (∀ r h', (r = some (.int ((feedI E c).1)) ∧ ∃ σ J, h' = mkH h σ J ∧ MW (mkH h σ J) (setY E (feedI E c).2.1 (feedI E c).2.2) ∧ K58 h σ) → P r h') → CP G m_X12_feed 2 0 0 [.ref 38, .int c] h P from key _ (fun _ _ z => z)
  intro P hP
  obtain ⟨hm, htx, hp, hb, hkp, htp, hst, hok⟩ := id hc
  have hc6 := hok.1
  have hm6 := hok.2.1
  have hkd : ∀ i, i < sM E → sK E i < 6 := fun i hi => (hok.2.2.1 i hi).1
  have hnu : ∀ i, i < sM E → inR (sN E i) 9 := fun i hi => (hok.2.2.1 i hi).2
  have hbe : BeOK (bm h) (sC E) := by rw [hb]; exact hok.2.2.2.1
  have hz160 := hok.2.2.2.2.2.1
  refine CP.of (by decide +kernel) (Nat.le_of_ble_eq_true rfl) fun X hX hR hnm => ?_
  show V X G 2 0 0 _ 0 [some (.ref 38), some (.int c)] [] h
  refine v_iload_n hX rfl qX12_feed_0 ?_
  refine v_i2l hX qX12_feed_1 ?_
  refine v_lconst hX ll_0 qX12_feed_2 ?_
  refine v_ldc2 hX c_X12_118 qX12_feed_3 ?_
  refine v_callSq hX hR k_X12_87 (m_in _ (by exact (0)) (by exact (255))) rfl (Nat.le_of_ble_eq_true rfl) rfl (Nat.le_of_ble_eq_true rfl) ⟨Nat.le_of_ble_eq_true rfl, Nat.le_of_ble_eq_true rfl⟩ qX12_feed_6 ?_
  rintro _ _ ⟨rfl, rfl⟩
  first | refine v_if_neB hX 15 qX12_feed_9 rfl (fun q9 => ?_) (fun q9 => ?_) | refine v_if_ne hX 15 qX12_feed_9 rfl (fun q9 => ?_) (fun q9 => ?_)
  · skip
    refine v_aload_n hX rfl qX12_feed_15 ?_
    refine v_getIv hX g_X12_120 (Or.inl rfl) (hm.kd 38 rfl) htp.1 qX12_feed_16 ?_
    refine v_sipush hX ls_160 qX12_feed_19 ?_
    refine v_icmp_ne hX 28 qX12_feed_22 rfl (fun q22 => ?_) (fun q22 => ?_)
    · have hl : sZ E < 160 := by
            rcases Nat.lt_or_ge (sZ E) 160 with z | z
            · exact z
            · exact absurd (show nI (sZ E) = 160 by rw [show sZ E = 160 by omega]; rfl) q22
      refine v_aload_n hX rfl qX12_feed_28 ?_
      refine v_getR hX g_X12_20 (hm.kd 38 rfl) (hm.rf 2 rfl) qX12_feed_29 ?_
      refine v_aload_n hX rfl qX12_feed_32 ?_
      refine v_getIv hX g_X12_120 (Or.inl rfl) (hm.kd 38 rfl) htp.1 qX12_feed_33 ?_
      refine v_iload_n hX rfl qX12_feed_36 ?_
      refine v_iastJ hX (hm.kd 41 rfl) (hm.ln 41 rfl) (by exact ix_n (n := sZ E) (by omega) rfl) qX12_feed_37 ?_
      refine v_aload_n hX rfl qX12_feed_38 ?_
      refine v_dup hX rfl qX12_feed_39 ?_
      refine v_getIv hX g_X12_120 (Or.inl rfl) (hm.kd 38 rfl) htp.1 qX12_feed_40 ?_
      refine v_iconst hX li_1 qX12_feed_43 ?_
      refine v_iadd hX qX12_feed_44 ?_
      refine v_eqI (nI_1 _) ?_
      refine v_putI hX p_X12_120 (hm.kd 38 rfl) (Or.inl rfl) qX12_feed_45 ?_
      refine v_aload_n hX rfl qX12_feed_48 ?_
      refine v_getIv hX g_X12_120 (Or.inl rfl) (hm.kd 38 rfl) (show _ = nI (sZ E + 1) from rfl) qX12_feed_49 ?_
      refine v_ireturn hX qX12_feed_52 (hP _ _ ?_)
      rw [feedI, if_pos q9, if_pos hl]
      refine ⟨rfl, (stI (stI h 41 (sZ E) c) 38 6 (nI (sZ E + 1))).1, h.2.2.1, rfl, hc.tape (fun a k a1 a2 => ?_) ⟨rfl, fun i hi => ?_⟩ (show sZ E + 1 ≤ 160 by omega) (fun i hi => ?_), fun a ha => funext fun k => ?_⟩
      · show hpI (stI _ _ _ _) _ _ = _; rw [hpI_st, if_neg a2, hpI_st, if_neg (fun z => a1 z.1)]
      · have hi : i < sZ E + 1 := hi
        show hpI (stI (stI h 41 (sZ E) c) 38 6 (nI (sZ E + 1))) 41 i = if i = sZ E then c else sY E i
        rw [hpI_st, if_neg (by omega), hpI_st]
        by_cases e : i = sZ E
        · rw [if_pos ⟨rfl, e⟩, if_pos e]
        · rw [if_neg (fun z => e z.2), if_neg e]; exact htp.2 i (by omega)
      · have hi : i < sZ E + 1 := hi
        show inR (if i = sZ E then c else sY E i) 255
        by_cases e : i = sZ E
        · rw [if_pos e]; exact inR.of (n := 255) (by omega) q9.1 q9.2
        · rw [if_neg e]; exact hok.2.2.2.2.2.2.1 i (by omega)
      · show hpI (stI _ _ _ _) _ _ = _; rw [hpI_st, if_neg (by omega), hpI_st, if_neg (by omega)]
    · have hl : ¬ sZ E < 160 := fun z => by have := (nI_eq (a := sZ E) (b := 160) (by omega) (by omega)).mp q22; omega
      refine v_bipush hX lb_n4 qX12_feed_25 ?_
      refine v_ireturn hX qX12_feed_27 (hP _ _ ?_)
      rw [feedI, if_pos q9, if_neg hl]
      exact ⟨rfl, h.1, h.2.2.1, rfl, hc, fun a _ => rfl⟩
  · skip
    refine v_bipush hX lb_n2 qX12_feed_12 ?_
    refine v_ireturn hX qX12_feed_14 (hP _ _ ?_)
    rw [feedI, if_neg q9]
    exact ⟨rfl, h.1, h.2.2.1, rfl, hc, fun a _ => rfl⟩
