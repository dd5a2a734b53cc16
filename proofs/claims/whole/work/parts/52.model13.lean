/-! the reference: image, back, sheet, cell, taken -/
theorem MW.img {h : AHp} {E : Sst} (hc : MW h E) {σ : Nat → Nat → Int32} (hf : ∀ a k, ¬ (a = 52 ∨ a = 53) → ¬ (a = 38 ∧ 46 ≤ k ∧ k ≤ 49) → σ a k = hpI h a k) {o : Option Bch} (hk : KpM (mkH h σ h.2.2.1) o) (ho : ∀ b, o = some b → BeOK b (sC E)) : MW (mkH h σ h.2.2.1) (setO E o) := by
  obtain ⟨h1, h2, h3, h4, h5, h6, h7, h8⟩ := hc
  refine ⟨h1, h2.fr (hf 38 3 (by omega) (by omega)) (funext fun k => hf 39 k (by omega) (by omega)) (funext fun k => hf 40 k (by omega) (by omega)), h3.ext (hf 38 14 (by omega) (by omega)) (fun i => hf 44 i (by omega) (by omega)) (fun i => hf 45 i (by omega) (by omega)), (bm_ext (h := mkH h σ h.2.2.1) (h' := h) (fun k _ => hf 42 k (by omega) (by omega)) (fun k _ => hf 43 k (by omega) (by omega)) (hf 38 9 (by omega) (by omega)) (hf 38 10 (by omega) (by omega)) (hf 38 11 (by omega) (by omega)) (hf 38 4 (by omega) (by omega))).trans h4, hk, ⟨(hf 38 6 (by omega) (by omega)).trans h6.1, fun i hi => (hf 41 i (by omega) (by omega)).trans (h6.2 i hi)⟩, fun i hi => ?_, ⟨h8.1, h8.2.1, h8.2.2.1, h8.2.2.2.1, ho, h8.2.2.2.2.2⟩⟩
  obtain ⟨g1, g2⟩ := h7 i hi
  exact ⟨(hf 54 i (by omega) (by omega)).trans g1, fun z => ⟨(hf 55 i (by omega) (by omega)).trans (g2 z).1, (hf 56 i (by omega) (by omega)).trans (g2 z).2.1, fun k hk => (hf 57 _ (by omega) (by omega)).trans ((g2 z).2.2 k hk)⟩⟩
theorem MW.sht {h : AHp} {E : Sst} (hc : MW h E) {σ : Nat → Nat → Int32} (hf : ∀ a k, ¬ (54 ≤ a ∧ a ≤ 57) → σ a k = hpI h a k) {s : Nat → Int32} {l : Nat → Nat} {it : Nat → Nat → Int32} (hk : StM (mkH h σ h.2.2.1) (setS E s l it)) (ho : ∀ i, i < 4 → l i ≤ 40 ∧ (s i = -1 ∨ s i = 0 ∨ s i = 1 ∨ s i = 2)) : MW (mkH h σ h.2.2.1) (setS E s l it) := by
  obtain ⟨h1, h2, h3, h4, h5, h6, h7, h8⟩ := hc
  refine ⟨h1, h2.fr (hf 38 3 (by omega)) (funext fun k => hf 39 k (by omega)) (funext fun k => hf 40 k (by omega)), h3.ext (hf 38 14 (by omega)) (fun i => hf 44 i (by omega)) (fun i => hf 45 i (by omega)), (bm_ext (h := mkH h σ h.2.2.1) (h' := h) (fun k _ => hf 42 k (by omega)) (fun k _ => hf 43 k (by omega)) (hf 38 9 (by omega)) (hf 38 10 (by omega)) (hf 38 11 (by omega)) (hf 38 4 (by omega))).trans h4, ?_, ⟨(hf 38 6 (by omega)).trans h6.1, fun i hi => (hf 41 i (by omega)).trans (h6.2 i hi)⟩, hk, ⟨h8.1, h8.2.1, h8.2.2.1, h8.2.2.2.1, h8.2.2.2.2.1, h8.2.2.2.2.2.1, h8.2.2.2.2.2.2.1, ho⟩⟩
  rcases h5 with ⟨z1, z2⟩ | ⟨b, z1, z2, z3, z4, z5, z6, z7⟩
  · exact Or.inl ⟨z1, (hf 38 46 (by omega)).trans z2⟩
  · exact Or.inr ⟨b, z1, fun k hk => ⟨(hf 52 k (by omega)).trans (z2 k hk).1, (hf 53 k (by omega)).trans (z2 k hk).2⟩, (hf 38 46 (by omega)).trans z3, (hf 38 47 (by omega)).trans z4, (hf 38 48 (by omega)).trans z5, (hf 38 49 (by omega)).trans z6, z7⟩
theorem qX12_image_0 : Dq cX12_image 0 (.iconst 0) 1 1 := ⟨by decide +kernel, rfl⟩
theorem qX12_image_1 : Dq cX12_image 1 (.istore_n 1) 1 2 := ⟨by decide +kernel, rfl⟩
theorem qX12_image_2 : Dq cX12_image 2 (.iload_n 1) 1 3 := ⟨by decide +kernel, rfl⟩
theorem qX12_image_3 : Dq cX12_image 3 (.bipush 48) 2 5 := ⟨by decide +kernel, rfl⟩
theorem qX12_image_5 : Dq cX12_image 5 (.if_icmp .ge 33) 3 8 := ⟨by decide +kernel, rfl⟩
theorem qX12_image_8 : Dq cX12_image 8 (.aload_n 0) 1 9 := ⟨by decide +kernel, rfl⟩
theorem qX12_image_9 : Dq cX12_image 9 (.getfield 56) 3 12 := ⟨by decide +kernel, rfl⟩
theorem qX12_image_12 : Dq cX12_image 12 (.iload_n 1) 1 13 := ⟨by decide +kernel, rfl⟩
theorem qX12_image_13 : Dq cX12_image 13 (.aload_n 0) 1 14 := ⟨by decide +kernel, rfl⟩
theorem qX12_image_14 : Dq cX12_image 14 (.getfield 23) 3 17 := ⟨by decide +kernel, rfl⟩
theorem qX12_image_17 : Dq cX12_image 17 (.iload_n 1) 1 18 := ⟨by decide +kernel, rfl⟩
theorem qX12_image_18 : Dq cX12_image 18 (.iaload) 1 19 := ⟨by decide +kernel, rfl⟩
theorem qX12_image_19 : Dq cX12_image 19 (.iastore) 1 20 := ⟨by decide +kernel, rfl⟩
theorem qX12_image_20 : Dq cX12_image 20 (.aload_n 0) 1 21 := ⟨by decide +kernel, rfl⟩
theorem qX12_image_21 : Dq cX12_image 21 (.getfield 59) 3 24 := ⟨by decide +kernel, rfl⟩
theorem qX12_image_24 : Dq cX12_image 24 (.iload_n 1) 1 25 := ⟨by decide +kernel, rfl⟩
theorem qX12_image_25 : Dq cX12_image 25 (.aload_n 0) 1 26 := ⟨by decide +kernel, rfl⟩
theorem qX12_image_26 : Dq cX12_image 26 (.getfield 26) 3 29 := ⟨by decide +kernel, rfl⟩
theorem qX12_image_29 : Dq cX12_image 29 (.iload_n 1) 1 30 := ⟨by decide +kernel, rfl⟩
theorem qX12_image_30 : Dq cX12_image 30 (.iaload) 1 31 := ⟨by decide +kernel, rfl⟩
theorem qX12_image_31 : Dq cX12_image 31 (.iastore) 1 32 := ⟨by decide +kernel, rfl⟩
theorem qX12_image_32 : Dq cX12_image 32 (.iinc 1 1) 3 35 := ⟨by decide +kernel, rfl⟩
theorem qX12_image_35 : Dq cX12_image 35 (.goto (-33)) 3 38 := ⟨by decide +kernel, rfl⟩
theorem qX12_image_38 : Dq cX12_image 38 (.aload_n 0) 1 39 := ⟨by decide +kernel, rfl⟩
theorem qX12_image_39 : Dq cX12_image 39 (.aload_n 0) 1 40 := ⟨by decide +kernel, rfl⟩
theorem qX12_image_40 : Dq cX12_image 40 (.getfield 29) 3 43 := ⟨by decide +kernel, rfl⟩
theorem qX12_image_43 : Dq cX12_image 43 (.putfield 62) 3 46 := ⟨by decide +kernel, rfl⟩
theorem qX12_image_46 : Dq cX12_image 46 (.aload_n 0) 1 47 := ⟨by decide +kernel, rfl⟩
theorem qX12_image_47 : Dq cX12_image 47 (.aload_n 0) 1 48 := ⟨by decide +kernel, rfl⟩
theorem qX12_image_48 : Dq cX12_image 48 (.getfield 111) 3 51 := ⟨by decide +kernel, rfl⟩
theorem qX12_image_51 : Dq cX12_image 51 (.putfield 353) 3 54 := ⟨by decide +kernel, rfl⟩
theorem qX12_image_54 : Dq cX12_image 54 (.aload_n 0) 1 55 := ⟨by decide +kernel, rfl⟩
theorem qX12_image_55 : Dq cX12_image 55 (.aload_n 0) 1 56 := ⟨by decide +kernel, rfl⟩
theorem qX12_image_56 : Dq cX12_image 56 (.getfield 108) 3 59 := ⟨by decide +kernel, rfl⟩
theorem qX12_image_59 : Dq cX12_image 59 (.putfield 356) 3 62 := ⟨by decide +kernel, rfl⟩
theorem qX12_image_62 : Dq cX12_image 62 (.aload_n 0) 1 63 := ⟨by decide +kernel, rfl⟩
theorem qX12_image_63 : Dq cX12_image 63 (.aload_n 0) 1 64 := ⟨by decide +kernel, rfl⟩
theorem qX12_image_64 : Dq cX12_image 64 (.getfield 239) 3 67 := ⟨by decide +kernel, rfl⟩
theorem qX12_image_67 : Dq cX12_image 67 (.putfield 359) 3 70 := ⟨by decide +kernel, rfl⟩
theorem qX12_image_70 : Dq cX12_image 70 (.aload_n 0) 1 71 := ⟨by decide +kernel, rfl⟩
theorem qX12_image_71 : Dq cX12_image 71 (.getfield 29) 3 74 := ⟨by decide +kernel, rfl⟩
theorem qX12_image_74 : Dq cX12_image 74 (.ireturn) 1 75 := ⟨by decide +kernel, rfl⟩
set_option maxRecDepth 100000 in
set_option maxHeartbeats 4000000 in
theorem m_image {G : Glb} {h : AHp} {E : Sst} (hc : MW h E)  : CP G m_X12_image 1 0 0 [.ref 38] h (fun r h' => r = some (.int (imageI (sB E))) ∧ ∃ σ J, h' = mkH h σ J ∧ MW (mkH h σ J) (setO E (some (sB E))) ∧ K58 h σ) := by
  suffices key : ∀ P : Option Value → AHp → Prop, (∀ r h', (r = some (.int (imageI (sB E))) ∧ ∃ σ J, h' = mkH h σ J ∧ MW (mkH h σ J) (setO E (some (sB E))) ∧ K58 h σ) → P r h') → CP G m_X12_image 1 0 0 [.ref 38] h P from key _ (fun _ _ z => z)
  intro P hP
  obtain ⟨hm, htx, hp, hb, hkp, htp, hst, hok⟩ := id hc
  have hc6 := hok.1
  have hm6 := hok.2.1
  have hkd : ∀ i, i < sM E → sK E i < 6 := fun i hi => (hok.2.2.1 i hi).1
  have hnu : ∀ i, i < sM E → inR (sN E i) 9 := fun i hi => (hok.2.2.1 i hi).2
  have hbe : BeOK (bm h) (sC E) := by rw [hb]; exact hok.2.2.2.1
  refine CP.of (by decide +kernel) (Nat.le_of_ble_eq_true rfl) fun X hX hR hnm => ?_
  show V X G 2 0 0 _ 0 [some (.ref 38), none] [] h
  refine v_iconst hX li_0 qX12_image_0 ?_
  refine v_istore_n hX (Nat.le_of_ble_eq_true rfl) rfl (ls' := [some _, some _]) rfl qX12_image_1 ?_
  have L2 : ∀ (mz : Nat) (i : Nat) (σ : Nat → Nat → Int32), 48 - i = mz → (i ≤ 48) → (∀ a k, ¬ (a = 52 ∨ a = 53) → σ a k = hpI h a k) → (∀ j, j < i → σ 52 j = hpI h 42 j ∧ σ 53 j = hpI h 43 j) → V X G 2 0 0 (QM X G P 0 0) 2 [some (.ref 38), some (.int (nI i))] [] (mkH h σ h.2.2.1) := by
    intro mz
    induction mz using Nat.strongRecOn with
    | _ mz ih =>
    intro i σ hmz hi hf h0
    refine v_iload_n hX rfl qX12_image_2 ?_
    refine v_bipush hX lb_48 qX12_image_3 ?_
    refine v_icmp_geS hX 38 qX12_image_5 rfl (fun q5 => ?_) (fun q5 => ?_)
    · have e1 := geN (N := 48) rfl hi q5; subst e1
      refine v_aload_n hX rfl qX12_image_38 ?_
      refine v_aload_n hX rfl qX12_image_39 ?_
      refine v_getIv hX g_X12_29 (Or.inl rfl) (hm.kd 38 rfl) (show _ = sB E 0 3 from (hf 38 10 (by omega)).trans (by rw [← hb]; rfl)) qX12_image_40 ?_
      refine v_putI hX p_X12_62 (hm.kd 38 rfl) (Or.inl rfl) qX12_image_43 ?_
      refine v_aload_n hX rfl qX12_image_46 ?_
      refine v_aload_n hX rfl qX12_image_47 ?_
      refine v_getIv hX g_X12_111 (Or.inl rfl) (hm.kd 38 rfl) (show _ = sB E 0 4 from (hf 38 11 (by omega)).trans (by rw [← hb]; rfl)) qX12_image_48 ?_
      refine v_putI hX p_X12_353 (hm.kd 38 rfl) (Or.inl rfl) qX12_image_51 ?_
      refine v_aload_n hX rfl qX12_image_54 ?_
      refine v_aload_n hX rfl qX12_image_55 ?_
      refine v_getIv hX g_X12_108 (Or.inl rfl) (hm.kd 38 rfl) (show _ = sB E 0 2 from (hf 38 9 (by omega)).trans (by rw [← hb]; rfl)) qX12_image_56 ?_
      refine v_putI hX p_X12_356 (hm.kd 38 rfl) (Or.inl rfl) qX12_image_59 ?_
      refine v_aload_n hX rfl qX12_image_62 ?_
      refine v_aload_n hX rfl qX12_image_63 ?_
      refine v_getIv hX g_X12_239 (Or.inl rfl) (hm.kd 38 rfl) (show _ = sB E 0 5 from (hf 38 4 (by omega)).trans (by rw [← hb]; rfl)) qX12_image_64 ?_
      refine v_putI hX p_X12_359 (hm.kd 38 rfl) (Or.inl rfl) qX12_image_67 ?_
      refine v_aload_n hX rfl qX12_image_70 ?_
      refine v_getIv hX g_X12_29 (Or.inl rfl) (hm.kd 38 rfl) (show _ = sB E 0 3 from (hf 38 10 (by omega)).trans (by rw [← hb]; rfl)) qX12_image_71 ?_
      refine v_ireturn hX qX12_image_74 (hP _ _ ?_)
      exact ⟨rfl, (stI (stI (stI (stI (mkH h σ h.2.2.1) 38 46 (sB E 0 3)) 38 47 (sB E 0 4)) 38 48 (sB E 0 2)) 38 49 (sB E 0 5)).1, h.2.2.1, rfl, hc.img (fun a k a1 a2 => by show hpI (stI _ _ _ _) _ _ = _; rw [hpI_st, if_neg (by omega), hpI_st, if_neg (by omega), hpI_st, if_neg (by omega), hpI_st, if_neg (by omega)]; exact hf a k a1) (Or.inr ⟨sB E, rfl, fun k hk => ⟨(h0 k hk).1.trans (by rw [← hb, bm1 hk]), (h0 k hk).2.trans (by rw [← hb, bm2 hk])⟩, rfl, rfl, rfl, rfl, fun i k ho => by rw [← hb]; exact bm_0 ho⟩) (fun b hb2 => by cases hb2; exact hok.2.2.2.1), fun a ha => funext fun k => by show hpI (stI _ _ _ _) _ _ = _; rw [hpI_st, if_neg (by omega), hpI_st, if_neg (by omega), hpI_st, if_neg (by omega), hpI_st, if_neg (by omega)]; exact hf a k (by omega)⟩
    · have hl := ltN (N := 48) rfl hi q5
      refine v_aload_n hX rfl qX12_image_8 ?_
      refine v_getR hX g_X12_56 (hm.kd 38 rfl) (hm.rf 13 rfl) qX12_image_9 ?_
      refine v_iload_n hX rfl qX12_image_12 ?_
      refine v_aload_n hX rfl qX12_image_13 ?_
      refine v_getR hX g_X12_23 (hm.kd 38 rfl) (hm.rf 3 rfl) qX12_image_14 ?_
      refine v_iload_n hX rfl qX12_image_17 ?_
      refine v_ialdV hX (hm.kd 42 rfl) (hm.ln 42 rfl) (by exact ix_n hl rfl) (show _ = hpI h 42 i from hf 42 i (by omega)) qX12_image_18 ?_
      refine v_iastJ hX (hm.kd 52 rfl) (hm.ln 52 rfl) (by exact ix_n hl rfl) qX12_image_19 ?_
      refine v_aload_n hX rfl qX12_image_20 ?_
      refine v_getR hX g_X12_59 (hm.kd 38 rfl) (hm.rf 14 rfl) qX12_image_21 ?_
      refine v_iload_n hX rfl qX12_image_24 ?_
      refine v_aload_n hX rfl qX12_image_25 ?_
      refine v_getR hX g_X12_26 (hm.kd 38 rfl) (hm.rf 4 rfl) qX12_image_26 ?_
      refine v_iload_n hX rfl qX12_image_29 ?_
      refine v_ialdV hX (hm.kd 43 rfl) (hm.ln 43 rfl) (by exact ix_n hl rfl) (show _ = hpI h 43 i from hf 43 i (by omega)) qX12_image_30 ?_
      refine v_iastJ hX (hm.kd 53 rfl) (hm.ln 53 rfl) (by exact ix_n hl rfl) qX12_image_31 ?_
      refine v_iinc hX rfl (by first | exact ii_nI _ | exact ii_1 _) (Nat.le_of_ble_eq_true rfl) rfl (ls' := [some _, some _]) rfl qX12_image_32 ?_
      refine v_goto hX 2 qX12_image_35 rfl ?_
      exact ih _ (by omega) (i + 1) (stI (stI (mkH h σ h.2.2.1) 52 i (hpI h 42 i)) 53 i (hpI h 43 i)).1 rfl (by omega) (fun a k a1 => by show hpI (stI _ _ _ _) _ _ = _; rw [hpI_st, if_neg (by omega), hpI_st, if_neg (by omega)]; exact hf a k a1) (fun j hj => by
        show hpI (stI (stI (mkH h σ h.2.2.1) 52 i (hpI h 42 i)) 53 i (hpI h 43 i)) _ _ = _ ∧ hpI (stI (stI (mkH h σ h.2.2.1) 52 i (hpI h 42 i)) 53 i (hpI h 43 i)) _ _ = _
        rw [hpI_st, if_neg (by omega), hpI_st, hpI_st]
        by_cases e : j = i
        · rw [if_pos ⟨rfl, e⟩, if_pos ⟨rfl, e⟩, e]; exact ⟨rfl, rfl⟩
        · rw [if_neg (fun z => e z.2), if_neg (fun z => e z.2), hpI_st, if_neg (by omega)]; exact h0 j (by omega))
  exact L2 _ 0 h.1 rfl (by omega) (fun a k _ => rfl) (fun j hj => absurd hj (by omega))
theorem qX12_back_0 : Dq cX12_back 0 (.aload_n 0) 1 1 := ⟨by decide +kernel, rfl⟩
theorem qX12_back_1 : Dq cX12_back 1 (.getfield 62) 3 4 := ⟨by decide +kernel, rfl⟩
theorem qX12_back_4 : Dq cX12_back 4 (.iconst (-1)) 1 5 := ⟨by decide +kernel, rfl⟩
theorem qX12_back_5 : Dq cX12_back 5 (.if_icmp .ne 6) 3 8 := ⟨by decide +kernel, rfl⟩
theorem qX12_back_8 : Dq cX12_back 8 (.bipush (-3)) 2 10 := ⟨by decide +kernel, rfl⟩
theorem qX12_back_10 : Dq cX12_back 10 (.ireturn) 1 11 := ⟨by decide +kernel, rfl⟩
theorem qX12_back_11 : Dq cX12_back 11 (.iconst 0) 1 12 := ⟨by decide +kernel, rfl⟩
theorem qX12_back_12 : Dq cX12_back 12 (.istore_n 1) 1 13 := ⟨by decide +kernel, rfl⟩
theorem qX12_back_13 : Dq cX12_back 13 (.iload_n 1) 1 14 := ⟨by decide +kernel, rfl⟩
theorem qX12_back_14 : Dq cX12_back 14 (.bipush 48) 2 16 := ⟨by decide +kernel, rfl⟩
theorem qX12_back_16 : Dq cX12_back 16 (.if_icmp .ge 33) 3 19 := ⟨by decide +kernel, rfl⟩
theorem qX12_back_19 : Dq cX12_back 19 (.aload_n 0) 1 20 := ⟨by decide +kernel, rfl⟩
theorem qX12_back_20 : Dq cX12_back 20 (.getfield 23) 3 23 := ⟨by decide +kernel, rfl⟩
theorem qX12_back_23 : Dq cX12_back 23 (.iload_n 1) 1 24 := ⟨by decide +kernel, rfl⟩
theorem qX12_back_24 : Dq cX12_back 24 (.aload_n 0) 1 25 := ⟨by decide +kernel, rfl⟩
theorem qX12_back_25 : Dq cX12_back 25 (.getfield 56) 3 28 := ⟨by decide +kernel, rfl⟩
theorem qX12_back_28 : Dq cX12_back 28 (.iload_n 1) 1 29 := ⟨by decide +kernel, rfl⟩
theorem qX12_back_29 : Dq cX12_back 29 (.iaload) 1 30 := ⟨by decide +kernel, rfl⟩
theorem qX12_back_30 : Dq cX12_back 30 (.iastore) 1 31 := ⟨by decide +kernel, rfl⟩
theorem qX12_back_31 : Dq cX12_back 31 (.aload_n 0) 1 32 := ⟨by decide +kernel, rfl⟩
theorem qX12_back_32 : Dq cX12_back 32 (.getfield 26) 3 35 := ⟨by decide +kernel, rfl⟩
theorem qX12_back_35 : Dq cX12_back 35 (.iload_n 1) 1 36 := ⟨by decide +kernel, rfl⟩
theorem qX12_back_36 : Dq cX12_back 36 (.aload_n 0) 1 37 := ⟨by decide +kernel, rfl⟩
theorem qX12_back_37 : Dq cX12_back 37 (.getfield 59) 3 40 := ⟨by decide +kernel, rfl⟩
theorem qX12_back_40 : Dq cX12_back 40 (.iload_n 1) 1 41 := ⟨by decide +kernel, rfl⟩
theorem qX12_back_41 : Dq cX12_back 41 (.iaload) 1 42 := ⟨by decide +kernel, rfl⟩
theorem qX12_back_42 : Dq cX12_back 42 (.iastore) 1 43 := ⟨by decide +kernel, rfl⟩
theorem qX12_back_43 : Dq cX12_back 43 (.iinc 1 1) 3 46 := ⟨by decide +kernel, rfl⟩
theorem qX12_back_46 : Dq cX12_back 46 (.goto (-33)) 3 49 := ⟨by decide +kernel, rfl⟩
theorem qX12_back_49 : Dq cX12_back 49 (.aload_n 0) 1 50 := ⟨by decide +kernel, rfl⟩
theorem qX12_back_50 : Dq cX12_back 50 (.aload_n 0) 1 51 := ⟨by decide +kernel, rfl⟩
theorem qX12_back_51 : Dq cX12_back 51 (.getfield 62) 3 54 := ⟨by decide +kernel, rfl⟩
theorem qX12_back_54 : Dq cX12_back 54 (.putfield 29) 3 57 := ⟨by decide +kernel, rfl⟩
theorem qX12_back_57 : Dq cX12_back 57 (.aload_n 0) 1 58 := ⟨by decide +kernel, rfl⟩
theorem qX12_back_58 : Dq cX12_back 58 (.aload_n 0) 1 59 := ⟨by decide +kernel, rfl⟩
theorem qX12_back_59 : Dq cX12_back 59 (.getfield 353) 3 62 := ⟨by decide +kernel, rfl⟩
theorem qX12_back_62 : Dq cX12_back 62 (.putfield 111) 3 65 := ⟨by decide +kernel, rfl⟩
theorem qX12_back_65 : Dq cX12_back 65 (.aload_n 0) 1 66 := ⟨by decide +kernel, rfl⟩
theorem qX12_back_66 : Dq cX12_back 66 (.aload_n 0) 1 67 := ⟨by decide +kernel, rfl⟩
theorem qX12_back_67 : Dq cX12_back 67 (.getfield 356) 3 70 := ⟨by decide +kernel, rfl⟩
theorem qX12_back_70 : Dq cX12_back 70 (.putfield 108) 3 73 := ⟨by decide +kernel, rfl⟩
theorem qX12_back_73 : Dq cX12_back 73 (.aload_n 0) 1 74 := ⟨by decide +kernel, rfl⟩
theorem qX12_back_74 : Dq cX12_back 74 (.aload_n 0) 1 75 := ⟨by decide +kernel, rfl⟩
theorem qX12_back_75 : Dq cX12_back 75 (.getfield 359) 3 78 := ⟨by decide +kernel, rfl⟩
theorem qX12_back_78 : Dq cX12_back 78 (.putfield 239) 3 81 := ⟨by decide +kernel, rfl⟩
theorem qX12_back_81 : Dq cX12_back 81 (.aload_n 0) 1 82 := ⟨by decide +kernel, rfl⟩
theorem qX12_back_82 : Dq cX12_back 82 (.getfield 29) 3 85 := ⟨by decide +kernel, rfl⟩
theorem qX12_back_85 : Dq cX12_back 85 (.ireturn) 1 86 := ⟨by decide +kernel, rfl⟩
set_option maxRecDepth 100000 in
set_option maxHeartbeats 4000000 in
theorem m_back {G : Glb} {h : AHp} {E : Sst} (hc : MW h E)  : CP G m_X12_back 1 0 0 [.ref 38] h (fun r h' => r = some (.int ((backI E).1)) ∧ ∃ σ J, h' = mkH h σ J ∧ MW (mkH h σ J) (setB E (backI E).2) ∧ K58 h σ) := by
  suffices key : ∀ P : Option Value → AHp → Prop, (∀ r h', (r = some (.int ((backI E).1)) ∧ ∃ σ J, h' = mkH h σ J ∧ MW (mkH h σ J) (setB E (backI E).2) ∧ K58 h σ) → P r h') → CP G m_X12_back 1 0 0 [.ref 38] h P from key _ (fun _ _ z => z)
  intro P hP
  obtain ⟨hm, htx, hp, hb, hkp, htp, hst, hok⟩ := id hc
  have hc6 := hok.1
  have hm6 := hok.2.1
  have hkd : ∀ i, i < sM E → sK E i < 6 := fun i hi => (hok.2.2.1 i hi).1
  have hnu : ∀ i, i < sM E → inR (sN E i) 9 := fun i hi => (hok.2.2.1 i hi).2
  have hbe : BeOK (bm h) (sC E) := by rw [hb]; exact hok.2.2.2.1
  refine CP.of (by decide +kernel) (Nat.le_of_ble_eq_true rfl) fun X hX hR hnm => ?_
  show V X G 2 0 0 _ 0 [some (.ref 38), none] [] h
  refine v_aload_n hX rfl qX12_back_0 ?_
  refine v_getI hX g_X12_62 (Or.inl rfl) (hm.kd 38 rfl) qX12_back_1 ?_
  refine v_iconst hX li_n1 qX12_back_4 ?_
  refine v_icmp_ne hX 11 qX12_back_5 rfl (fun q5 => ?_) (fun q5 => ?_)
  · have hkq : ∃ b, sO E = some b ∧ (∀ k, k < 48 → hpI h 52 k = b 1 k ∧ hpI h 53 k = b 2 k) ∧ hpI h 38 46 = b 0 3 ∧ hpI h 38 47 = b 0 4 ∧ hpI h 38 48 = b 0 2 ∧ hpI h 38 49 = b 0 5 ∧ ∀ i k, ¬ okI i k → b i k = 0 := by
      rcases hkp with ⟨-, z⟩ | z
      · exact absurd z q5
      · exact z
    obtain ⟨b, eo, k1, k2, k3, k4, k5, k6⟩ := hkq
    have hbo := hok.2.2.2.2.1 b eo
    have ebk : backI E = (b 0 3, b) := by unfold backI; rw [eo]
    refine v_iconst hX li_0 qX12_back_11 ?_
    refine v_istore_n hX (Nat.le_of_ble_eq_true rfl) rfl (ls' := [some _, some _]) rfl qX12_back_12 ?_
    have L13 : ∀ (mz : Nat) (i : Nat) (σ : Nat → Nat → Int32), 48 - i = mz → (i ≤ 48) → (∀ a k, ¬ (a = 42 ∨ a = 43) → σ a k = hpI h a k) → (∀ j, j < i → σ 42 j = hpI h 52 j ∧ σ 43 j = hpI h 53 j) → V X G 2 0 0 (QM X G P 0 0) 13 [some (.ref 38), some (.int (nI i))] [] (mkH h σ h.2.2.1) := by
      intro mz
      induction mz using Nat.strongRecOn with
      | _ mz ih =>
      intro i σ hmz hi hf h0
      refine v_iload_n hX rfl qX12_back_13 ?_
      refine v_bipush hX lb_48 qX12_back_14 ?_
      refine v_icmp_geS hX 49 qX12_back_16 rfl (fun q16 => ?_) (fun q16 => ?_)
      · have e1 := geN (N := 48) rfl hi q16; subst e1
        refine v_aload_n hX rfl qX12_back_49 ?_
        refine v_aload_n hX rfl qX12_back_50 ?_
        refine v_getIv hX g_X12_62 (Or.inl rfl) (hm.kd 38 rfl) (show _ = b 0 3 from (hf 38 46 (by omega)).trans k2) qX12_back_51 ?_
        refine v_putI hX p_X12_29 (hm.kd 38 rfl) (Or.inl rfl) qX12_back_54 ?_
        refine v_aload_n hX rfl qX12_back_57 ?_
        refine v_aload_n hX rfl qX12_back_58 ?_
        refine v_getIv hX g_X12_353 (Or.inl rfl) (hm.kd 38 rfl) (show _ = b 0 4 from (hf 38 47 (by omega)).trans k3) qX12_back_59 ?_
        refine v_putI hX p_X12_111 (hm.kd 38 rfl) (Or.inl rfl) qX12_back_62 ?_
        refine v_aload_n hX rfl qX12_back_65 ?_
        refine v_aload_n hX rfl qX12_back_66 ?_
        refine v_getIv hX g_X12_356 (Or.inl rfl) (hm.kd 38 rfl) (show _ = b 0 2 from (hf 38 48 (by omega)).trans k4) qX12_back_67 ?_
        refine v_putI hX p_X12_108 (hm.kd 38 rfl) (Or.inl rfl) qX12_back_70 ?_
        refine v_aload_n hX rfl qX12_back_73 ?_
        refine v_aload_n hX rfl qX12_back_74 ?_
        refine v_getIv hX g_X12_359 (Or.inl rfl) (hm.kd 38 rfl) (show _ = b 0 5 from (hf 38 49 (by omega)).trans k5) qX12_back_75 ?_
        refine v_putI hX p_X12_239 (hm.kd 38 rfl) (Or.inl rfl) qX12_back_78 ?_
        refine v_aload_n hX rfl qX12_back_81 ?_
        refine v_getIv hX g_X12_29 (Or.inl rfl) (hm.kd 38 rfl) (show _ = b 0 3 from rfl) qX12_back_82 ?_
        refine v_ireturn hX qX12_back_85 (hP _ _ ?_)
        rw [ebk]
        exact ⟨rfl, (stI (stI (stI (stI (mkH h σ h.2.2.1) 38 10 (b 0 3)) 38 11 (b 0 4)) 38 9 (b 0 2)) 38 4 (b 0 5)).1, h.2.2.1, rfl, hc.q (fun a k a1 a2 a3 => by show hpI (stI _ _ _ _) _ _ = _; rw [hpI_st, if_neg (by omega), hpI_st, if_neg (by omega), hpI_st, if_neg (by omega), hpI_st, if_neg (by omega)]; exact hf a k a1) (bm_is (h := mkH h (stI (stI (stI (stI (mkH h σ h.2.2.1) 38 10 (b 0 3)) 38 11 (b 0 4)) 38 9 (b 0 2)) 38 4 (b 0 5)).1 h.2.2.1) (fun k hk => (h0 k hk).1.trans (k1 k hk).1) (fun k hk => (h0 k hk).2.trans (k1 k hk).2) rfl rfl rfl rfl k6) hbo, fun a ha => funext fun k => by show hpI (stI _ _ _ _) _ _ = _; rw [hpI_st, if_neg (by omega), hpI_st, if_neg (by omega), hpI_st, if_neg (by omega), hpI_st, if_neg (by omega)]; exact hf a k (by omega)⟩
      · have hl := ltN (N := 48) rfl hi q16
        refine v_aload_n hX rfl qX12_back_19 ?_
        refine v_getR hX g_X12_23 (hm.kd 38 rfl) (hm.rf 3 rfl) qX12_back_20 ?_
        refine v_iload_n hX rfl qX12_back_23 ?_
        refine v_aload_n hX rfl qX12_back_24 ?_
        refine v_getR hX g_X12_56 (hm.kd 38 rfl) (hm.rf 13 rfl) qX12_back_25 ?_
        refine v_iload_n hX rfl qX12_back_28 ?_
        refine v_ialdV hX (hm.kd 52 rfl) (hm.ln 52 rfl) (by exact ix_n hl rfl) (show _ = hpI h 52 i from hf 52 i (by omega)) qX12_back_29 ?_
        refine v_iastJ hX (hm.kd 42 rfl) (hm.ln 42 rfl) (by exact ix_n hl rfl) qX12_back_30 ?_
        refine v_aload_n hX rfl qX12_back_31 ?_
        refine v_getR hX g_X12_26 (hm.kd 38 rfl) (hm.rf 4 rfl) qX12_back_32 ?_
        refine v_iload_n hX rfl qX12_back_35 ?_
        refine v_aload_n hX rfl qX12_back_36 ?_
        refine v_getR hX g_X12_59 (hm.kd 38 rfl) (hm.rf 14 rfl) qX12_back_37 ?_
        refine v_iload_n hX rfl qX12_back_40 ?_
        refine v_ialdV hX (hm.kd 53 rfl) (hm.ln 53 rfl) (by exact ix_n hl rfl) (show _ = hpI h 53 i from hf 53 i (by omega)) qX12_back_41 ?_
        refine v_iastJ hX (hm.kd 43 rfl) (hm.ln 43 rfl) (by exact ix_n hl rfl) qX12_back_42 ?_
        refine v_iinc hX rfl (by first | exact ii_nI _ | exact ii_1 _) (Nat.le_of_ble_eq_true rfl) rfl (ls' := [some _, some _]) rfl qX12_back_43 ?_
        refine v_goto hX 13 qX12_back_46 rfl ?_
        exact ih _ (by omega) (i + 1) (stI (stI (mkH h σ h.2.2.1) 42 i (hpI h 52 i)) 43 i (hpI h 53 i)).1 rfl (by omega) (fun a k a1 => by show hpI (stI _ _ _ _) _ _ = _; rw [hpI_st, if_neg (by omega), hpI_st, if_neg (by omega)]; exact hf a k a1) (fun j hj => by
          show hpI (stI (stI (mkH h σ h.2.2.1) 42 i (hpI h 52 i)) 43 i (hpI h 53 i)) _ _ = _ ∧ hpI (stI (stI (mkH h σ h.2.2.1) 42 i (hpI h 52 i)) 43 i (hpI h 53 i)) _ _ = _
          rw [hpI_st, if_neg (by omega), hpI_st, hpI_st]
          by_cases e : j = i
          · rw [if_pos ⟨rfl, e⟩, if_pos ⟨rfl, e⟩, e]; exact ⟨rfl, rfl⟩
          · rw [if_neg (fun z => e z.2), if_neg (fun z => e z.2), hpI_st, if_neg (by omega)]; exact h0 j (by omega))
    exact L13 _ 0 h.1 rfl (by omega) (fun a k _ => rfl) (fun j hj => absurd hj (by omega))
  · have eno : sO E = none := by
      rcases hkp with ⟨z, -⟩ | ⟨b, z1, -, z3, -⟩
      · exact z
      · obtain ⟨H, hH, eH⟩ := (hok.2.2.2.2.1 b z1).2.2.2.1.ex (by omega)
        rw [z3, eH] at q5
        exact absurd q5 (nI_ne1 (by omega))
    have ebk : backI E = (-3, sB E) := by unfold backI; rw [eno]
    refine v_bipush hX lb_n3 qX12_back_8 ?_
    refine v_ireturn hX qX12_back_10 (hP _ _ ?_)
    rw [ebk]
    exact ⟨rfl, h.1, h.2.2.1, rfl, hc, fun a _ => rfl⟩
def ovI (x : Int32) : Int32 := if x = 0 then -1 else if x = 1 ∨ x = 3 then 0 else if x = 5 then 3 else 1
theorem qX12_over_0 : Dq cX12_over 0 (.iload_n 0) 1 1 := ⟨by decide +kernel, rfl⟩
theorem qX12_over_1 : Dq cX12_over 1 (.ifCond .ne 7) 3 4 := ⟨by decide +kernel, rfl⟩
theorem qX12_over_4 : Dq cX12_over 4 (.iconst (-1)) 1 5 := ⟨by decide +kernel, rfl⟩
theorem qX12_over_5 : Dq cX12_over 5 (.goto 27) 3 8 := ⟨by decide +kernel, rfl⟩
theorem qX12_over_8 : Dq cX12_over 8 (.iload_n 0) 1 9 := ⟨by decide +kernel, rfl⟩
theorem qX12_over_9 : Dq cX12_over 9 (.iconst 1) 1 10 := ⟨by decide +kernel, rfl⟩
theorem qX12_over_10 : Dq cX12_over 10 (.if_icmp .eq 8) 3 13 := ⟨by decide +kernel, rfl⟩
theorem qX12_over_13 : Dq cX12_over 13 (.iload_n 0) 1 14 := ⟨by decide +kernel, rfl⟩
theorem qX12_over_14 : Dq cX12_over 14 (.iconst 3) 1 15 := ⟨by decide +kernel, rfl⟩
theorem qX12_over_15 : Dq cX12_over 15 (.if_icmp .ne 7) 3 18 := ⟨by decide +kernel, rfl⟩
theorem qX12_over_18 : Dq cX12_over 18 (.iconst 0) 1 19 := ⟨by decide +kernel, rfl⟩
theorem qX12_over_19 : Dq cX12_over 19 (.goto 13) 3 22 := ⟨by decide +kernel, rfl⟩
theorem qX12_over_22 : Dq cX12_over 22 (.iload_n 0) 1 23 := ⟨by decide +kernel, rfl⟩
theorem qX12_over_23 : Dq cX12_over 23 (.iconst 5) 1 24 := ⟨by decide +kernel, rfl⟩
theorem qX12_over_24 : Dq cX12_over 24 (.if_icmp .ne 7) 3 27 := ⟨by decide +kernel, rfl⟩
theorem qX12_over_27 : Dq cX12_over 27 (.iconst 3) 1 28 := ⟨by decide +kernel, rfl⟩
theorem qX12_over_28 : Dq cX12_over 28 (.goto 4) 3 31 := ⟨by decide +kernel, rfl⟩
theorem qX12_over_31 : Dq cX12_over 31 (.iconst 1) 1 32 := ⟨by decide +kernel, rfl⟩
theorem qX12_over_32 : Dq cX12_over 32 (.ireturn) 1 33 := ⟨by decide +kernel, rfl⟩
set_option maxRecDepth 100000 in
set_option maxHeartbeats 4000000 in
theorem m_over {G : Glb} {h : AHp} (x : Int32) : CP G m_X12_over 1 0 0 [.int x] h (fun r h' => r = some (.int (ovI x)) ∧ h = h') := by
  suffices key : ∀ P : Option Value → AHp → Prop, (∀ r h', (r = some (.int (ovI x)) ∧ h = h') → P r h') → CP G m_X12_over 1 0 0 [.int x] h P from key _ (fun _ _ z => z)
  intro P hP
  refine CP.of (by decide +kernel) (Nat.le_of_ble_eq_true rfl) fun X hX hR hnm => ?_
  show V X G 1 0 0 _ 0 [some (.int x)] [] h
  refine v_iload_n hX rfl qX12_over_0 ?_
  first | refine v_if_neB hX 8 qX12_over_1 rfl (fun q1 => ?_) (fun q1 => ?_) | refine v_if_ne hX 8 qX12_over_1 rfl (fun q1 => ?_) (fun q1 => ?_)
  · skip
    refine v_iload_n hX rfl qX12_over_8 ?_
    refine v_iconst hX li_1 qX12_over_9 ?_
    refine v_icmp_eq hX 18 qX12_over_10 rfl (fun q10 => ?_) (fun q10 => ?_)
    · skip
      refine v_iconst hX li_0 qX12_over_18 ?_
      refine v_goto hX 32 qX12_over_19 rfl ?_
      refine v_ireturn hX qX12_over_32 (hP _ _ ?_)
      first | exact ⟨by rw [ovI, if_pos q1], rfl⟩ | exact ⟨by rw [ovI, if_neg q1, if_pos (by first | exact Or.inl q10 | exact Or.inr q15)], rfl⟩ | exact ⟨by rw [ovI, if_neg q1, if_neg (fun z => z.elim q10 q15), if_pos q24], rfl⟩ | exact ⟨by rw [ovI, if_neg q1, if_neg (fun z => z.elim q10 q15), if_neg q24], rfl⟩
    · skip
      refine v_iload_n hX rfl qX12_over_13 ?_
      refine v_iconst hX li_3 qX12_over_14 ?_
      refine v_icmp_ne hX 22 qX12_over_15 rfl (fun q15 => ?_) (fun q15 => ?_)
      · skip
        refine v_iload_n hX rfl qX12_over_22 ?_
        refine v_iconst hX li_5 qX12_over_23 ?_
        refine v_icmp_ne hX 31 qX12_over_24 rfl (fun q24 => ?_) (fun q24 => ?_)
        · skip
          refine v_iconst hX li_1 qX12_over_31 ?_
          refine v_ireturn hX qX12_over_32 (hP _ _ ?_)
          first | exact ⟨by rw [ovI, if_pos q1], rfl⟩ | exact ⟨by rw [ovI, if_neg q1, if_pos (by first | exact Or.inl q10 | exact Or.inr q15)], rfl⟩ | exact ⟨by rw [ovI, if_neg q1, if_neg (fun z => z.elim q10 q15), if_pos q24], rfl⟩ | exact ⟨by rw [ovI, if_neg q1, if_neg (fun z => z.elim q10 q15), if_neg q24], rfl⟩
        · skip
          refine v_iconst hX li_3 qX12_over_27 ?_
          refine v_goto hX 32 qX12_over_28 rfl ?_
          refine v_ireturn hX qX12_over_32 (hP _ _ ?_)
          first | exact ⟨by rw [ovI, if_pos q1], rfl⟩ | exact ⟨by rw [ovI, if_neg q1, if_pos (by first | exact Or.inl q10 | exact Or.inr q15)], rfl⟩ | exact ⟨by rw [ovI, if_neg q1, if_neg (fun z => z.elim q10 q15), if_pos q24], rfl⟩ | exact ⟨by rw [ovI, if_neg q1, if_neg (fun z => z.elim q10 q15), if_neg q24], rfl⟩
      · skip
        refine v_iconst hX li_0 qX12_over_18 ?_
        refine v_goto hX 32 qX12_over_19 rfl ?_
        refine v_ireturn hX qX12_over_32 (hP _ _ ?_)
        first | exact ⟨by rw [ovI, if_pos q1], rfl⟩ | exact ⟨by rw [ovI, if_neg q1, if_pos (by first | exact Or.inl q10 | exact Or.inr q15)], rfl⟩ | exact ⟨by rw [ovI, if_neg q1, if_neg (fun z => z.elim q10 q15), if_pos q24], rfl⟩ | exact ⟨by rw [ovI, if_neg q1, if_neg (fun z => z.elim q10 q15), if_neg q24], rfl⟩
  · skip
    refine v_iconst hX li_n1 qX12_over_4 ?_
    refine v_goto hX 32 qX12_over_5 rfl ?_
    refine v_ireturn hX qX12_over_32 (hP _ _ ?_)
    first | exact ⟨by rw [ovI, if_pos q1], rfl⟩ | exact ⟨by rw [ovI, if_neg q1, if_pos (by first | exact Or.inl q10 | exact Or.inr q15)], rfl⟩ | exact ⟨by rw [ovI, if_neg q1, if_neg (fun z => z.elim q10 q15), if_pos q24], rfl⟩ | exact ⟨by rw [ovI, if_neg q1, if_neg (fun z => z.elim q10 q15), if_neg q24], rfl⟩
theorem qX12_taken_0 : Dq cX12_taken 0 (.iload_n 2) 1 1 := ⟨by decide +kernel, rfl⟩
theorem qX12_taken_1 : Dq cX12_taken 1 (.i2l) 1 2 := ⟨by decide +kernel, rfl⟩
theorem qX12_taken_2 : Dq cX12_taken 2 (.lconst 0) 1 3 := ⟨by decide +kernel, rfl⟩
theorem qX12_taken_3 : Dq cX12_taken 3 (.ldc2_w 114) 3 6 := ⟨by decide +kernel, rfl⟩
theorem qX12_taken_6 : Dq cX12_taken 6 (.invokestatic 87) 3 9 := ⟨by decide +kernel, rfl⟩
theorem qX12_taken_9 : Dq cX12_taken 9 (.ifCond .ne 6) 3 12 := ⟨by decide +kernel, rfl⟩
theorem qX12_taken_12 : Dq cX12_taken 12 (.bipush (-2)) 2 14 := ⟨by decide +kernel, rfl⟩
theorem qX12_taken_14 : Dq cX12_taken 14 (.ireturn) 1 15 := ⟨by decide +kernel, rfl⟩
theorem qX12_taken_15 : Dq cX12_taken 15 (.aload_n 0) 1 16 := ⟨by decide +kernel, rfl⟩
theorem qX12_taken_16 : Dq cX12_taken 16 (.iload_n 1) 1 17 := ⟨by decide +kernel, rfl⟩
theorem qX12_taken_17 : Dq cX12_taken 17 (.invokevirtual 264) 3 20 := ⟨by decide +kernel, rfl⟩
theorem qX12_taken_20 : Dq cX12_taken 20 (.ifCond .ne 6) 3 23 := ⟨by decide +kernel, rfl⟩
theorem qX12_taken_23 : Dq cX12_taken 23 (.bipush (-11)) 2 25 := ⟨by decide +kernel, rfl⟩
theorem qX12_taken_25 : Dq cX12_taken 25 (.ireturn) 1 26 := ⟨by decide +kernel, rfl⟩
theorem qX12_taken_26 : Dq cX12_taken 26 (.aload_n 0) 1 27 := ⟨by decide +kernel, rfl⟩
theorem qX12_taken_27 : Dq cX12_taken 27 (.getfield 32) 3 30 := ⟨by decide +kernel, rfl⟩
theorem qX12_taken_30 : Dq cX12_taken 30 (.iload_n 1) 1 31 := ⟨by decide +kernel, rfl⟩
theorem qX12_taken_31 : Dq cX12_taken 31 (.iaload) 1 32 := ⟨by decide +kernel, rfl⟩
theorem qX12_taken_32 : Dq cX12_taken 32 (.istore_n 3) 1 33 := ⟨by decide +kernel, rfl⟩
theorem qX12_taken_33 : Dq cX12_taken 33 (.iload_n 3) 1 34 := ⟨by decide +kernel, rfl⟩
theorem qX12_taken_34 : Dq cX12_taken 34 (.iconst (-1)) 1 35 := ⟨by decide +kernel, rfl⟩
theorem qX12_taken_35 : Dq cX12_taken 35 (.if_icmp .eq 16) 3 38 := ⟨by decide +kernel, rfl⟩
theorem qX12_taken_38 : Dq cX12_taken 38 (.iload_n 3) 1 39 := ⟨by decide +kernel, rfl⟩
theorem qX12_taken_39 : Dq cX12_taken 39 (.iload_n 2) 1 40 := ⟨by decide +kernel, rfl⟩
theorem qX12_taken_40 : Dq cX12_taken 40 (.if_icmp .eq 11) 3 43 := ⟨by decide +kernel, rfl⟩
theorem qX12_taken_43 : Dq cX12_taken 43 (.iload_n 3) 1 44 := ⟨by decide +kernel, rfl⟩
theorem qX12_taken_44 : Dq cX12_taken 44 (.invokestatic 373) 3 47 := ⟨by decide +kernel, rfl⟩
theorem qX12_taken_47 : Dq cX12_taken 47 (.istore_n 3) 1 48 := ⟨by decide +kernel, rfl⟩
theorem qX12_taken_48 : Dq cX12_taken 48 (.goto (-15)) 3 51 := ⟨by decide +kernel, rfl⟩
theorem qX12_taken_51 : Dq cX12_taken 51 (.iload_n 3) 1 52 := ⟨by decide +kernel, rfl⟩
theorem qX12_taken_52 : Dq cX12_taken 52 (.iload_n 2) 1 53 := ⟨by decide +kernel, rfl⟩
theorem qX12_taken_53 : Dq cX12_taken 53 (.if_icmp .ne 12) 3 56 := ⟨by decide +kernel, rfl⟩
theorem qX12_taken_56 : Dq cX12_taken 56 (.aload_n 0) 1 57 := ⟨by decide +kernel, rfl⟩
theorem qX12_taken_57 : Dq cX12_taken 57 (.getfield 35) 3 60 := ⟨by decide +kernel, rfl⟩
theorem qX12_taken_60 : Dq cX12_taken 60 (.iload_n 1) 1 61 := ⟨by decide +kernel, rfl⟩
theorem qX12_taken_61 : Dq cX12_taken 61 (.iaload) 1 62 := ⟨by decide +kernel, rfl⟩
theorem qX12_taken_62 : Dq cX12_taken 62 (.goto 5) 3 65 := ⟨by decide +kernel, rfl⟩
theorem qX12_taken_65 : Dq cX12_taken 65 (.bipush (-13)) 2 67 := ⟨by decide +kernel, rfl⟩
theorem qX12_taken_67 : Dq cX12_taken 67 (.ireturn) 1 68 := ⟨by decide +kernel, rfl⟩
set_option maxRecDepth 100000 in
set_option maxHeartbeats 4000000 in
theorem m_taken {G : Glb} {h : AHp} {E : Sst} (hc : MW h E) (ll kk : Int32) : CP G m_X12_taken 3 0 0 [.ref 38, .int ll, .int kk] h (fun r h' => r = some (.int (takenI E ll kk)) ∧ h = h') := by
  suffices key : ∀ P : Option Value → AHp → Prop, (∀ r h', (r = some (.int (takenI E ll kk)) ∧ h = h') → P r h') → CP G m_X12_taken 3 0 0 [.ref 38, .int ll, .int kk] h P from key _ (fun _ _ z => z)
  intro P hP
  obtain ⟨hm, htx, hp, hb, hkp, htp, hst, hok⟩ := id hc
  have hc6 := hok.1
  have hm6 := hok.2.1
  have hkd : ∀ i, i < sM E → sK E i < 6 := fun i hi => (hok.2.2.1 i hi).1
  have hnu : ∀ i, i < sM E → inR (sN E i) 9 := fun i hi => (hok.2.2.1 i hi).2
  have hbe : BeOK (bm h) (sC E) := by rw [hb]; exact hok.2.2.2.1
  refine CP.of (by decide +kernel) (Nat.le_of_ble_eq_true rfl) fun X hX hR hnm => ?_
  show V X G 4 0 0 _ 0 [some (.ref 38), some (.int ll), some (.int kk), none] [] h
  refine v_iload_n hX rfl qX12_taken_0 ?_
  refine v_i2l hX qX12_taken_1 ?_
  refine v_lconst hX ll_0 qX12_taken_2 ?_
  refine v_ldc2 hX c_X12_114 qX12_taken_3 ?_
  refine v_callSq hX hR k_X12_87 (m_in _ (by exact (0)) (by exact (5))) rfl (Nat.le_of_ble_eq_true rfl) rfl (Nat.le_of_ble_eq_true rfl) ⟨Nat.le_of_ble_eq_true rfl, Nat.le_of_ble_eq_true rfl⟩ qX12_taken_6 ?_
  rintro _ _ ⟨rfl, rfl⟩
  first | refine v_if_neB hX 15 qX12_taken_9 rfl (fun q9 => ?_) (fun q9 => ?_) | refine v_if_ne hX 15 qX12_taken_9 rfl (fun q9 => ?_) (fun q9 => ?_)
  · skip
    refine v_aload_n hX rfl qX12_taken_15 ?_
    refine v_iload_n hX rfl qX12_taken_16 ?_
    refine v_callVq hX hR k_X12_264 (hm.kd 38 rfl) (m_isLooker (by exact hm) (by exact hp.1) (by exact hm6) _) rfl (Nat.le_of_ble_eq_true rfl) rfl (Nat.le_of_ble_eq_true rfl) ⟨Nat.le_of_ble_eq_true rfl, Nat.le_of_ble_eq_true rfl⟩ qX12_taken_17 ?_
    rintro _ _ ⟨rfl, rfl⟩
    first | refine v_if_neB hX 26 qX12_taken_20 rfl (fun q20 => ?_) (fun q20 => ?_) | refine v_if_ne hX 26 qX12_taken_20 rfl (fun q20 => ?_) (fun q20 => ?_)
    · skip
      obtain ⟨l, hl, rfl⟩ := ofRange q20.1 q20.2 (by omega)
      obtain ⟨k, hk, rfl⟩ := rng_ex 5 (by omega) q9
      refine v_aload_n hX rfl qX12_taken_26 ?_
      refine v_getR hX g_X12_32 (hm.kd 38 rfl) (hm.rf 5 rfl) qX12_taken_27 ?_
      refine v_iload_n hX rfl qX12_taken_30 ?_
      refine v_ialdV hX (hm.kd 44 rfl) (hm.ln 44 rfl) (by exact ix_n (n := l) (by omega) rfl) (hp.2 l hl).1 qX12_taken_31 ?_
      have hk0 := hkd l hl
      have hk0 : sK E l = 0 ∨ sK E l = 1 ∨ sK E l = 2 ∨ sK E l = 3 ∨ sK E l = 4 ∨ sK E l = 5 := by omega
      rcases hk0 with hk0 | hk0 | hk0 | hk0 | hk0 | hk0
      · rw [hk0]
        refine v_istore_n hX (Nat.le_of_ble_eq_true rfl) rfl (ls' := [some _, some _, some _, some _]) rfl qX12_taken_32 ?_
        refine v_iload_n hX rfl qX12_taken_33 ?_
        refine v_iconst hX li_n1 qX12_taken_34 ?_
        refine v_icmp_eq hX 51 qX12_taken_35 rfl (fun q35 => ?_) (fun q35 => ?_)
        · exact absurd q35 (by decide)
        · skip
          refine v_iload_n hX rfl qX12_taken_38 ?_
          refine v_iload_n hX rfl qX12_taken_39 ?_
          refine v_icmp_eq hX 51 qX12_taken_40 rfl (fun q40 => ?_) (fun q40 => ?_)
          · have ek : k = 0 := ((nI_eq (a := 0) (b := k) (by omega) (by omega)).mp q40).symm
            refine v_iload_n hX rfl qX12_taken_51 ?_
            refine v_iload_n hX rfl qX12_taken_52 ?_
            refine v_icmp_ne hX 65 qX12_taken_53 rfl (fun q53 => ?_) (fun q53 => ?_)
            · exact absurd q40 q53
            · skip
              refine v_aload_n hX rfl qX12_taken_56 ?_
              refine v_getR hX g_X12_35 (hm.kd 38 rfl) (hm.rf 6 rfl) qX12_taken_57 ?_
              refine v_iload_n hX rfl qX12_taken_60 ?_
              refine v_ialdV hX (hm.kd 45 rfl) (hm.ln 45 rfl) (by exact ix_n (n := l) (by omega) rfl) (hp.2 l hl).2 qX12_taken_61 ?_
              refine v_goto hX 67 qX12_taken_62 rfl ?_
              refine v_ireturn hX qX12_taken_67 (hP _ _ ?_)
              exact ⟨by rw [takenI, if_pos q9, if_pos q20, tn_nI (show l < 2000000 by omega), tn_nI (show k < 2000000 by omega), if_pos (by rw [hk0, ek]; rfl)], rfl⟩
          · have nk0 : ¬ k = 0 := fun z => q40 (by rw [z])
            refine v_iload_n hX rfl qX12_taken_43 ?_
            refine v_callSq hX hR k_X12_373 (m_over _) rfl (Nat.le_of_ble_eq_true rfl) rfl (Nat.le_of_ble_eq_true rfl) ⟨Nat.le_of_ble_eq_true rfl, Nat.le_of_ble_eq_true rfl⟩ qX12_taken_44 ?_
            rintro _ _ ⟨rfl, rfl⟩
            refine v_eqI (show _ = (-1 : Int32) from rfl) ?_
            refine v_istore_n hX (Nat.le_of_ble_eq_true rfl) rfl (ls' := [some _, some _, some _, some _]) rfl qX12_taken_47 ?_
            refine v_goto hX 33 qX12_taken_48 rfl ?_
            refine v_iload_n hX rfl qX12_taken_33 ?_
            refine v_iconst hX li_n1 qX12_taken_34 ?_
            refine v_icmp_eq hX 51 qX12_taken_35 rfl (fun q35 => ?_) (fun q35 => ?_)
            · skip
              refine v_iload_n hX rfl qX12_taken_51 ?_
              refine v_iload_n hX rfl qX12_taken_52 ?_
              refine v_icmp_ne hX 65 qX12_taken_53 rfl (fun q53 => ?_) (fun q53 => ?_)
              · skip
                refine v_bipush hX lb_n13 qX12_taken_65 ?_
                refine v_ireturn hX qX12_taken_67 (hP _ _ ?_)
                refine ⟨?_, rfl⟩
                rw [takenI, if_pos q9, if_pos q20, tn_nI (show l < 2000000 by omega), tn_nI (show k < 2000000 by omega), if_neg]
                rw [hk0]
                have hk6 : k = 0 ∨ k = 1 ∨ k = 2 ∨ k = 3 ∨ k = 4 ∨ k = 5 := by omega
                rcases hk6 with rfl | rfl | rfl | rfl | rfl | rfl <;> first | decide | (exfalso; omega)
              · exact absurd q53.symm (nI_ne1 (by omega))
            · exact absurd rfl q35
      · rw [hk0]
        refine v_istore_n hX (Nat.le_of_ble_eq_true rfl) rfl (ls' := [some _, some _, some _, some _]) rfl qX12_taken_32 ?_
        refine v_iload_n hX rfl qX12_taken_33 ?_
        refine v_iconst hX li_n1 qX12_taken_34 ?_
        refine v_icmp_eq hX 51 qX12_taken_35 rfl (fun q35 => ?_) (fun q35 => ?_)
        · exact absurd q35 (by decide)
        · skip
          refine v_iload_n hX rfl qX12_taken_38 ?_
          refine v_iload_n hX rfl qX12_taken_39 ?_
          refine v_icmp_eq hX 51 qX12_taken_40 rfl (fun q40 => ?_) (fun q40 => ?_)
          · have ek : k = 1 := ((nI_eq (a := 1) (b := k) (by omega) (by omega)).mp q40).symm
            refine v_iload_n hX rfl qX12_taken_51 ?_
            refine v_iload_n hX rfl qX12_taken_52 ?_
            refine v_icmp_ne hX 65 qX12_taken_53 rfl (fun q53 => ?_) (fun q53 => ?_)
            · exact absurd q40 q53
            · skip
              refine v_aload_n hX rfl qX12_taken_56 ?_
              refine v_getR hX g_X12_35 (hm.kd 38 rfl) (hm.rf 6 rfl) qX12_taken_57 ?_
              refine v_iload_n hX rfl qX12_taken_60 ?_
              refine v_ialdV hX (hm.kd 45 rfl) (hm.ln 45 rfl) (by exact ix_n (n := l) (by omega) rfl) (hp.2 l hl).2 qX12_taken_61 ?_
              refine v_goto hX 67 qX12_taken_62 rfl ?_
              refine v_ireturn hX qX12_taken_67 (hP _ _ ?_)
              exact ⟨by rw [takenI, if_pos q9, if_pos q20, tn_nI (show l < 2000000 by omega), tn_nI (show k < 2000000 by omega), if_pos (by rw [hk0, ek]; rfl)], rfl⟩
          · have nk0 : ¬ k = 1 := fun z => q40 (by rw [z])
            refine v_iload_n hX rfl qX12_taken_43 ?_
            refine v_callSq hX hR k_X12_373 (m_over _) rfl (Nat.le_of_ble_eq_true rfl) rfl (Nat.le_of_ble_eq_true rfl) ⟨Nat.le_of_ble_eq_true rfl, Nat.le_of_ble_eq_true rfl⟩ qX12_taken_44 ?_
            rintro _ _ ⟨rfl, rfl⟩
            refine v_eqI (show _ = nI 0 from rfl) ?_
            refine v_istore_n hX (Nat.le_of_ble_eq_true rfl) rfl (ls' := [some _, some _, some _, some _]) rfl qX12_taken_47 ?_
            refine v_goto hX 33 qX12_taken_48 rfl ?_
            refine v_iload_n hX rfl qX12_taken_33 ?_
            refine v_iconst hX li_n1 qX12_taken_34 ?_
            refine v_icmp_eq hX 51 qX12_taken_35 rfl (fun q35 => ?_) (fun q35 => ?_)
            · exact absurd q35 (by decide)
            · skip
              refine v_iload_n hX rfl qX12_taken_38 ?_
              refine v_iload_n hX rfl qX12_taken_39 ?_
              refine v_icmp_eq hX 51 qX12_taken_40 rfl (fun q40 => ?_) (fun q40 => ?_)
              · have ek : k = 0 := ((nI_eq (a := 0) (b := k) (by omega) (by omega)).mp q40).symm
                refine v_iload_n hX rfl qX12_taken_51 ?_
                refine v_iload_n hX rfl qX12_taken_52 ?_
                refine v_icmp_ne hX 65 qX12_taken_53 rfl (fun q53 => ?_) (fun q53 => ?_)
                · exact absurd q40 q53
                · skip
                  refine v_aload_n hX rfl qX12_taken_56 ?_
                  refine v_getR hX g_X12_35 (hm.kd 38 rfl) (hm.rf 6 rfl) qX12_taken_57 ?_
                  refine v_iload_n hX rfl qX12_taken_60 ?_
                  refine v_ialdV hX (hm.kd 45 rfl) (hm.ln 45 rfl) (by exact ix_n (n := l) (by omega) rfl) (hp.2 l hl).2 qX12_taken_61 ?_
                  refine v_goto hX 67 qX12_taken_62 rfl ?_
                  refine v_ireturn hX qX12_taken_67 (hP _ _ ?_)
                  exact ⟨by rw [takenI, if_pos q9, if_pos q20, tn_nI (show l < 2000000 by omega), tn_nI (show k < 2000000 by omega), if_pos (by rw [hk0, ek]; rfl)], rfl⟩
              · have nk1 : ¬ k = 0 := fun z => q40 (by rw [z])
                refine v_iload_n hX rfl qX12_taken_43 ?_
                refine v_callSq hX hR k_X12_373 (m_over _) rfl (Nat.le_of_ble_eq_true rfl) rfl (Nat.le_of_ble_eq_true rfl) ⟨Nat.le_of_ble_eq_true rfl, Nat.le_of_ble_eq_true rfl⟩ qX12_taken_44 ?_
                rintro _ _ ⟨rfl, rfl⟩
                refine v_eqI (show _ = (-1 : Int32) from rfl) ?_
                refine v_istore_n hX (Nat.le_of_ble_eq_true rfl) rfl (ls' := [some _, some _, some _, some _]) rfl qX12_taken_47 ?_
                refine v_goto hX 33 qX12_taken_48 rfl ?_
                refine v_iload_n hX rfl qX12_taken_33 ?_
                refine v_iconst hX li_n1 qX12_taken_34 ?_
                refine v_icmp_eq hX 51 qX12_taken_35 rfl (fun q35 => ?_) (fun q35 => ?_)
                · skip
                  refine v_iload_n hX rfl qX12_taken_51 ?_
                  refine v_iload_n hX rfl qX12_taken_52 ?_
                  refine v_icmp_ne hX 65 qX12_taken_53 rfl (fun q53 => ?_) (fun q53 => ?_)
                  · skip
                    refine v_bipush hX lb_n13 qX12_taken_65 ?_
                    refine v_ireturn hX qX12_taken_67 (hP _ _ ?_)
                    refine ⟨?_, rfl⟩
                    rw [takenI, if_pos q9, if_pos q20, tn_nI (show l < 2000000 by omega), tn_nI (show k < 2000000 by omega), if_neg]
                    rw [hk0]
                    have hk6 : k = 0 ∨ k = 1 ∨ k = 2 ∨ k = 3 ∨ k = 4 ∨ k = 5 := by omega
                    rcases hk6 with rfl | rfl | rfl | rfl | rfl | rfl <;> first | decide | (exfalso; omega)
                  · exact absurd q53.symm (nI_ne1 (by omega))
                · exact absurd rfl q35
      · rw [hk0]
        refine v_istore_n hX (Nat.le_of_ble_eq_true rfl) rfl (ls' := [some _, some _, some _, some _]) rfl qX12_taken_32 ?_
        refine v_iload_n hX rfl qX12_taken_33 ?_
        refine v_iconst hX li_n1 qX12_taken_34 ?_
        refine v_icmp_eq hX 51 qX12_taken_35 rfl (fun q35 => ?_) (fun q35 => ?_)
        · exact absurd q35 (by decide)
        · skip
          refine v_iload_n hX rfl qX12_taken_38 ?_
          refine v_iload_n hX rfl qX12_taken_39 ?_
          refine v_icmp_eq hX 51 qX12_taken_40 rfl (fun q40 => ?_) (fun q40 => ?_)
          · have ek : k = 2 := ((nI_eq (a := 2) (b := k) (by omega) (by omega)).mp q40).symm
            refine v_iload_n hX rfl qX12_taken_51 ?_
            refine v_iload_n hX rfl qX12_taken_52 ?_
            refine v_icmp_ne hX 65 qX12_taken_53 rfl (fun q53 => ?_) (fun q53 => ?_)
            · exact absurd q40 q53
            · skip
              refine v_aload_n hX rfl qX12_taken_56 ?_
              refine v_getR hX g_X12_35 (hm.kd 38 rfl) (hm.rf 6 rfl) qX12_taken_57 ?_
              refine v_iload_n hX rfl qX12_taken_60 ?_
              refine v_ialdV hX (hm.kd 45 rfl) (hm.ln 45 rfl) (by exact ix_n (n := l) (by omega) rfl) (hp.2 l hl).2 qX12_taken_61 ?_
              refine v_goto hX 67 qX12_taken_62 rfl ?_
              refine v_ireturn hX qX12_taken_67 (hP _ _ ?_)
              exact ⟨by rw [takenI, if_pos q9, if_pos q20, tn_nI (show l < 2000000 by omega), tn_nI (show k < 2000000 by omega), if_pos (by rw [hk0, ek]; rfl)], rfl⟩
          · have nk0 : ¬ k = 2 := fun z => q40 (by rw [z])
            refine v_iload_n hX rfl qX12_taken_43 ?_
            refine v_callSq hX hR k_X12_373 (m_over _) rfl (Nat.le_of_ble_eq_true rfl) rfl (Nat.le_of_ble_eq_true rfl) ⟨Nat.le_of_ble_eq_true rfl, Nat.le_of_ble_eq_true rfl⟩ qX12_taken_44 ?_
            rintro _ _ ⟨rfl, rfl⟩
            refine v_eqI (show _ = nI 1 from rfl) ?_
            refine v_istore_n hX (Nat.le_of_ble_eq_true rfl) rfl (ls' := [some _, some _, some _, some _]) rfl qX12_taken_47 ?_
            refine v_goto hX 33 qX12_taken_48 rfl ?_
            refine v_iload_n hX rfl qX12_taken_33 ?_
            refine v_iconst hX li_n1 qX12_taken_34 ?_
            refine v_icmp_eq hX 51 qX12_taken_35 rfl (fun q35 => ?_) (fun q35 => ?_)
            · exact absurd q35 (by decide)
            · skip
              refine v_iload_n hX rfl qX12_taken_38 ?_
              refine v_iload_n hX rfl qX12_taken_39 ?_
              refine v_icmp_eq hX 51 qX12_taken_40 rfl (fun q40 => ?_) (fun q40 => ?_)
              · have ek : k = 1 := ((nI_eq (a := 1) (b := k) (by omega) (by omega)).mp q40).symm
                refine v_iload_n hX rfl qX12_taken_51 ?_
                refine v_iload_n hX rfl qX12_taken_52 ?_
                refine v_icmp_ne hX 65 qX12_taken_53 rfl (fun q53 => ?_) (fun q53 => ?_)
                · exact absurd q40 q53
                · skip
                  refine v_aload_n hX rfl qX12_taken_56 ?_
                  refine v_getR hX g_X12_35 (hm.kd 38 rfl) (hm.rf 6 rfl) qX12_taken_57 ?_
                  refine v_iload_n hX rfl qX12_taken_60 ?_
                  refine v_ialdV hX (hm.kd 45 rfl) (hm.ln 45 rfl) (by exact ix_n (n := l) (by omega) rfl) (hp.2 l hl).2 qX12_taken_61 ?_
                  refine v_goto hX 67 qX12_taken_62 rfl ?_
                  refine v_ireturn hX qX12_taken_67 (hP _ _ ?_)
                  exact ⟨by rw [takenI, if_pos q9, if_pos q20, tn_nI (show l < 2000000 by omega), tn_nI (show k < 2000000 by omega), if_pos (by rw [hk0, ek]; rfl)], rfl⟩
              · have nk1 : ¬ k = 1 := fun z => q40 (by rw [z])
                refine v_iload_n hX rfl qX12_taken_43 ?_
                refine v_callSq hX hR k_X12_373 (m_over _) rfl (Nat.le_of_ble_eq_true rfl) rfl (Nat.le_of_ble_eq_true rfl) ⟨Nat.le_of_ble_eq_true rfl, Nat.le_of_ble_eq_true rfl⟩ qX12_taken_44 ?_
                rintro _ _ ⟨rfl, rfl⟩
                refine v_eqI (show _ = nI 0 from rfl) ?_
                refine v_istore_n hX (Nat.le_of_ble_eq_true rfl) rfl (ls' := [some _, some _, some _, some _]) rfl qX12_taken_47 ?_
                refine v_goto hX 33 qX12_taken_48 rfl ?_
                refine v_iload_n hX rfl qX12_taken_33 ?_
                refine v_iconst hX li_n1 qX12_taken_34 ?_
                refine v_icmp_eq hX 51 qX12_taken_35 rfl (fun q35 => ?_) (fun q35 => ?_)
                · exact absurd q35 (by decide)
                · skip
                  refine v_iload_n hX rfl qX12_taken_38 ?_
                  refine v_iload_n hX rfl qX12_taken_39 ?_
                  refine v_icmp_eq hX 51 qX12_taken_40 rfl (fun q40 => ?_) (fun q40 => ?_)
                  · have ek : k = 0 := ((nI_eq (a := 0) (b := k) (by omega) (by omega)).mp q40).symm
                    refine v_iload_n hX rfl qX12_taken_51 ?_
                    refine v_iload_n hX rfl qX12_taken_52 ?_
                    refine v_icmp_ne hX 65 qX12_taken_53 rfl (fun q53 => ?_) (fun q53 => ?_)
                    · exact absurd q40 q53
                    · skip
                      refine v_aload_n hX rfl qX12_taken_56 ?_
                      refine v_getR hX g_X12_35 (hm.kd 38 rfl) (hm.rf 6 rfl) qX12_taken_57 ?_
                      refine v_iload_n hX rfl qX12_taken_60 ?_
                      refine v_ialdV hX (hm.kd 45 rfl) (hm.ln 45 rfl) (by exact ix_n (n := l) (by omega) rfl) (hp.2 l hl).2 qX12_taken_61 ?_
                      refine v_goto hX 67 qX12_taken_62 rfl ?_
                      refine v_ireturn hX qX12_taken_67 (hP _ _ ?_)
                      exact ⟨by rw [takenI, if_pos q9, if_pos q20, tn_nI (show l < 2000000 by omega), tn_nI (show k < 2000000 by omega), if_pos (by rw [hk0, ek]; rfl)], rfl⟩
                  · have nk2 : ¬ k = 0 := fun z => q40 (by rw [z])
                    refine v_iload_n hX rfl qX12_taken_43 ?_
                    refine v_callSq hX hR k_X12_373 (m_over _) rfl (Nat.le_of_ble_eq_true rfl) rfl (Nat.le_of_ble_eq_true rfl) ⟨Nat.le_of_ble_eq_true rfl, Nat.le_of_ble_eq_true rfl⟩ qX12_taken_44 ?_
                    rintro _ _ ⟨rfl, rfl⟩
                    refine v_eqI (show _ = (-1 : Int32) from rfl) ?_
                    refine v_istore_n hX (Nat.le_of_ble_eq_true rfl) rfl (ls' := [some _, some _, some _, some _]) rfl qX12_taken_47 ?_
                    refine v_goto hX 33 qX12_taken_48 rfl ?_
                    refine v_iload_n hX rfl qX12_taken_33 ?_
                    refine v_iconst hX li_n1 qX12_taken_34 ?_
                    refine v_icmp_eq hX 51 qX12_taken_35 rfl (fun q35 => ?_) (fun q35 => ?_)
                    · skip
                      refine v_iload_n hX rfl qX12_taken_51 ?_
                      refine v_iload_n hX rfl qX12_taken_52 ?_
                      refine v_icmp_ne hX 65 qX12_taken_53 rfl (fun q53 => ?_) (fun q53 => ?_)
                      · skip
                        refine v_bipush hX lb_n13 qX12_taken_65 ?_
                        refine v_ireturn hX qX12_taken_67 (hP _ _ ?_)
                        refine ⟨?_, rfl⟩
                        rw [takenI, if_pos q9, if_pos q20, tn_nI (show l < 2000000 by omega), tn_nI (show k < 2000000 by omega), if_neg]
                        rw [hk0]
                        have hk6 : k = 0 ∨ k = 1 ∨ k = 2 ∨ k = 3 ∨ k = 4 ∨ k = 5 := by omega
                        rcases hk6 with rfl | rfl | rfl | rfl | rfl | rfl <;> first | decide | (exfalso; omega)
                      · exact absurd q53.symm (nI_ne1 (by omega))
                    · exact absurd rfl q35
      · rw [hk0]
        refine v_istore_n hX (Nat.le_of_ble_eq_true rfl) rfl (ls' := [some _, some _, some _, some _]) rfl qX12_taken_32 ?_
        refine v_iload_n hX rfl qX12_taken_33 ?_
        refine v_iconst hX li_n1 qX12_taken_34 ?_
        refine v_icmp_eq hX 51 qX12_taken_35 rfl (fun q35 => ?_) (fun q35 => ?_)
        · exact absurd q35 (by decide)
        · skip
          refine v_iload_n hX rfl qX12_taken_38 ?_
          refine v_iload_n hX rfl qX12_taken_39 ?_
          refine v_icmp_eq hX 51 qX12_taken_40 rfl (fun q40 => ?_) (fun q40 => ?_)
          · have ek : k = 3 := ((nI_eq (a := 3) (b := k) (by omega) (by omega)).mp q40).symm
            refine v_iload_n hX rfl qX12_taken_51 ?_
            refine v_iload_n hX rfl qX12_taken_52 ?_
            refine v_icmp_ne hX 65 qX12_taken_53 rfl (fun q53 => ?_) (fun q53 => ?_)
            · exact absurd q40 q53
            · skip
              refine v_aload_n hX rfl qX12_taken_56 ?_
              refine v_getR hX g_X12_35 (hm.kd 38 rfl) (hm.rf 6 rfl) qX12_taken_57 ?_
              refine v_iload_n hX rfl qX12_taken_60 ?_
              refine v_ialdV hX (hm.kd 45 rfl) (hm.ln 45 rfl) (by exact ix_n (n := l) (by omega) rfl) (hp.2 l hl).2 qX12_taken_61 ?_
              refine v_goto hX 67 qX12_taken_62 rfl ?_
              refine v_ireturn hX qX12_taken_67 (hP _ _ ?_)
              exact ⟨by rw [takenI, if_pos q9, if_pos q20, tn_nI (show l < 2000000 by omega), tn_nI (show k < 2000000 by omega), if_pos (by rw [hk0, ek]; rfl)], rfl⟩
          · have nk0 : ¬ k = 3 := fun z => q40 (by rw [z])
            refine v_iload_n hX rfl qX12_taken_43 ?_
            refine v_callSq hX hR k_X12_373 (m_over _) rfl (Nat.le_of_ble_eq_true rfl) rfl (Nat.le_of_ble_eq_true rfl) ⟨Nat.le_of_ble_eq_true rfl, Nat.le_of_ble_eq_true rfl⟩ qX12_taken_44 ?_
            rintro _ _ ⟨rfl, rfl⟩
            refine v_eqI (show _ = nI 0 from rfl) ?_
            refine v_istore_n hX (Nat.le_of_ble_eq_true rfl) rfl (ls' := [some _, some _, some _, some _]) rfl qX12_taken_47 ?_
            refine v_goto hX 33 qX12_taken_48 rfl ?_
            refine v_iload_n hX rfl qX12_taken_33 ?_
            refine v_iconst hX li_n1 qX12_taken_34 ?_
            refine v_icmp_eq hX 51 qX12_taken_35 rfl (fun q35 => ?_) (fun q35 => ?_)
            · exact absurd q35 (by decide)
            · skip
              refine v_iload_n hX rfl qX12_taken_38 ?_
              refine v_iload_n hX rfl qX12_taken_39 ?_
              refine v_icmp_eq hX 51 qX12_taken_40 rfl (fun q40 => ?_) (fun q40 => ?_)
              · have ek : k = 0 := ((nI_eq (a := 0) (b := k) (by omega) (by omega)).mp q40).symm
                refine v_iload_n hX rfl qX12_taken_51 ?_
                refine v_iload_n hX rfl qX12_taken_52 ?_
                refine v_icmp_ne hX 65 qX12_taken_53 rfl (fun q53 => ?_) (fun q53 => ?_)
                · exact absurd q40 q53
                · skip
                  refine v_aload_n hX rfl qX12_taken_56 ?_
                  refine v_getR hX g_X12_35 (hm.kd 38 rfl) (hm.rf 6 rfl) qX12_taken_57 ?_
                  refine v_iload_n hX rfl qX12_taken_60 ?_
                  refine v_ialdV hX (hm.kd 45 rfl) (hm.ln 45 rfl) (by exact ix_n (n := l) (by omega) rfl) (hp.2 l hl).2 qX12_taken_61 ?_
                  refine v_goto hX 67 qX12_taken_62 rfl ?_
                  refine v_ireturn hX qX12_taken_67 (hP _ _ ?_)
                  exact ⟨by rw [takenI, if_pos q9, if_pos q20, tn_nI (show l < 2000000 by omega), tn_nI (show k < 2000000 by omega), if_pos (by rw [hk0, ek]; rfl)], rfl⟩
              · have nk1 : ¬ k = 0 := fun z => q40 (by rw [z])
                refine v_iload_n hX rfl qX12_taken_43 ?_
                refine v_callSq hX hR k_X12_373 (m_over _) rfl (Nat.le_of_ble_eq_true rfl) rfl (Nat.le_of_ble_eq_true rfl) ⟨Nat.le_of_ble_eq_true rfl, Nat.le_of_ble_eq_true rfl⟩ qX12_taken_44 ?_
                rintro _ _ ⟨rfl, rfl⟩
                refine v_eqI (show _ = (-1 : Int32) from rfl) ?_
                refine v_istore_n hX (Nat.le_of_ble_eq_true rfl) rfl (ls' := [some _, some _, some _, some _]) rfl qX12_taken_47 ?_
                refine v_goto hX 33 qX12_taken_48 rfl ?_
                refine v_iload_n hX rfl qX12_taken_33 ?_
                refine v_iconst hX li_n1 qX12_taken_34 ?_
                refine v_icmp_eq hX 51 qX12_taken_35 rfl (fun q35 => ?_) (fun q35 => ?_)
                · skip
                  refine v_iload_n hX rfl qX12_taken_51 ?_
                  refine v_iload_n hX rfl qX12_taken_52 ?_
                  refine v_icmp_ne hX 65 qX12_taken_53 rfl (fun q53 => ?_) (fun q53 => ?_)
                  · skip
                    refine v_bipush hX lb_n13 qX12_taken_65 ?_
                    refine v_ireturn hX qX12_taken_67 (hP _ _ ?_)
                    refine ⟨?_, rfl⟩
                    rw [takenI, if_pos q9, if_pos q20, tn_nI (show l < 2000000 by omega), tn_nI (show k < 2000000 by omega), if_neg]
                    rw [hk0]
                    have hk6 : k = 0 ∨ k = 1 ∨ k = 2 ∨ k = 3 ∨ k = 4 ∨ k = 5 := by omega
                    rcases hk6 with rfl | rfl | rfl | rfl | rfl | rfl <;> first | decide | (exfalso; omega)
                  · exact absurd q53.symm (nI_ne1 (by omega))
                · exact absurd rfl q35
      · rw [hk0]
        refine v_istore_n hX (Nat.le_of_ble_eq_true rfl) rfl (ls' := [some _, some _, some _, some _]) rfl qX12_taken_32 ?_
        refine v_iload_n hX rfl qX12_taken_33 ?_
        refine v_iconst hX li_n1 qX12_taken_34 ?_
        refine v_icmp_eq hX 51 qX12_taken_35 rfl (fun q35 => ?_) (fun q35 => ?_)
        · exact absurd q35 (by decide)
        · skip
          refine v_iload_n hX rfl qX12_taken_38 ?_
          refine v_iload_n hX rfl qX12_taken_39 ?_
          refine v_icmp_eq hX 51 qX12_taken_40 rfl (fun q40 => ?_) (fun q40 => ?_)
          · have ek : k = 4 := ((nI_eq (a := 4) (b := k) (by omega) (by omega)).mp q40).symm
            refine v_iload_n hX rfl qX12_taken_51 ?_
            refine v_iload_n hX rfl qX12_taken_52 ?_
            refine v_icmp_ne hX 65 qX12_taken_53 rfl (fun q53 => ?_) (fun q53 => ?_)
            · exact absurd q40 q53
            · skip
              refine v_aload_n hX rfl qX12_taken_56 ?_
              refine v_getR hX g_X12_35 (hm.kd 38 rfl) (hm.rf 6 rfl) qX12_taken_57 ?_
              refine v_iload_n hX rfl qX12_taken_60 ?_
              refine v_ialdV hX (hm.kd 45 rfl) (hm.ln 45 rfl) (by exact ix_n (n := l) (by omega) rfl) (hp.2 l hl).2 qX12_taken_61 ?_
              refine v_goto hX 67 qX12_taken_62 rfl ?_
              refine v_ireturn hX qX12_taken_67 (hP _ _ ?_)
              exact ⟨by rw [takenI, if_pos q9, if_pos q20, tn_nI (show l < 2000000 by omega), tn_nI (show k < 2000000 by omega), if_pos (by rw [hk0, ek]; rfl)], rfl⟩
          · have nk0 : ¬ k = 4 := fun z => q40 (by rw [z])
            refine v_iload_n hX rfl qX12_taken_43 ?_
            refine v_callSq hX hR k_X12_373 (m_over _) rfl (Nat.le_of_ble_eq_true rfl) rfl (Nat.le_of_ble_eq_true rfl) ⟨Nat.le_of_ble_eq_true rfl, Nat.le_of_ble_eq_true rfl⟩ qX12_taken_44 ?_
            rintro _ _ ⟨rfl, rfl⟩
            refine v_eqI (show _ = nI 1 from rfl) ?_
            refine v_istore_n hX (Nat.le_of_ble_eq_true rfl) rfl (ls' := [some _, some _, some _, some _]) rfl qX12_taken_47 ?_
            refine v_goto hX 33 qX12_taken_48 rfl ?_
            refine v_iload_n hX rfl qX12_taken_33 ?_
            refine v_iconst hX li_n1 qX12_taken_34 ?_
            refine v_icmp_eq hX 51 qX12_taken_35 rfl (fun q35 => ?_) (fun q35 => ?_)
            · exact absurd q35 (by decide)
            · skip
              refine v_iload_n hX rfl qX12_taken_38 ?_
              refine v_iload_n hX rfl qX12_taken_39 ?_
              refine v_icmp_eq hX 51 qX12_taken_40 rfl (fun q40 => ?_) (fun q40 => ?_)
              · have ek : k = 1 := ((nI_eq (a := 1) (b := k) (by omega) (by omega)).mp q40).symm
                refine v_iload_n hX rfl qX12_taken_51 ?_
                refine v_iload_n hX rfl qX12_taken_52 ?_
                refine v_icmp_ne hX 65 qX12_taken_53 rfl (fun q53 => ?_) (fun q53 => ?_)
                · exact absurd q40 q53
                · skip
                  refine v_aload_n hX rfl qX12_taken_56 ?_
                  refine v_getR hX g_X12_35 (hm.kd 38 rfl) (hm.rf 6 rfl) qX12_taken_57 ?_
                  refine v_iload_n hX rfl qX12_taken_60 ?_
                  refine v_ialdV hX (hm.kd 45 rfl) (hm.ln 45 rfl) (by exact ix_n (n := l) (by omega) rfl) (hp.2 l hl).2 qX12_taken_61 ?_
                  refine v_goto hX 67 qX12_taken_62 rfl ?_
                  refine v_ireturn hX qX12_taken_67 (hP _ _ ?_)
                  exact ⟨by rw [takenI, if_pos q9, if_pos q20, tn_nI (show l < 2000000 by omega), tn_nI (show k < 2000000 by omega), if_pos (by rw [hk0, ek]; rfl)], rfl⟩
              · have nk1 : ¬ k = 1 := fun z => q40 (by rw [z])
                refine v_iload_n hX rfl qX12_taken_43 ?_
                refine v_callSq hX hR k_X12_373 (m_over _) rfl (Nat.le_of_ble_eq_true rfl) rfl (Nat.le_of_ble_eq_true rfl) ⟨Nat.le_of_ble_eq_true rfl, Nat.le_of_ble_eq_true rfl⟩ qX12_taken_44 ?_
                rintro _ _ ⟨rfl, rfl⟩
                refine v_eqI (show _ = nI 0 from rfl) ?_
                refine v_istore_n hX (Nat.le_of_ble_eq_true rfl) rfl (ls' := [some _, some _, some _, some _]) rfl qX12_taken_47 ?_
                refine v_goto hX 33 qX12_taken_48 rfl ?_
                refine v_iload_n hX rfl qX12_taken_33 ?_
                refine v_iconst hX li_n1 qX12_taken_34 ?_
                refine v_icmp_eq hX 51 qX12_taken_35 rfl (fun q35 => ?_) (fun q35 => ?_)
                · exact absurd q35 (by decide)
                · skip
                  refine v_iload_n hX rfl qX12_taken_38 ?_
                  refine v_iload_n hX rfl qX12_taken_39 ?_
                  refine v_icmp_eq hX 51 qX12_taken_40 rfl (fun q40 => ?_) (fun q40 => ?_)
                  · have ek : k = 0 := ((nI_eq (a := 0) (b := k) (by omega) (by omega)).mp q40).symm
                    refine v_iload_n hX rfl qX12_taken_51 ?_
                    refine v_iload_n hX rfl qX12_taken_52 ?_
                    refine v_icmp_ne hX 65 qX12_taken_53 rfl (fun q53 => ?_) (fun q53 => ?_)
                    · exact absurd q40 q53
                    · skip
                      refine v_aload_n hX rfl qX12_taken_56 ?_
                      refine v_getR hX g_X12_35 (hm.kd 38 rfl) (hm.rf 6 rfl) qX12_taken_57 ?_
                      refine v_iload_n hX rfl qX12_taken_60 ?_
                      refine v_ialdV hX (hm.kd 45 rfl) (hm.ln 45 rfl) (by exact ix_n (n := l) (by omega) rfl) (hp.2 l hl).2 qX12_taken_61 ?_
                      refine v_goto hX 67 qX12_taken_62 rfl ?_
                      refine v_ireturn hX qX12_taken_67 (hP _ _ ?_)
                      exact ⟨by rw [takenI, if_pos q9, if_pos q20, tn_nI (show l < 2000000 by omega), tn_nI (show k < 2000000 by omega), if_pos (by rw [hk0, ek]; rfl)], rfl⟩
                  · have nk2 : ¬ k = 0 := fun z => q40 (by rw [z])
                    refine v_iload_n hX rfl qX12_taken_43 ?_
                    refine v_callSq hX hR k_X12_373 (m_over _) rfl (Nat.le_of_ble_eq_true rfl) rfl (Nat.le_of_ble_eq_true rfl) ⟨Nat.le_of_ble_eq_true rfl, Nat.le_of_ble_eq_true rfl⟩ qX12_taken_44 ?_
                    rintro _ _ ⟨rfl, rfl⟩
                    refine v_eqI (show _ = (-1 : Int32) from rfl) ?_
                    refine v_istore_n hX (Nat.le_of_ble_eq_true rfl) rfl (ls' := [some _, some _, some _, some _]) rfl qX12_taken_47 ?_
                    refine v_goto hX 33 qX12_taken_48 rfl ?_
                    refine v_iload_n hX rfl qX12_taken_33 ?_
                    refine v_iconst hX li_n1 qX12_taken_34 ?_
                    refine v_icmp_eq hX 51 qX12_taken_35 rfl (fun q35 => ?_) (fun q35 => ?_)
                    · skip
                      refine v_iload_n hX rfl qX12_taken_51 ?_
                      refine v_iload_n hX rfl qX12_taken_52 ?_
                      refine v_icmp_ne hX 65 qX12_taken_53 rfl (fun q53 => ?_) (fun q53 => ?_)
                      · skip
                        refine v_bipush hX lb_n13 qX12_taken_65 ?_
                        refine v_ireturn hX qX12_taken_67 (hP _ _ ?_)
                        refine ⟨?_, rfl⟩
                        rw [takenI, if_pos q9, if_pos q20, tn_nI (show l < 2000000 by omega), tn_nI (show k < 2000000 by omega), if_neg]
                        rw [hk0]
                        have hk6 : k = 0 ∨ k = 1 ∨ k = 2 ∨ k = 3 ∨ k = 4 ∨ k = 5 := by omega
                        rcases hk6 with rfl | rfl | rfl | rfl | rfl | rfl <;> first | decide | (exfalso; omega)
                      · exact absurd q53.symm (nI_ne1 (by omega))
                    · exact absurd rfl q35
      · rw [hk0]
        refine v_istore_n hX (Nat.le_of_ble_eq_true rfl) rfl (ls' := [some _, some _, some _, some _]) rfl qX12_taken_32 ?_
        refine v_iload_n hX rfl qX12_taken_33 ?_
        refine v_iconst hX li_n1 qX12_taken_34 ?_
        refine v_icmp_eq hX 51 qX12_taken_35 rfl (fun q35 => ?_) (fun q35 => ?_)
        · exact absurd q35 (by decide)
        · skip
          refine v_iload_n hX rfl qX12_taken_38 ?_
          refine v_iload_n hX rfl qX12_taken_39 ?_
          refine v_icmp_eq hX 51 qX12_taken_40 rfl (fun q40 => ?_) (fun q40 => ?_)
          · have ek : k = 5 := ((nI_eq (a := 5) (b := k) (by omega) (by omega)).mp q40).symm
            refine v_iload_n hX rfl qX12_taken_51 ?_
            refine v_iload_n hX rfl qX12_taken_52 ?_
            refine v_icmp_ne hX 65 qX12_taken_53 rfl (fun q53 => ?_) (fun q53 => ?_)
            · exact absurd q40 q53
            · skip
              refine v_aload_n hX rfl qX12_taken_56 ?_
              refine v_getR hX g_X12_35 (hm.kd 38 rfl) (hm.rf 6 rfl) qX12_taken_57 ?_
              refine v_iload_n hX rfl qX12_taken_60 ?_
              refine v_ialdV hX (hm.kd 45 rfl) (hm.ln 45 rfl) (by exact ix_n (n := l) (by omega) rfl) (hp.2 l hl).2 qX12_taken_61 ?_
              refine v_goto hX 67 qX12_taken_62 rfl ?_
              refine v_ireturn hX qX12_taken_67 (hP _ _ ?_)
              exact ⟨by rw [takenI, if_pos q9, if_pos q20, tn_nI (show l < 2000000 by omega), tn_nI (show k < 2000000 by omega), if_pos (by rw [hk0, ek]; rfl)], rfl⟩
          · have nk0 : ¬ k = 5 := fun z => q40 (by rw [z])
            refine v_iload_n hX rfl qX12_taken_43 ?_
            refine v_callSq hX hR k_X12_373 (m_over _) rfl (Nat.le_of_ble_eq_true rfl) rfl (Nat.le_of_ble_eq_true rfl) ⟨Nat.le_of_ble_eq_true rfl, Nat.le_of_ble_eq_true rfl⟩ qX12_taken_44 ?_
            rintro _ _ ⟨rfl, rfl⟩
            refine v_eqI (show _ = nI 3 from rfl) ?_
            refine v_istore_n hX (Nat.le_of_ble_eq_true rfl) rfl (ls' := [some _, some _, some _, some _]) rfl qX12_taken_47 ?_
            refine v_goto hX 33 qX12_taken_48 rfl ?_
            refine v_iload_n hX rfl qX12_taken_33 ?_
            refine v_iconst hX li_n1 qX12_taken_34 ?_
            refine v_icmp_eq hX 51 qX12_taken_35 rfl (fun q35 => ?_) (fun q35 => ?_)
            · exact absurd q35 (by decide)
            · skip
              refine v_iload_n hX rfl qX12_taken_38 ?_
              refine v_iload_n hX rfl qX12_taken_39 ?_
              refine v_icmp_eq hX 51 qX12_taken_40 rfl (fun q40 => ?_) (fun q40 => ?_)
              · have ek : k = 3 := ((nI_eq (a := 3) (b := k) (by omega) (by omega)).mp q40).symm
                refine v_iload_n hX rfl qX12_taken_51 ?_
                refine v_iload_n hX rfl qX12_taken_52 ?_
                refine v_icmp_ne hX 65 qX12_taken_53 rfl (fun q53 => ?_) (fun q53 => ?_)
                · exact absurd q40 q53
                · skip
                  refine v_aload_n hX rfl qX12_taken_56 ?_
                  refine v_getR hX g_X12_35 (hm.kd 38 rfl) (hm.rf 6 rfl) qX12_taken_57 ?_
                  refine v_iload_n hX rfl qX12_taken_60 ?_
                  refine v_ialdV hX (hm.kd 45 rfl) (hm.ln 45 rfl) (by exact ix_n (n := l) (by omega) rfl) (hp.2 l hl).2 qX12_taken_61 ?_
                  refine v_goto hX 67 qX12_taken_62 rfl ?_
                  refine v_ireturn hX qX12_taken_67 (hP _ _ ?_)
                  exact ⟨by rw [takenI, if_pos q9, if_pos q20, tn_nI (show l < 2000000 by omega), tn_nI (show k < 2000000 by omega), if_pos (by rw [hk0, ek]; rfl)], rfl⟩
              · have nk1 : ¬ k = 3 := fun z => q40 (by rw [z])
                refine v_iload_n hX rfl qX12_taken_43 ?_
                refine v_callSq hX hR k_X12_373 (m_over _) rfl (Nat.le_of_ble_eq_true rfl) rfl (Nat.le_of_ble_eq_true rfl) ⟨Nat.le_of_ble_eq_true rfl, Nat.le_of_ble_eq_true rfl⟩ qX12_taken_44 ?_
                rintro _ _ ⟨rfl, rfl⟩
                refine v_eqI (show _ = nI 0 from rfl) ?_
                refine v_istore_n hX (Nat.le_of_ble_eq_true rfl) rfl (ls' := [some _, some _, some _, some _]) rfl qX12_taken_47 ?_
                refine v_goto hX 33 qX12_taken_48 rfl ?_
                refine v_iload_n hX rfl qX12_taken_33 ?_
                refine v_iconst hX li_n1 qX12_taken_34 ?_
                refine v_icmp_eq hX 51 qX12_taken_35 rfl (fun q35 => ?_) (fun q35 => ?_)
                · exact absurd q35 (by decide)
                · skip
                  refine v_iload_n hX rfl qX12_taken_38 ?_
                  refine v_iload_n hX rfl qX12_taken_39 ?_
                  refine v_icmp_eq hX 51 qX12_taken_40 rfl (fun q40 => ?_) (fun q40 => ?_)
                  · have ek : k = 0 := ((nI_eq (a := 0) (b := k) (by omega) (by omega)).mp q40).symm
                    refine v_iload_n hX rfl qX12_taken_51 ?_
                    refine v_iload_n hX rfl qX12_taken_52 ?_
                    refine v_icmp_ne hX 65 qX12_taken_53 rfl (fun q53 => ?_) (fun q53 => ?_)
                    · exact absurd q40 q53
                    · skip
                      refine v_aload_n hX rfl qX12_taken_56 ?_
                      refine v_getR hX g_X12_35 (hm.kd 38 rfl) (hm.rf 6 rfl) qX12_taken_57 ?_
                      refine v_iload_n hX rfl qX12_taken_60 ?_
                      refine v_ialdV hX (hm.kd 45 rfl) (hm.ln 45 rfl) (by exact ix_n (n := l) (by omega) rfl) (hp.2 l hl).2 qX12_taken_61 ?_
                      refine v_goto hX 67 qX12_taken_62 rfl ?_
                      refine v_ireturn hX qX12_taken_67 (hP _ _ ?_)
                      exact ⟨by rw [takenI, if_pos q9, if_pos q20, tn_nI (show l < 2000000 by omega), tn_nI (show k < 2000000 by omega), if_pos (by rw [hk0, ek]; rfl)], rfl⟩
                  · have nk2 : ¬ k = 0 := fun z => q40 (by rw [z])
                    refine v_iload_n hX rfl qX12_taken_43 ?_
                    refine v_callSq hX hR k_X12_373 (m_over _) rfl (Nat.le_of_ble_eq_true rfl) rfl (Nat.le_of_ble_eq_true rfl) ⟨Nat.le_of_ble_eq_true rfl, Nat.le_of_ble_eq_true rfl⟩ qX12_taken_44 ?_
                    rintro _ _ ⟨rfl, rfl⟩
                    refine v_eqI (show _ = (-1 : Int32) from rfl) ?_
                    refine v_istore_n hX (Nat.le_of_ble_eq_true rfl) rfl (ls' := [some _, some _, some _, some _]) rfl qX12_taken_47 ?_
                    refine v_goto hX 33 qX12_taken_48 rfl ?_
                    refine v_iload_n hX rfl qX12_taken_33 ?_
                    refine v_iconst hX li_n1 qX12_taken_34 ?_
                    refine v_icmp_eq hX 51 qX12_taken_35 rfl (fun q35 => ?_) (fun q35 => ?_)
                    · skip
                      refine v_iload_n hX rfl qX12_taken_51 ?_
                      refine v_iload_n hX rfl qX12_taken_52 ?_
                      refine v_icmp_ne hX 65 qX12_taken_53 rfl (fun q53 => ?_) (fun q53 => ?_)
                      · skip
                        refine v_bipush hX lb_n13 qX12_taken_65 ?_
                        refine v_ireturn hX qX12_taken_67 (hP _ _ ?_)
                        refine ⟨?_, rfl⟩
                        rw [takenI, if_pos q9, if_pos q20, tn_nI (show l < 2000000 by omega), tn_nI (show k < 2000000 by omega), if_neg]
                        rw [hk0]
                        have hk6 : k = 0 ∨ k = 1 ∨ k = 2 ∨ k = 3 ∨ k = 4 ∨ k = 5 := by omega
                        rcases hk6 with rfl | rfl | rfl | rfl | rfl | rfl <;> first | decide | (exfalso; omega)
                      · exact absurd q53.symm (nI_ne1 (by omega))
                    · exact absurd rfl q35
    · skip
      refine v_bipush hX lb_n11 qX12_taken_23 ?_
      refine v_ireturn hX qX12_taken_25 (hP _ _ ?_)
      exact ⟨by rw [takenI, if_pos q9, if_neg q20], rfl⟩
  · skip
    refine v_bipush hX lb_n2 qX12_taken_12 ?_
    refine v_ireturn hX qX12_taken_14 (hP _ _ ?_)
    exact ⟨by rw [takenI, if_neg q9], rfl⟩
