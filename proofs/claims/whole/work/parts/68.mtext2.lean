/-! text() of the reference -/
theorem rdOK {by' : Nat → Int32} {sz : Nat} (hs160 : sz ≤ 160) (hpos : ∀ k, k < sz → 0 ≤ by' k) {a : (List Int32 × ((Nat → Int32) → Int32)) × (List Int32 × ((Nat → Int32) → Int32)) × (List Int32 × ((Nat → Int32) → Int32))} (hr : tTxt by' sz = .inr a) : RdOK by' sz (tvR (.inr a)) := by
  intro G h t w env hm ht6 h39 h40 hw he
  refine m_read hm ht6 hs160 hpos h39 h40 hw he (fun r h' z => ?_)
  obtain ⟨σ, J, x, h1, h2, h3, h4⟩ := z
  rw [hr] at h4
  exact ⟨by rw [h1, h4.2], σ, J, h2, h3.r⟩
/-- what text answers, and the state behind it -/
def textR (E : Sst) : TxR → Int32 × Sst
  | .inl f => (-100 - nI (pl (sY E) (sZ E) f), setY E 0 (sY E))
  | .inr a => (nI (sC E), setT (setY E 0 (sY E)) (sC E + 1) (fun t => if t = sC E then tvR (.inr a) else sT E t))
def textI (E : Sst) : Int32 × Sst := if sC E = 6 then (-4, E) else textR E (tTxt (sY E) (sZ E))
theorem BeOK.mono {b : Bch} {c c' : Nat} (h : BeOK b c) (hc : c ≤ c') : BeOK b c' := by
  obtain ⟨h1, h2, h3, h4, h5, r, h6, h7⟩ := h
  exact ⟨h1, h2, h3, h4, h5, r, by omega, h7⟩
theorem EOK.tape0 {E : Sst} (h : EOK E) : EOK (setY E 0 (sY E)) := ⟨h.1, h.2.1, h.2.2.1, h.2.2.2.1, h.2.2.2.2.1, Nat.zero_le _, fun i hi => absurd hi (Nat.not_lt_zero i), h.2.2.2.2.2.2.2⟩
theorem EOK.txt {E : Sst} (h : EOK E) (hc : sC E < 6) (T : TVt) : EOK (setT (setY E 0 (sY E)) (sC E + 1) T) := ⟨hc, h.2.1, h.2.2.1, h.2.2.2.1.mono (Nat.le_succ _), fun b hb => (h.2.2.2.2.1 b hb).mono (Nat.le_succ _), Nat.zero_le _, fun i hi => absurd hi (Nat.not_lt_zero i), h.2.2.2.2.2.2.2⟩
/-- what text changes -/
def FrTx (h : AHp) (c : Nat) (σ : Nat → Nat → Int32) : Prop := ∀ a k, ¬ (a = 39 ∧ 160 * c ≤ k ∧ k < 160 * c + 160) → ¬ (a = 40 ∧ k = c) → ¬ (a = 38 ∧ (k = 3 ∨ k = 6 ∨ (21 ≤ k ∧ k ≤ 29))) → σ a k = hpI h a k
theorem FrTx.k {h : AHp} {c : Nat} {σ : Nat → Nat → Int32} (hf : FrTx h c σ) : K58 h σ := fun a ha => funext fun k => hf a k (by omega) (by omega) (by omega)
theorem MW.txt {h : AHp} {E : Sst} (hc : MW h E) {σ : Nat → Nat → Int32} {J : Nat → Nat → Int64} (hf : FrTx h (sC E) σ) (h6 : σ 38 6 = 0) {c : Nat} {T : TVt} (h3 : σ 38 3 = nI c) (hT : ∀ t, t < c → (t < sC E ∧ T t = sT E t) ∨ ∃ by' sz, sz ≤ 160 ∧ (∀ i, i < sz → σ 39 (160 * t + i) = by' i) ∧ σ 40 t = nI sz ∧ RdOK by' sz (T t)) (hok : EOK (setT (setY E 0 (sY E)) c T)) : MW (mkH h σ J) (setT (setY E 0 (sY E)) c T) := by
  obtain ⟨z1, z2, z3, z4, z5, z6, z7, z8⟩ := hc
  refine ⟨z1, ⟨h3, fun t ht => ?_⟩, z3.ext (hf 38 14 (by omega) (by omega) (by omega)) (fun i => hf 44 i (by omega) (by omega) (by omega)) (fun i => hf 45 i (by omega) (by omega) (by omega)), (bm_ext (h := mkH h σ J) (h' := h) (fun k _ => hf 42 k (by omega) (by omega) (by omega)) (fun k _ => hf 43 k (by omega) (by omega) (by omega)) (hf 38 9 (by omega) (by omega) (by omega)) (hf 38 10 (by omega) (by omega) (by omega)) (hf 38 11 (by omega) (by omega) (by omega)) (hf 38 4 (by omega) (by omega) (by omega))).trans z4, ?_, ⟨h6, fun i hi => absurd hi (Nat.not_lt_zero i)⟩, fun i hi => ?_, hok⟩
  · rcases hT t ht with ⟨h1, h2⟩ | h1
    · obtain ⟨b, sz, g1, g2, g3, g4⟩ := z2.2 t h1
      have hc6 := z8.1
      exact ⟨b, sz, g1, fun i hi => (hf 39 (160 * t + i) (by omega) (by omega) (by omega)).trans (g2 i hi), (hf 40 t (by omega) (by omega) (by omega)).trans g3, by rw [show sT (setT (setY E 0 (sY E)) c T) t = T t from rfl, h2]; exact g4⟩
    · exact h1
  · rcases z5 with ⟨w1, w2⟩ | ⟨b, w1, w2, w3, w4, w5, w6, w7⟩
    · exact Or.inl ⟨w1, (hf 38 46 (by omega) (by omega) (by omega)).trans w2⟩
    · exact Or.inr ⟨b, w1, fun k hk => ⟨(hf 52 k (by omega) (by omega) (by omega)).trans (w2 k hk).1, (hf 53 k (by omega) (by omega) (by omega)).trans (w2 k hk).2⟩, (hf 38 46 (by omega) (by omega) (by omega)).trans w3, (hf 38 47 (by omega) (by omega) (by omega)).trans w4, (hf 38 48 (by omega) (by omega) (by omega)).trans w5, (hf 38 49 (by omega) (by omega) (by omega)).trans w6, w7⟩
  · obtain ⟨g1, g2⟩ := z7 i hi
    exact ⟨(hf 54 i (by omega) (by omega) (by omega)).trans g1, fun z => ⟨(hf 55 i (by omega) (by omega) (by omega)).trans (g2 z).1, (hf 56 i (by omega) (by omega) (by omega)).trans (g2 z).2.1, fun k hk => (hf 57 _ (by omega) (by omega) (by omega)).trans ((g2 z).2.2 k hk)⟩⟩
theorem qX12_text_0 : Dq cX12_text 0 (.aload_n 0) 1 1 := ⟨by decide +kernel, rfl⟩
theorem qX12_text_1 : Dq cX12_text 1 (.getfield 82) 3 4 := ⟨by decide +kernel, rfl⟩
theorem qX12_text_4 : Dq cX12_text 4 (.bipush 6) 2 6 := ⟨by decide +kernel, rfl⟩
theorem qX12_text_6 : Dq cX12_text 6 (.if_icmp .ne 6) 3 9 := ⟨by decide +kernel, rfl⟩
theorem qX12_text_9 : Dq cX12_text 9 (.bipush (-4)) 2 11 := ⟨by decide +kernel, rfl⟩
theorem qX12_text_11 : Dq cX12_text 11 (.ireturn) 1 12 := ⟨by decide +kernel, rfl⟩
theorem qX12_text_12 : Dq cX12_text 12 (.iconst 0) 1 13 := ⟨by decide +kernel, rfl⟩
theorem qX12_text_13 : Dq cX12_text 13 (.istore_n 1) 1 14 := ⟨by decide +kernel, rfl⟩
theorem qX12_text_14 : Dq cX12_text 14 (.iload_n 1) 1 15 := ⟨by decide +kernel, rfl⟩
theorem qX12_text_15 : Dq cX12_text 15 (.aload_n 0) 1 16 := ⟨by decide +kernel, rfl⟩
theorem qX12_text_16 : Dq cX12_text 16 (.getfield 120) 3 19 := ⟨by decide +kernel, rfl⟩
theorem qX12_text_19 : Dq cX12_text 19 (.if_icmp .ge 30) 3 22 := ⟨by decide +kernel, rfl⟩
theorem qX12_text_22 : Dq cX12_text 22 (.aload_n 0) 1 23 := ⟨by decide +kernel, rfl⟩
theorem qX12_text_23 : Dq cX12_text 23 (.getfield 13) 3 26 := ⟨by decide +kernel, rfl⟩
theorem qX12_text_26 : Dq cX12_text 26 (.sipush 160) 3 29 := ⟨by decide +kernel, rfl⟩
theorem qX12_text_29 : Dq cX12_text 29 (.aload_n 0) 1 30 := ⟨by decide +kernel, rfl⟩
theorem qX12_text_30 : Dq cX12_text 30 (.getfield 82) 3 33 := ⟨by decide +kernel, rfl⟩
theorem qX12_text_33 : Dq cX12_text 33 (.imul) 1 34 := ⟨by decide +kernel, rfl⟩
theorem qX12_text_34 : Dq cX12_text 34 (.iload_n 1) 1 35 := ⟨by decide +kernel, rfl⟩
theorem qX12_text_35 : Dq cX12_text 35 (.iadd) 1 36 := ⟨by decide +kernel, rfl⟩
theorem qX12_text_36 : Dq cX12_text 36 (.aload_n 0) 1 37 := ⟨by decide +kernel, rfl⟩
theorem qX12_text_37 : Dq cX12_text 37 (.getfield 20) 3 40 := ⟨by decide +kernel, rfl⟩
theorem qX12_text_40 : Dq cX12_text 40 (.iload_n 1) 1 41 := ⟨by decide +kernel, rfl⟩
theorem qX12_text_41 : Dq cX12_text 41 (.iaload) 1 42 := ⟨by decide +kernel, rfl⟩
theorem qX12_text_42 : Dq cX12_text 42 (.iastore) 1 43 := ⟨by decide +kernel, rfl⟩
theorem qX12_text_43 : Dq cX12_text 43 (.iinc 1 1) 3 46 := ⟨by decide +kernel, rfl⟩
theorem qX12_text_46 : Dq cX12_text 46 (.goto (-32)) 3 49 := ⟨by decide +kernel, rfl⟩
theorem qX12_text_49 : Dq cX12_text 49 (.aload_n 0) 1 50 := ⟨by decide +kernel, rfl⟩
theorem qX12_text_50 : Dq cX12_text 50 (.getfield 17) 3 53 := ⟨by decide +kernel, rfl⟩
theorem qX12_text_53 : Dq cX12_text 53 (.aload_n 0) 1 54 := ⟨by decide +kernel, rfl⟩
theorem qX12_text_54 : Dq cX12_text 54 (.getfield 82) 3 57 := ⟨by decide +kernel, rfl⟩
theorem qX12_text_57 : Dq cX12_text 57 (.aload_n 0) 1 58 := ⟨by decide +kernel, rfl⟩
theorem qX12_text_58 : Dq cX12_text 58 (.getfield 120) 3 61 := ⟨by decide +kernel, rfl⟩
theorem qX12_text_61 : Dq cX12_text 61 (.iastore) 1 62 := ⟨by decide +kernel, rfl⟩
theorem qX12_text_62 : Dq cX12_text 62 (.aload_n 0) 1 63 := ⟨by decide +kernel, rfl⟩
theorem qX12_text_63 : Dq cX12_text 63 (.iconst 0) 1 64 := ⟨by decide +kernel, rfl⟩
theorem qX12_text_64 : Dq cX12_text 64 (.putfield 120) 3 67 := ⟨by decide +kernel, rfl⟩
theorem qX12_text_67 : Dq cX12_text 67 (.aload_n 0) 1 68 := ⟨by decide +kernel, rfl⟩
theorem qX12_text_68 : Dq cX12_text 68 (.aload_n 0) 1 69 := ⟨by decide +kernel, rfl⟩
theorem qX12_text_69 : Dq cX12_text 69 (.getfield 82) 3 72 := ⟨by decide +kernel, rfl⟩
theorem qX12_text_72 : Dq cX12_text 72 (.iconst 0) 1 73 := ⟨by decide +kernel, rfl⟩
theorem qX12_text_73 : Dq cX12_text 73 (.invokevirtual 235) 3 76 := ⟨by decide +kernel, rfl⟩
theorem qX12_text_76 : Dq cX12_text 76 (.istore_n 1) 1 77 := ⟨by decide +kernel, rfl⟩
theorem qX12_text_77 : Dq cX12_text 77 (.aload_n 0) 1 78 := ⟨by decide +kernel, rfl⟩
theorem qX12_text_78 : Dq cX12_text 78 (.getfield 156) 3 81 := ⟨by decide +kernel, rfl⟩
theorem qX12_text_81 : Dq cX12_text 81 (.ifCond .eq 11) 3 84 := ⟨by decide +kernel, rfl⟩
theorem qX12_text_84 : Dq cX12_text 84 (.bipush (-100)) 2 86 := ⟨by decide +kernel, rfl⟩
theorem qX12_text_86 : Dq cX12_text 86 (.aload_n 0) 1 87 := ⟨by decide +kernel, rfl⟩
theorem qX12_text_87 : Dq cX12_text 87 (.getfield 160) 3 90 := ⟨by decide +kernel, rfl⟩
theorem qX12_text_90 : Dq cX12_text 90 (.isub) 1 91 := ⟨by decide +kernel, rfl⟩
theorem qX12_text_91 : Dq cX12_text 91 (.ireturn) 1 92 := ⟨by decide +kernel, rfl⟩
theorem qX12_text_92 : Dq cX12_text 92 (.aload_n 0) 1 93 := ⟨by decide +kernel, rfl⟩
theorem qX12_text_93 : Dq cX12_text 93 (.dup) 1 94 := ⟨by decide +kernel, rfl⟩
theorem qX12_text_94 : Dq cX12_text 94 (.getfield 82) 3 97 := ⟨by decide +kernel, rfl⟩
theorem qX12_text_97 : Dq cX12_text 97 (.iconst 1) 1 98 := ⟨by decide +kernel, rfl⟩
theorem qX12_text_98 : Dq cX12_text 98 (.iadd) 1 99 := ⟨by decide +kernel, rfl⟩
theorem qX12_text_99 : Dq cX12_text 99 (.putfield 82) 3 102 := ⟨by decide +kernel, rfl⟩
theorem qX12_text_102 : Dq cX12_text 102 (.aload_n 0) 1 103 := ⟨by decide +kernel, rfl⟩
theorem qX12_text_103 : Dq cX12_text 103 (.getfield 82) 3 106 := ⟨by decide +kernel, rfl⟩
theorem qX12_text_106 : Dq cX12_text 106 (.iconst 1) 1 107 := ⟨by decide +kernel, rfl⟩
theorem qX12_text_107 : Dq cX12_text 107 (.isub) 1 108 := ⟨by decide +kernel, rfl⟩
theorem qX12_text_108 : Dq cX12_text 108 (.ireturn) 1 109 := ⟨by decide +kernel, rfl⟩
set_option maxRecDepth 100000 in
set_option maxHeartbeats 4000000 in
theorem m_text {G : Glb} {h : AHp} {E : Sst} (hc : MW h E)  : CP G m_X12_text 61 0 0 [.ref 38] h (fun r h' => r = some (.int (textI E).1) ∧ ∃ σ J, h' = mkH h σ J ∧ MW (mkH h σ J) (textI E).2 ∧ K58 h σ) := by
  suffices key : ∀ P : Option Value → AHp → Prop, (∀ r h', (r = some (.int (textI E).1) ∧ ∃ σ J, h' = mkH h σ J ∧ MW (mkH h σ J) (textI E).2 ∧ K58 h σ) → P r h') → CP G m_X12_text 61 0 0 [.ref 38] h P from key _ (fun _ _ z => z)
  intro P hP
  obtain ⟨hm, htx, hp, hb, hkp, htp, hst, hok⟩ := id hc
  have hc6 := hok.1
  have hm6 := hok.2.1
  have hkd : ∀ i, i < sM E → sK E i < 6 := fun i hi => (hok.2.2.1 i hi).1
  have hnu : ∀ i, i < sM E → inR (sN E i) 9 := fun i hi => (hok.2.2.1 i hi).2
  have hbe : BeOK (bm h) (sC E) := by rw [hb]; exact hok.2.2.2.1
  have hz160 := hok.2.2.2.2.2.1
  have hpos : ∀ k, k < sZ E → 0 ≤ sY E k := fun k hk => leI.mpr (hok.2.2.2.2.2.2.1 k hk).1
  refine CP.of (by decide +kernel) (Nat.le_of_ble_eq_true rfl) fun X hX hR hnm => ?_
  show V X G 2 0 0 _ 0 [some (.ref 38), none] [] h
  refine v_aload_n hX rfl qX12_text_0 ?_
  refine v_getIv hX g_X12_82 (Or.inl rfl) (hm.kd 38 rfl) htx.1 qX12_text_1 ?_
  refine v_bipush hX lb_6 qX12_text_4 ?_
  refine v_icmp_ne hX 12 qX12_text_6 rfl (fun q6 => ?_) (fun q6 => ?_)
  · have hl : sC E < 6 := by
      rcases Nat.lt_or_ge (sC E) 6 with z | z
      · exact z
      · exact absurd (show nI (sC E) = 6 by rw [show sC E = 6 by omega]; rfl) q6
    refine v_iconst hX li_0 qX12_text_12 ?_
    refine v_istore_n hX (Nat.le_of_ble_eq_true rfl) rfl (ls' := [some _, some _]) rfl qX12_text_13 ?_
    have L14 : ∀ (mz : Nat) (i : Nat) (σ : Nat → Nat → Int32), sZ E - i = mz → (i ≤ sZ E) → (∀ a k, ¬ (a = 39 ∧ 160 * sC E ≤ k ∧ k < 160 * sC E + 160) → σ a k = hpI h a k) → (∀ k, k < i → σ 39 (160 * sC E + k) = sY E k) → V X G 2 0 0 (QM X G P 0 0) 14 [some (.ref 38), some (.int (nI i))] [] (mkH h σ h.2.2.1) := by
      intro mz
      induction mz using Nat.strongRecOn with
      | _ mz ih =>
      intro i σ hmz hi hf h0
      refine v_iload_n hX rfl qX12_text_14 ?_
      refine v_aload_n hX rfl qX12_text_15 ?_
      refine v_getIv hX g_X12_120 (Or.inl rfl) (hm.kd 38 rfl) (show _ = nI (sZ E) from (hf 38 6 (by omega)).trans htp.1) qX12_text_16 ?_
      refine v_icmp_geS hX 49 qX12_text_19 rfl (fun q19 => ?_) (fun q19 => ?_)
      · have e1 : i = sZ E := Nat.le_antisymm hi (nI_le' (by omega) (by omega) q19)
        refine v_aload_n hX rfl qX12_text_49 ?_
        refine v_getR hX g_X12_17 (hm.kd 38 rfl) (hm.rf 1 rfl) qX12_text_50 ?_
        refine v_aload_n hX rfl qX12_text_53 ?_
        refine v_getIv hX g_X12_82 (Or.inl rfl) (hm.kd 38 rfl) (show _ = nI (sC E) from (hf 38 3 (by omega)).trans htx.1) qX12_text_54 ?_
        refine v_aload_n hX rfl qX12_text_57 ?_
        refine v_getIv hX g_X12_120 (Or.inl rfl) (hm.kd 38 rfl) (show _ = nI (sZ E) from (hf 38 6 (by omega)).trans htp.1) qX12_text_58 ?_
        refine v_iastJ hX (hm.kd 40 rfl) (hm.ln 40 rfl) (by exact ix_n (n := sC E) (by omega) rfl) qX12_text_61 ?_
        refine v_aload_n hX rfl qX12_text_62 ?_
        refine v_iconst hX li_0 qX12_text_63 ?_
        refine v_putI hX p_X12_120 (hm.kd 38 rfl) (Or.inl rfl) qX12_text_64 ?_
        refine v_aload_n hX rfl qX12_text_67 ?_
        refine v_aload_n hX rfl qX12_text_68 ?_
        refine v_getIv hX g_X12_82 (Or.inl rfl) (hm.kd 38 rfl) (show _ = nI (sC E) from (hf 38 3 (by omega)).trans htx.1) qX12_text_69 ?_
        refine v_iconst hX li_0 qX12_text_72 ?_
        refine v_callVq hX hR k_X12_235 (hm.kd 38 rfl) (m_read (by' := sY E) (sz := sZ E) (t := sC E) (w := 0) (h := (stI (stI (mkH h σ h.2.2.1) 40 (sC E) (nI (sZ E))) 38 6 0)) (by exact hm) (by exact hl) (by exact hz160) (by exact hpos) (by exact (fun k hk => h0 k (by omega))) (by rw [hpI_st, if_neg (by omega), hpI_st, if_pos ⟨rfl, rfl⟩]) (by omega) (env := fun k => hpI (stI (stI (mkH h σ h.2.2.1) 40 (sC E) (nI (sZ E))) 38 6 0) 38 (15 + k)) (by exact (fun _ _ => rfl)) (by exact (fun _ _ z => z))) rfl (Nat.le_of_ble_eq_true rfl) rfl (Nat.le_of_ble_eq_true rfl) ⟨Nat.le_of_ble_eq_true rfl, Nat.le_of_ble_eq_true rfl⟩ qX12_text_73 ?_
        rintro _ _ ⟨σ1, J1, x1, rfl, rfl, hf1, hp1⟩
        have hfx : ∀ a k, ¬ (a = 39 ∧ 160 * sC E ≤ k ∧ k < 160 * sC E + 160) → ¬ (a = 40 ∧ k = sC E) → ¬ (a = 38 ∧ (k = 6 ∨ (21 ≤ k ∧ k ≤ 29))) → σ1 a k = hpI h a k := fun a k a1 a2 a3 => (hf1.1 a k (by omega)).trans (by rw [hpI_st, if_neg (by omega), hpI_st, if_neg (by omega)]; exact hf a k a1)
        have h16 : σ1 38 6 = 0 := (hf1.1 38 6 (by omega)).trans (by rw [hpI_st, if_pos ⟨rfl, rfl⟩])
        have h13 : σ1 38 3 = nI (sC E) := (hfx 38 3 (by omega) (by omega) (by omega)).trans htx.1
        refine v_istore_n hX (Nat.le_of_ble_eq_true rfl) rfl (ls' := [some _, some _]) rfl qX12_text_76 ?_
        rcases e1 : tTxt (sY E) (sZ E) with g | r
        · rw [e1] at hp1
          refine v_aload_n hX rfl qX12_text_77 ?_
          refine v_getIv hX g_X12_156 (Or.inr rfl) (hm.kd 38 rfl) (show _ = 1 from hp1.1) qX12_text_78 ?_
          first | refine v_if_eqB hX 92 qX12_text_81 rfl (fun q81 => ?_) (fun q81 => ?_) | refine v_if_eq hX 92 qX12_text_81 rfl (fun q81 => ?_) (fun q81 => ?_)
          · exact absurd q81 (by decide)
          · skip
            refine v_bipush hX lb_n100 qX12_text_84 ?_
            refine v_aload_n hX rfl qX12_text_86 ?_
            refine v_getIv hX g_X12_160 (Or.inl rfl) (hm.kd 38 rfl) (show _ = nI (pl (sY E) (sZ E) g) from hp1.2) qX12_text_87 ?_
            refine v_isub hX qX12_text_90 ?_
            refine v_ireturn hX qX12_text_91 (hP _ _ ?_)
            rw [textI, if_neg (by omega), e1]
            exact ⟨rfl, σ1, J1, rfl, hc.txt (c := sC E) (T := sT E) (fun a k a1 a2 a3 => hfx a k a1 a2 (by omega)) h16 h13 (fun t ht => Or.inl ⟨ht, rfl⟩) hok.tape0, fun a ha => funext fun k => hfx a k (by omega) (by omega) (by omega)⟩
        · rw [e1] at hp1
          refine v_aload_n hX rfl qX12_text_77 ?_
          refine v_getIv hX g_X12_156 (Or.inr rfl) (hm.kd 38 rfl) (show _ = 0 from hp1.1) qX12_text_78 ?_
          first | refine v_if_eqB hX 92 qX12_text_81 rfl (fun q81 => ?_) (fun q81 => ?_) | refine v_if_eq hX 92 qX12_text_81 rfl (fun q81 => ?_) (fun q81 => ?_)
          · skip
            refine v_aload_n hX rfl qX12_text_92 ?_
            refine v_dup hX rfl qX12_text_93 ?_
            refine v_getIv hX g_X12_82 (Or.inl rfl) (hm.kd 38 rfl) (show _ = nI (sC E) from h13) qX12_text_94 ?_
            refine v_iconst hX li_1 qX12_text_97 ?_
            refine v_iadd hX qX12_text_98 ?_
            refine v_eqI (nI_1 _) ?_
            refine v_putI hX p_X12_82 (hm.kd 38 rfl) (Or.inl rfl) qX12_text_99 ?_
            refine v_aload_n hX rfl qX12_text_102 ?_
            refine v_getIv hX g_X12_82 (Or.inl rfl) (hm.kd 38 rfl) (show _ = nI (sC E + 1) from rfl) qX12_text_103 ?_
            refine v_iconst hX li_1 qX12_text_106 ?_
            refine v_isub hX qX12_text_107 ?_
            refine v_eqI (nI_pred _) ?_
            refine v_ireturn hX qX12_text_108 (hP _ _ ?_)
            rw [textI, if_neg (by omega), e1]
            exact ⟨rfl, (stI (mkH h σ1 J1) 38 3 (nI (sC E + 1))).1, J1, rfl, hc.txt (σ := (stI (mkH h σ1 J1) 38 3 (nI (sC E + 1))).1) (J := J1) (c := sC E + 1) (T := fun t => if t = sC E then tvR (.inr r) else sT E t) (fun a k a1 a2 a3 => by show hpI (stI _ _ _ _) _ _ = _; rw [hpI_st, if_neg (by omega)]; exact hfx a k a1 a2 (by omega)) h16 rfl (fun t ht => by
              by_cases e : t = sC E
              · refine Or.inr ⟨sY E, sZ E, hz160, fun i hi => ?_, ?_, ?_⟩
                · rw [e]; exact (hf1.1 39 (160 * sC E + i) (by omega)).trans (h0 i (by omega))
                · rw [e]; exact (hf1.1 40 (sC E) (by omega)).trans (by rw [hpI_st, if_neg (by omega), hpI_st, if_pos ⟨rfl, rfl⟩])
                · show RdOK (sY E) (sZ E) (if t = sC E then tvR (.inr r) else sT E t)
                  rw [if_pos e]; exact rdOK hz160 hpos e1
              · exact Or.inl ⟨by omega, if_neg e⟩) (hok.txt hl _), fun a ha => funext fun k => by show hpI (stI _ _ _ _) _ _ = _; rw [hpI_st, if_neg (by omega)]; exact hfx a k (by omega) (by omega) (by omega)⟩
          · exact absurd rfl q81
      · have hl_ := nI_lt' (by omega) (by omega) q19
        refine v_aload_n hX rfl qX12_text_22 ?_
        refine v_getR hX g_X12_13 (hm.kd 38 rfl) (hm.rf 0 rfl) qX12_text_23 ?_
        refine v_sipush hX ls_160 qX12_text_26 ?_
        refine v_aload_n hX rfl qX12_text_29 ?_
        refine v_getIv hX g_X12_82 (Or.inl rfl) (hm.kd 38 rfl) (show _ = nI (sC E) from (hf 38 3 (by omega)).trans htx.1) qX12_text_30 ?_
        refine v_imul hX qX12_text_33 ?_
        refine v_iload_n hX rfl qX12_text_34 ?_
        refine v_iadd hX qX12_text_35 ?_
        refine v_eqI (show _ = nI (160 * sC E + i) by rw [show (160 : Int32) = nI 160 from rfl, pk_mul, nI_add]) ?_
        refine v_aload_n hX rfl qX12_text_36 ?_
        refine v_getR hX g_X12_20 (hm.kd 38 rfl) (hm.rf 2 rfl) qX12_text_37 ?_
        refine v_iload_n hX rfl qX12_text_40 ?_
        refine v_ialdV hX (hm.kd 41 rfl) (hm.ln 41 rfl) (by exact ix_n (n := i) (by omega) rfl) (show _ = sY E i from (hf 41 i (by omega)).trans (htp.2 i hl_)) qX12_text_41 ?_
        refine v_iastJ hX (hm.kd 39 rfl) (hm.ln 39 rfl) (by exact ix_n (n := 160 * sC E + i) (by omega) rfl) qX12_text_42 ?_
        refine v_iinc hX rfl (by first | exact ii_nI _ | exact ii_1 _) (Nat.le_of_ble_eq_true rfl) rfl (ls' := [some _, some _]) rfl qX12_text_43 ?_
        refine v_goto hX 14 qX12_text_46 rfl ?_
        exact ih _ (by omega) (i + 1) (stI (mkH h σ h.2.2.1) 39 (160 * sC E + i) (sY E i)).1 rfl (by omega) (fun a k a1 => by show hpI (stI _ _ _ _) _ _ = _; rw [hpI_st, if_neg (by omega)]; exact hf a k a1) (fun k hk => by
          show hpI (stI _ _ _ _) _ _ = _
          rw [hpI_st]
          by_cases e : k = i
          · rw [if_pos ⟨rfl, by omega⟩, e]
          · rw [if_neg (by omega)]; exact h0 k (by omega))
    exact L14 _ 0 h.1 rfl (by omega) (fun _ _ _ => rfl) (fun k hk => absurd hk (by omega))
  · have hl : sC E = 6 := (nI_eq (a := sC E) (b := 6) (by omega) (by omega)).mp q6
    refine v_bipush hX lb_n4 qX12_text_9 ?_
    refine v_ireturn hX qX12_text_11 (hP _ _ ?_)
    rw [textI, if_pos hl]
    exact ⟨rfl, h.1, h.2.2.1, rfl, hc, fun a _ => rfl⟩
