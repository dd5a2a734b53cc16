/-! the reference: what it tells of cells and lookers -/
theorem FrR.tr {h : AHp} {σ σ' : Nat → Nat → Int32} {J J' : Nat → Nat → Int64} (a : FrR h σ J) (b : FrR (mkH h σ J) σ' J') : FrR h σ' J' := ⟨fun x k hk => (b.1 x k hk).trans (a.1 x k hk), fun x hx => (b.2 x hx).trans (a.2 x hx)⟩
theorem FrR.tx {h : AHp} {σ : Nat → Nat → Int32} {J : Nat → Nat → Int64} (hf : FrR h σ J) {cnt : Nat} {TV : TVt} (ht : TxM h cnt TV) : TxM (mkH h σ J) cnt TV := ht.fr (hf.1 38 3 (by omega)) (funext fun k => hf.1 39 k (by omega)) (funext fun k => hf.1 40 k (by omega))
theorem FrR.bm {h : AHp} {σ : Nat → Nat → Int32} {J : Nat → Nat → Int64} (hf : FrR h σ J) : bm (mkH h σ J) = bm h := bm_ext (fun k _ => hf.1 42 k (by omega)) (fun k _ => hf.1 43 k (by omega)) (hf.1 38 9 (by omega)) (hf.1 38 10 (by omega)) (hf.1 38 11 (by omega)) (hf.1 38 4 (by omega))
theorem FrR.pt {h : AHp} {σ : Nat → Nat → Int32} {J : Nat → Nat → Int64} (hf : FrR h σ J) {m : Nat} {kd : Nat → Nat} {nu : Nat → Int32} (hp : PtM h m kd nu) : PtM (mkH h σ J) m kd nu := ⟨(hf.1 38 14 (by omega)).trans hp.1, fun i hi => ⟨(hf.1 44 i (by omega)).trans (hp.2 i hi).1, (hf.1 45 i (by omega)).trans (hp.2 i hi).2⟩⟩
theorem FrR.rf (h : AHp) : FrR h h.1 h.2.2.1 := ⟨fun _ _ _ => rfl, fun _ _ => rfl⟩
section MW2
variable {TV : TVt} {h : AHp} {q : Nat}
theorem dpM_eq (hq : q < 48) : dpB TV (bm h) q = dpI TV (rlB (bm h)) (nI q) (hpI h 43 q) (hpI h 38 10) := by unfold dpB; rw [bm2 hq, bmH]
theorem seM_eq (hq : q < 48) : seB TV (bm h) q = seI TV (rlB (bm h)) (nI q) (hpI h 43 q) (hpI h 38 10) := by unfold seB; rw [bm2 hq, bmH]
theorem shM_eq (hq : q < 48) : shB TV (bm h) q = shI TV (rlB (bm h)) (nI q) (hpI h 43 q) (hpI h 38 10) := by unfold shB; rw [bm2 hq, bmH]
end MW2
theorem tk_eq {k : Nat} {nn : Int32} (hn : inR nn 9) : tkR k nn = tkB k nn := by
  obtain ⟨w, hw, rfl⟩ := hn.ex (by omega)
  have mx : ∀ j : Nat, 1 ≤ j → j ≤ 15 → nI j = mxI 1 (nI j) := fun j h1 h2 => by
    unfold mxI
    by_cases h : (1 : Int32) < nI j
    · rw [if_pos h]
    · rw [if_neg h]
      rw [show (1 : Int32) = nI 1 from rfl] at h ⊢
      rw [nI_ltI (by omega) (by omega)] at h
      rw [show j = 1 by omega]
  unfold tkB tkR
  split
  · exact mx 2 (by omega) (by omega)
  · exact mx 6 (by omega) (by omega)
  · rw [show (6 : Int32) = nI 6 from rfl, nI_add]; exact mx _ (by omega) (by omega)
  · exact mx 3 (by omega) (by omega)
  · exact mx 12 (by omega) (by omega)
  · rw [show (3 : Int32) = nI 3 from rfl, nI_add]; exact mx _ (by omega) (by omega)
theorem sm_eq {k : Nat} {nn : Int32} (hn : inR nn 9) : smR k nn = smB k nn := by
  obtain ⟨j, -, e1, e2⟩ := smR_in (k := k) hn
  rw [e1, e2]
theorem qX12_deep_0 : Dq cX12_deep 0 (.aload_n 0) 1 1 := ⟨by decide +kernel, rfl⟩
theorem qX12_deep_1 : Dq cX12_deep 1 (.iconst 0) 1 2 := ⟨by decide +kernel, rfl⟩
theorem qX12_deep_2 : Dq cX12_deep 2 (.iload_n 1) 1 3 := ⟨by decide +kernel, rfl⟩
theorem qX12_deep_3 : Dq cX12_deep 3 (.iconst 0) 1 4 := ⟨by decide +kernel, rfl⟩
theorem qX12_deep_4 : Dq cX12_deep 4 (.invokevirtual 242) 3 7 := ⟨by decide +kernel, rfl⟩
theorem qX12_deep_7 : Dq cX12_deep 7 (.iconst 0) 1 8 := ⟨by decide +kernel, rfl⟩
theorem qX12_deep_8 : Dq cX12_deep 8 (.bipush 99) 2 10 := ⟨by decide +kernel, rfl⟩
theorem qX12_deep_10 : Dq cX12_deep 10 (.invokestatic 246) 3 13 := ⟨by decide +kernel, rfl⟩
theorem qX12_deep_13 : Dq cX12_deep 13 (.ireturn) 1 14 := ⟨by decide +kernel, rfl⟩
set_option maxRecDepth 100000 in
set_option maxHeartbeats 4000000 in
theorem m_deep {G : Glb} {h : AHp} (hm : ShM h) {cnt : Nat} {TV : TVt} (htx : TxM h cnt TV) (hc6 : cnt ≤ 6) (hbe : BeOK (bm h) cnt) {q : Nat} (hq : q < 48)  : CP G m_X12_deep 62 0 0 [.ref 38, .int (nI q)] h (fun r h' => r = some (.int (dpB TV (bm h) q)) ∧ ∃ σ J, h' = mkH h σ J ∧ FrR h σ J) := by
  suffices key : ∀ P : Option Value → AHp → Prop, (∀ r h', (r = some (.int (dpB TV (bm h) q)) ∧ ∃ σ J, h' = mkH h σ J ∧ FrR h σ J) → P r h') → CP G m_X12_deep 62 0 0 [.ref 38, .int (nI q)] h P from key _ (fun _ _ z => z)
  intro P hP
  refine CP.of (by decide +kernel) (Nat.le_of_ble_eq_true rfl) fun X hX hR hnm => ?_
  show V X G 2 0 0 _ 0 [some (.ref 38), some (.int (nI q))] [] h
  obtain ⟨hrl, hrl5⟩ := hbe.rl hc6
  have hr5 : hpI h 38 4 = nI (rlB (bm h)) := hrl5
  have hh : inR (hpI h 38 10) 23 := hbe.2.2.2.1
  refine v_aload_n hX rfl qX12_deep_0 ?_
  refine v_iconst hX li_0 qX12_deep_1 ?_
  refine v_iload_n hX rfl qX12_deep_2 ?_
  refine v_iconst hX li_0 qX12_deep_3 ?_
  refine v_callVq hX hR k_X12_242 (hm.kd 38 rfl) (m_says (by exact hm) (by exact htx) (by exact hc6) (rl := rlB (bm h)) (by exact hrl) (by exact hr5) (by exact hq) (by exact hh) (w := 0) (by omega) (by exact 0)) rfl (Nat.le_of_ble_eq_true rfl) rfl (Nat.le_of_ble_eq_true rfl) ⟨Nat.le_of_ble_eq_true rfl, Nat.le_of_ble_eq_true rfl⟩ qX12_deep_4 ?_
  rintro _ _ ⟨rfl, σ, J, rfl, hf⟩
  refine v_iconst hX li_0 qX12_deep_7 ?_
  refine v_bipush hX lb_99 qX12_deep_8 ?_
  refine v_callSq hX hR k_X12_246 (m_within _ _ _) rfl (Nat.le_of_ble_eq_true rfl) rfl (Nat.le_of_ble_eq_true rfl) ⟨Nat.le_of_ble_eq_true rfl, Nat.le_of_ble_eq_true rfl⟩ qX12_deep_10 ?_
  rintro _ _ ⟨rfl, rfl⟩
  refine v_eqI (show _ = dpB TV (bm h) q by rw [dpM_eq hq, wi_bnd (by decide)]; rfl) ?_
  refine v_ireturn hX qX12_deep_13 (hP _ _ ?_)
  exact ⟨rfl, σ, J, rfl, hf⟩
theorem qX12_isUnder_0 : Dq cX12_isUnder 0 (.aload_n 0) 1 1 := ⟨by decide +kernel, rfl⟩
theorem qX12_isUnder_1 : Dq cX12_isUnder 1 (.iconst 1) 1 2 := ⟨by decide +kernel, rfl⟩
theorem qX12_isUnder_2 : Dq cX12_isUnder 2 (.iload_n 1) 1 3 := ⟨by decide +kernel, rfl⟩
theorem qX12_isUnder_3 : Dq cX12_isUnder 3 (.iconst 0) 1 4 := ⟨by decide +kernel, rfl⟩
theorem qX12_isUnder_4 : Dq cX12_isUnder 4 (.invokevirtual 242) 3 7 := ⟨by decide +kernel, rfl⟩
theorem qX12_isUnder_7 : Dq cX12_isUnder 7 (.ifCond .eq 7) 3 10 := ⟨by decide +kernel, rfl⟩
theorem qX12_isUnder_10 : Dq cX12_isUnder 10 (.iconst 1) 1 11 := ⟨by decide +kernel, rfl⟩
theorem qX12_isUnder_11 : Dq cX12_isUnder 11 (.goto 4) 3 14 := ⟨by decide +kernel, rfl⟩
theorem qX12_isUnder_14 : Dq cX12_isUnder 14 (.iconst 0) 1 15 := ⟨by decide +kernel, rfl⟩
theorem qX12_isUnder_15 : Dq cX12_isUnder 15 (.ireturn) 1 16 := ⟨by decide +kernel, rfl⟩
set_option maxRecDepth 100000 in
set_option maxHeartbeats 4000000 in
theorem m_isUnder {G : Glb} {h : AHp} (hm : ShM h) {cnt : Nat} {TV : TVt} (htx : TxM h cnt TV) (hc6 : cnt ≤ 6) (hbe : BeOK (bm h) cnt) {q : Nat} (hq : q < 48)  : CP G m_X12_isUnder 62 0 0 [.ref 38, .int (nI q)] h (fun r h' => r = some (.int (bz (¬ seB TV (bm h) q = 0))) ∧ ∃ σ J, h' = mkH h σ J ∧ FrR h σ J) := by
  suffices key : ∀ P : Option Value → AHp → Prop, (∀ r h', (r = some (.int (bz (¬ seB TV (bm h) q = 0))) ∧ ∃ σ J, h' = mkH h σ J ∧ FrR h σ J) → P r h') → CP G m_X12_isUnder 62 0 0 [.ref 38, .int (nI q)] h P from key _ (fun _ _ z => z)
  intro P hP
  refine CP.of (by decide +kernel) (Nat.le_of_ble_eq_true rfl) fun X hX hR hnm => ?_
  show V X G 2 0 0 _ 0 [some (.ref 38), some (.int (nI q))] [] h
  obtain ⟨hrl, hrl5⟩ := hbe.rl hc6
  have hr5 : hpI h 38 4 = nI (rlB (bm h)) := hrl5
  have hh : inR (hpI h 38 10) 23 := hbe.2.2.2.1
  refine v_aload_n hX rfl qX12_isUnder_0 ?_
  refine v_iconst hX li_1 qX12_isUnder_1 ?_
  refine v_iload_n hX rfl qX12_isUnder_2 ?_
  refine v_iconst hX li_0 qX12_isUnder_3 ?_
  refine v_callVq hX hR k_X12_242 (hm.kd 38 rfl) (m_says (by exact hm) (by exact htx) (by exact hc6) (rl := rlB (bm h)) (by exact hrl) (by exact hr5) (by exact hq) (by exact hh) (w := 1) (by omega) (by exact 0)) rfl (Nat.le_of_ble_eq_true rfl) rfl (Nat.le_of_ble_eq_true rfl) ⟨Nat.le_of_ble_eq_true rfl, Nat.le_of_ble_eq_true rfl⟩ qX12_isUnder_4 ?_
  rintro _ _ ⟨rfl, σ, J, rfl, hf⟩
  refine v_eqI (show _ = seB TV (bm h) q by rw [seM_eq hq]; rfl) ?_
  first | refine v_if_eqB hX 14 qX12_isUnder_7 rfl (fun q7 => ?_) (fun q7 => ?_) | refine v_if_eq hX 14 qX12_isUnder_7 rfl (fun q7 => ?_) (fun q7 => ?_)
  · skip
    refine v_iconst hX li_0 qX12_isUnder_14 ?_
    refine v_zreturn hX (by first | exact Or.inl rfl | exact Or.inr rfl | exact bz01 _) qX12_isUnder_15 (hP _ _ ?_)
    refine ⟨?_, σ, J, rfl, hf⟩
    first | exact rz (bz_f (fun z => z q7)) | exact rz (bz_t q7)
  · skip
    refine v_iconst hX li_1 qX12_isUnder_10 ?_
    refine v_goto hX 15 qX12_isUnder_11 rfl ?_
    refine v_zreturn hX (by first | exact Or.inl rfl | exact Or.inr rfl | exact bz01 _) qX12_isUnder_15 (hP _ _ ?_)
    refine ⟨?_, σ, J, rfl, hf⟩
    first | exact rz (bz_f (fun z => z q7)) | exact rz (bz_t q7)
theorem qX12_shine_0 : Dq cX12_shine 0 (.aload_n 0) 1 1 := ⟨by decide +kernel, rfl⟩
theorem qX12_shine_1 : Dq cX12_shine 1 (.iconst 2) 1 2 := ⟨by decide +kernel, rfl⟩
theorem qX12_shine_2 : Dq cX12_shine 2 (.iload_n 1) 1 3 := ⟨by decide +kernel, rfl⟩
theorem qX12_shine_3 : Dq cX12_shine 3 (.aload_n 0) 1 4 := ⟨by decide +kernel, rfl⟩
theorem qX12_shine_4 : Dq cX12_shine 4 (.iload_n 1) 1 5 := ⟨by decide +kernel, rfl⟩
theorem qX12_shine_5 : Dq cX12_shine 5 (.invokevirtual 249) 3 8 := ⟨by decide +kernel, rfl⟩
theorem qX12_shine_8 : Dq cX12_shine 8 (.invokevirtual 242) 3 11 := ⟨by decide +kernel, rfl⟩
theorem qX12_shine_11 : Dq cX12_shine 11 (.iconst 0) 1 12 := ⟨by decide +kernel, rfl⟩
theorem qX12_shine_12 : Dq cX12_shine 12 (.bipush 100) 2 14 := ⟨by decide +kernel, rfl⟩
theorem qX12_shine_14 : Dq cX12_shine 14 (.invokestatic 246) 3 17 := ⟨by decide +kernel, rfl⟩
theorem qX12_shine_17 : Dq cX12_shine 17 (.ireturn) 1 18 := ⟨by decide +kernel, rfl⟩
set_option maxRecDepth 100000 in
set_option maxHeartbeats 4000000 in
theorem m_shine {G : Glb} {h : AHp} (hm : ShM h) {cnt : Nat} {TV : TVt} (htx : TxM h cnt TV) (hc6 : cnt ≤ 6) (hbe : BeOK (bm h) cnt) {q : Nat} (hq : q < 48)  : CP G m_X12_shine 63 0 0 [.ref 38, .int (nI q)] h (fun r h' => r = some (.int (shB TV (bm h) q)) ∧ ∃ σ J, h' = mkH h σ J ∧ FrR h σ J) := by
  suffices key : ∀ P : Option Value → AHp → Prop, (∀ r h', (r = some (.int (shB TV (bm h) q)) ∧ ∃ σ J, h' = mkH h σ J ∧ FrR h σ J) → P r h') → CP G m_X12_shine 63 0 0 [.ref 38, .int (nI q)] h P from key _ (fun _ _ z => z)
  intro P hP
  refine CP.of (by decide +kernel) (Nat.le_of_ble_eq_true rfl) fun X hX hR hnm => ?_
  show V X G 2 0 0 _ 0 [some (.ref 38), some (.int (nI q))] [] h
  obtain ⟨hrl, hrl5⟩ := hbe.rl hc6
  have hr5 : hpI h 38 4 = nI (rlB (bm h)) := hrl5
  have hh : inR (hpI h 38 10) 23 := hbe.2.2.2.1
  refine v_aload_n hX rfl qX12_shine_0 ?_
  refine v_iconst hX li_2 qX12_shine_1 ?_
  refine v_iload_n hX rfl qX12_shine_2 ?_
  refine v_aload_n hX rfl qX12_shine_3 ?_
  refine v_iload_n hX rfl qX12_shine_4 ?_
  refine v_callVq hX hR k_X12_249 (hm.kd 38 rfl) (m_deep (by exact hm) (by exact htx) (by exact hc6) (by exact hbe) (by exact hq)) rfl (Nat.le_of_ble_eq_true rfl) rfl (Nat.le_of_ble_eq_true rfl) ⟨Nat.le_of_ble_eq_true rfl, Nat.le_of_ble_eq_true rfl⟩ qX12_shine_5 ?_
  rintro _ _ ⟨rfl, σ1, J1, rfl, hf1⟩
  refine v_callVq hX hR k_X12_242 (hm.kd 38 rfl) (m_says (by exact hm) (by exact (hf1.tx htx)) (by exact hc6) (rl := rlB (bm h)) (by exact hrl) (by exact ((hf1.1 38 4 (by omega)).trans hr5)) (by exact hq) (by rw [show hpI (mkH h σ1 J1) 38 10 = hpI h 38 10 from hf1.1 38 10 (by omega)]; exact hh) (w := 2) (by omega) _) rfl (Nat.le_of_ble_eq_true rfl) rfl (Nat.le_of_ble_eq_true rfl) ⟨Nat.le_of_ble_eq_true rfl, Nat.le_of_ble_eq_true rfl⟩ qX12_shine_8 ?_
  rintro _ _ ⟨rfl, σ, J, rfl, hf⟩
  refine v_iconst hX li_0 qX12_shine_11 ?_
  refine v_bipush hX lb_100 qX12_shine_12 ?_
  refine v_callSq hX hR k_X12_246 (m_within _ _ _) rfl (Nat.le_of_ble_eq_true rfl) rfl (Nat.le_of_ble_eq_true rfl) ⟨Nat.le_of_ble_eq_true rfl, Nat.le_of_ble_eq_true rfl⟩ qX12_shine_14 ?_
  rintro _ _ ⟨rfl, rfl⟩
  refine v_eqI (show _ = shB TV (bm h) q by
    rw [show hpI (mkH h σ1 J1) 43 q = hpI h 43 q from hf1.1 43 q (by omega), show hpI (mkH h σ1 J1) 38 10 = hpI h 38 10 from hf1.1 38 10 (by omega), shM_eq hq, wi_bnd (by decide), dpM_eq hq]; rfl) ?_
  refine v_ireturn hX qX12_shine_17 (hP _ _ ?_)
  exact ⟨rfl, σ, J, rfl, hf1.tr hf⟩
theorem qX12_finds_0 : Dq cX12_finds 0 (.aload_n 0) 1 1 := ⟨by decide +kernel, rfl⟩
theorem qX12_finds_1 : Dq cX12_finds 1 (.getfield 32) 3 4 := ⟨by decide +kernel, rfl⟩
theorem qX12_finds_4 : Dq cX12_finds 4 (.iload_n 1) 1 5 := ⟨by decide +kernel, rfl⟩
theorem qX12_finds_5 : Dq cX12_finds 5 (.iaload) 1 6 := ⟨by decide +kernel, rfl⟩
theorem qX12_finds_6 : Dq cX12_finds 6 (.istore 4) 2 8 := ⟨by decide +kernel, rfl⟩
theorem qX12_finds_8 : Dq cX12_finds 8 (.bipush 60) 2 10 := ⟨by decide +kernel, rfl⟩
theorem qX12_finds_10 : Dq cX12_finds 10 (.aload_n 0) 1 11 := ⟨by decide +kernel, rfl⟩
theorem qX12_finds_11 : Dq cX12_finds 11 (.getfield 35) 3 14 := ⟨by decide +kernel, rfl⟩
theorem qX12_finds_14 : Dq cX12_finds 14 (.iload_n 1) 1 15 := ⟨by decide +kernel, rfl⟩
theorem qX12_finds_15 : Dq cX12_finds 15 (.iaload) 1 16 := ⟨by decide +kernel, rfl⟩
theorem qX12_finds_16 : Dq cX12_finds 16 (.iadd) 1 17 := ⟨by decide +kernel, rfl⟩
theorem qX12_finds_17 : Dq cX12_finds 17 (.bipush 6) 2 19 := ⟨by decide +kernel, rfl⟩
theorem qX12_finds_19 : Dq cX12_finds 19 (.iload_n 2) 1 20 := ⟨by decide +kernel, rfl⟩
theorem qX12_finds_20 : Dq cX12_finds 20 (.imul) 1 21 := ⟨by decide +kernel, rfl⟩
theorem qX12_finds_21 : Dq cX12_finds 21 (.isub) 1 22 := ⟨by decide +kernel, rfl⟩
theorem qX12_finds_22 : Dq cX12_finds 22 (.istore 5) 2 24 := ⟨by decide +kernel, rfl⟩
theorem qX12_finds_24 : Dq cX12_finds 24 (.iload_n 3) 1 25 := ⟨by decide +kernel, rfl⟩
theorem qX12_finds_25 : Dq cX12_finds 25 (.bipush 20) 2 27 := ⟨by decide +kernel, rfl⟩
theorem qX12_finds_27 : Dq cX12_finds 27 (.iload_n 2) 1 28 := ⟨by decide +kernel, rfl⟩
theorem qX12_finds_28 : Dq cX12_finds 28 (.imul) 1 29 := ⟨by decide +kernel, rfl⟩
theorem qX12_finds_29 : Dq cX12_finds 29 (.isub) 1 30 := ⟨by decide +kernel, rfl⟩
theorem qX12_finds_30 : Dq cX12_finds 30 (.istore 6) 2 32 := ⟨by decide +kernel, rfl⟩
theorem qX12_finds_32 : Dq cX12_finds 32 (.iload 4) 2 34 := ⟨by decide +kernel, rfl⟩
theorem qX12_finds_34 : Dq cX12_finds 34 (.iconst 1) 1 35 := ⟨by decide +kernel, rfl⟩
theorem qX12_finds_35 : Dq cX12_finds 35 (.if_icmp .ne 7) 3 38 := ⟨by decide +kernel, rfl⟩
theorem qX12_finds_38 : Dq cX12_finds 38 (.iload 5) 2 40 := ⟨by decide +kernel, rfl⟩
theorem qX12_finds_40 : Dq cX12_finds 40 (.istore 6) 2 42 := ⟨by decide +kernel, rfl⟩
theorem qX12_finds_42 : Dq cX12_finds 42 (.iload 4) 2 44 := ⟨by decide +kernel, rfl⟩
theorem qX12_finds_44 : Dq cX12_finds 44 (.iconst 2) 1 45 := ⟨by decide +kernel, rfl⟩
theorem qX12_finds_45 : Dq cX12_finds 45 (.if_icmp .ne 10) 3 48 := ⟨by decide +kernel, rfl⟩
theorem qX12_finds_48 : Dq cX12_finds 48 (.iload 5) 2 50 := ⟨by decide +kernel, rfl⟩
theorem qX12_finds_50 : Dq cX12_finds 50 (.bipush 30) 2 52 := ⟨by decide +kernel, rfl⟩
theorem qX12_finds_52 : Dq cX12_finds 52 (.iadd) 1 53 := ⟨by decide +kernel, rfl⟩
theorem qX12_finds_53 : Dq cX12_finds 53 (.istore 6) 2 55 := ⟨by decide +kernel, rfl⟩
theorem qX12_finds_55 : Dq cX12_finds 55 (.iload 4) 2 57 := ⟨by decide +kernel, rfl⟩
theorem qX12_finds_57 : Dq cX12_finds 57 (.iconst 4) 1 58 := ⟨by decide +kernel, rfl⟩
theorem qX12_finds_58 : Dq cX12_finds 58 (.if_icmp .ne 13) 3 61 := ⟨by decide +kernel, rfl⟩
theorem qX12_finds_61 : Dq cX12_finds 61 (.iload 5) 2 63 := ⟨by decide +kernel, rfl⟩
theorem qX12_finds_63 : Dq cX12_finds 63 (.iconst 2) 1 64 := ⟨by decide +kernel, rfl⟩
theorem qX12_finds_64 : Dq cX12_finds 64 (.idiv) 1 65 := ⟨by decide +kernel, rfl⟩
theorem qX12_finds_65 : Dq cX12_finds 65 (.iconst 5) 1 66 := ⟨by decide +kernel, rfl⟩
theorem qX12_finds_66 : Dq cX12_finds 66 (.iload_n 2) 1 67 := ⟨by decide +kernel, rfl⟩
theorem qX12_finds_67 : Dq cX12_finds 67 (.imul) 1 68 := ⟨by decide +kernel, rfl⟩
theorem qX12_finds_68 : Dq cX12_finds 68 (.iadd) 1 69 := ⟨by decide +kernel, rfl⟩
theorem qX12_finds_69 : Dq cX12_finds 69 (.istore 6) 2 71 := ⟨by decide +kernel, rfl⟩
theorem qX12_finds_71 : Dq cX12_finds 71 (.iload 4) 2 73 := ⟨by decide +kernel, rfl⟩
theorem qX12_finds_73 : Dq cX12_finds 73 (.iconst 3) 1 74 := ⟨by decide +kernel, rfl⟩
theorem qX12_finds_74 : Dq cX12_finds 74 (.if_icmp .eq 9) 3 77 := ⟨by decide +kernel, rfl⟩
theorem qX12_finds_77 : Dq cX12_finds 77 (.iload 4) 2 79 := ⟨by decide +kernel, rfl⟩
theorem qX12_finds_79 : Dq cX12_finds 79 (.iconst 5) 1 80 := ⟨by decide +kernel, rfl⟩
theorem qX12_finds_80 : Dq cX12_finds 80 (.if_icmp .ne 30) 3 83 := ⟨by decide +kernel, rfl⟩
theorem qX12_finds_83 : Dq cX12_finds 83 (.bipush 70) 2 85 := ⟨by decide +kernel, rfl⟩
theorem qX12_finds_85 : Dq cX12_finds 85 (.iconst 2) 1 86 := ⟨by decide +kernel, rfl⟩
theorem qX12_finds_86 : Dq cX12_finds 86 (.iload_n 2) 1 87 := ⟨by decide +kernel, rfl⟩
theorem qX12_finds_87 : Dq cX12_finds 87 (.imul) 1 88 := ⟨by decide +kernel, rfl⟩
theorem qX12_finds_88 : Dq cX12_finds 88 (.isub) 1 89 := ⟨by decide +kernel, rfl⟩
theorem qX12_finds_89 : Dq cX12_finds 89 (.iload 4) 2 91 := ⟨by decide +kernel, rfl⟩
theorem qX12_finds_91 : Dq cX12_finds 91 (.iconst 5) 1 92 := ⟨by decide +kernel, rfl⟩
theorem qX12_finds_92 : Dq cX12_finds 92 (.if_icmp .ne 14) 3 95 := ⟨by decide +kernel, rfl⟩
theorem qX12_finds_95 : Dq cX12_finds 95 (.iconst 3) 1 96 := ⟨by decide +kernel, rfl⟩
theorem qX12_finds_96 : Dq cX12_finds 96 (.aload_n 0) 1 97 := ⟨by decide +kernel, rfl⟩
theorem qX12_finds_97 : Dq cX12_finds 97 (.getfield 35) 3 100 := ⟨by decide +kernel, rfl⟩
theorem qX12_finds_100 : Dq cX12_finds 100 (.iload_n 1) 1 101 := ⟨by decide +kernel, rfl⟩
theorem qX12_finds_101 : Dq cX12_finds 101 (.iaload) 1 102 := ⟨by decide +kernel, rfl⟩
theorem qX12_finds_102 : Dq cX12_finds 102 (.imul) 1 103 := ⟨by decide +kernel, rfl⟩
theorem qX12_finds_103 : Dq cX12_finds 103 (.goto 4) 3 106 := ⟨by decide +kernel, rfl⟩
theorem qX12_finds_106 : Dq cX12_finds 106 (.iconst 0) 1 107 := ⟨by decide +kernel, rfl⟩
theorem qX12_finds_107 : Dq cX12_finds 107 (.isub) 1 108 := ⟨by decide +kernel, rfl⟩
theorem qX12_finds_108 : Dq cX12_finds 108 (.istore 6) 2 110 := ⟨by decide +kernel, rfl⟩
theorem qX12_finds_110 : Dq cX12_finds 110 (.iload 6) 2 112 := ⟨by decide +kernel, rfl⟩
theorem qX12_finds_112 : Dq cX12_finds 112 (.iconst 0) 1 113 := ⟨by decide +kernel, rfl⟩
theorem qX12_finds_113 : Dq cX12_finds 113 (.bipush 100) 2 115 := ⟨by decide +kernel, rfl⟩
theorem qX12_finds_115 : Dq cX12_finds 115 (.invokestatic 246) 3 118 := ⟨by decide +kernel, rfl⟩
theorem qX12_finds_118 : Dq cX12_finds 118 (.ireturn) 1 119 := ⟨by decide +kernel, rfl⟩
set_option maxRecDepth 100000 in
set_option maxHeartbeats 4000000 in
theorem m_finds {G : Glb} {h : AHp} (hm : ShM h) {m : Nat} {kd : Nat → Nat} {nu : Nat → Int32} (hp : PtM h m kd nu) (hm6 : m ≤ 6) (hkd : ∀ i, i < m → kd i < 6) {l : Nat} (hl : l < m) (dd s : Int32)  : CP G m_X12_finds 2 0 0 [.ref 38, .int (nI l), .int dd, .int s] h (fun r h' => r = some (.int (bnd (fdR (kd l) (nu l) dd s) 0 100)) ∧ h = h') := by
  suffices key : ∀ P : Option Value → AHp → Prop, (∀ r h', (r = some (.int (bnd (fdR (kd l) (nu l) dd s) 0 100)) ∧ h = h') → P r h') → CP G m_X12_finds 2 0 0 [.ref 38, .int (nI l), .int dd, .int s] h P from key _ (fun _ _ z => z)
  intro P hP
  refine CP.of (by decide +kernel) (Nat.le_of_ble_eq_true rfl) fun X hX hR hnm => ?_
  show V X G 7 0 0 _ 0 [some (.ref 38), some (.int (nI l)), some (.int dd), some (.int s), none, none, none] [] h
  refine v_aload_n hX rfl qX12_finds_0 ?_
  refine v_getR hX g_X12_32 (hm.kd 38 rfl) (hm.rf 5 rfl) qX12_finds_1 ?_
  refine v_iload_n hX rfl qX12_finds_4 ?_
  refine v_ialdV hX (hm.kd 44 rfl) (hm.ln 44 rfl) (by exact ix_n (n := l) (by omega) rfl) (show _ = nI (kd l) from (hp.2 l hl).1) qX12_finds_5 ?_
  have hk6 := hkd l hl
  have hk0 : kd l = 0 ∨ kd l = 1 ∨ kd l = 2 ∨ kd l = 3 ∨ kd l = 4 ∨ kd l = 5 := by omega
  rcases hk0 with hk0 | hk0 | hk0 | hk0 | hk0 | hk0
  · rw [hk0] at hP ⊢
    refine v_istore hX (Nat.le_of_ble_eq_true rfl) rfl (ls' := [some _, some _, some _, some _, some _, none, none]) rfl qX12_finds_6 ?_
    refine v_bipush hX lb_60 qX12_finds_8 ?_
    refine v_aload_n hX rfl qX12_finds_10 ?_
    refine v_getR hX g_X12_35 (hm.kd 38 rfl) (hm.rf 6 rfl) qX12_finds_11 ?_
    refine v_iload_n hX rfl qX12_finds_14 ?_
    refine v_ialdV hX (hm.kd 45 rfl) (hm.ln 45 rfl) (by exact ix_n (n := l) (by omega) rfl) (hp.2 l hl).2 qX12_finds_15 ?_
    refine v_iadd hX qX12_finds_16 ?_
    refine v_bipush hX lb_6 qX12_finds_17 ?_
    refine v_iload_n hX rfl qX12_finds_19 ?_
    refine v_imul hX qX12_finds_20 ?_
    refine v_isub hX qX12_finds_21 ?_
    refine v_istore hX (Nat.le_of_ble_eq_true rfl) rfl (ls' := [some _, some _, some _, some _, some _, some _, none]) rfl qX12_finds_22 ?_
    refine v_iload_n hX rfl qX12_finds_24 ?_
    refine v_bipush hX lb_20 qX12_finds_25 ?_
    refine v_iload_n hX rfl qX12_finds_27 ?_
    refine v_imul hX qX12_finds_28 ?_
    refine v_isub hX qX12_finds_29 ?_
    refine v_istore hX (Nat.le_of_ble_eq_true rfl) rfl (ls' := [some _, some _, some _, some _, some _, some _, some _]) rfl qX12_finds_30 ?_
    refine v_iload hX rfl qX12_finds_32 ?_
    refine v_iconst hX li_1 qX12_finds_34 ?_
    refine v_icmp_ne hX 42 qX12_finds_35 rfl (fun q35 => ?_) (fun q35 => ?_)
    · skip
      refine v_iload hX rfl qX12_finds_42 ?_
      refine v_iconst hX li_2 qX12_finds_44 ?_
      refine v_icmp_ne hX 55 qX12_finds_45 rfl (fun q45 => ?_) (fun q45 => ?_)
      · skip
        refine v_iload hX rfl qX12_finds_55 ?_
        refine v_iconst hX li_4 qX12_finds_57 ?_
        refine v_icmp_ne hX 71 qX12_finds_58 rfl (fun q58 => ?_) (fun q58 => ?_)
        · skip
          refine v_iload hX rfl qX12_finds_71 ?_
          refine v_iconst hX li_3 qX12_finds_73 ?_
          refine v_icmp_eq hX 83 qX12_finds_74 rfl (fun q74 => ?_) (fun q74 => ?_)
          · exact absurd q74 (by decide)
          · skip
            refine v_iload hX rfl qX12_finds_77 ?_
            refine v_iconst hX li_5 qX12_finds_79 ?_
            refine v_icmp_ne hX 110 qX12_finds_80 rfl (fun q80 => ?_) (fun q80 => ?_)
            · skip
              refine v_iload hX rfl qX12_finds_110 ?_
              refine v_iconst hX li_0 qX12_finds_112 ?_
              refine v_bipush hX lb_100 qX12_finds_113 ?_
              refine v_callSq hX hR k_X12_246 (m_within _ _ _) rfl (Nat.le_of_ble_eq_true rfl) rfl (Nat.le_of_ble_eq_true rfl) ⟨Nat.le_of_ble_eq_true rfl, Nat.le_of_ble_eq_true rfl⟩ qX12_finds_115 ?_
              rintro _ _ ⟨rfl, rfl⟩
              refine v_ireturn hX qX12_finds_118 (hP _ _ ?_)
              exact ⟨congrArg (fun z => some (Value.int z)) (wi_bnd (by decide)), rfl⟩
            · exact absurd q80 (by decide)
        · exact absurd q58 (by decide)
      · exact absurd q45 (by decide)
    · exact absurd q35 (by decide)
  · rw [hk0] at hP ⊢
    refine v_istore hX (Nat.le_of_ble_eq_true rfl) rfl (ls' := [some _, some _, some _, some _, some _, none, none]) rfl qX12_finds_6 ?_
    refine v_bipush hX lb_60 qX12_finds_8 ?_
    refine v_aload_n hX rfl qX12_finds_10 ?_
    refine v_getR hX g_X12_35 (hm.kd 38 rfl) (hm.rf 6 rfl) qX12_finds_11 ?_
    refine v_iload_n hX rfl qX12_finds_14 ?_
    refine v_ialdV hX (hm.kd 45 rfl) (hm.ln 45 rfl) (by exact ix_n (n := l) (by omega) rfl) (hp.2 l hl).2 qX12_finds_15 ?_
    refine v_iadd hX qX12_finds_16 ?_
    refine v_bipush hX lb_6 qX12_finds_17 ?_
    refine v_iload_n hX rfl qX12_finds_19 ?_
    refine v_imul hX qX12_finds_20 ?_
    refine v_isub hX qX12_finds_21 ?_
    refine v_istore hX (Nat.le_of_ble_eq_true rfl) rfl (ls' := [some _, some _, some _, some _, some _, some _, none]) rfl qX12_finds_22 ?_
    refine v_iload_n hX rfl qX12_finds_24 ?_
    refine v_bipush hX lb_20 qX12_finds_25 ?_
    refine v_iload_n hX rfl qX12_finds_27 ?_
    refine v_imul hX qX12_finds_28 ?_
    refine v_isub hX qX12_finds_29 ?_
    refine v_istore hX (Nat.le_of_ble_eq_true rfl) rfl (ls' := [some _, some _, some _, some _, some _, some _, some _]) rfl qX12_finds_30 ?_
    refine v_iload hX rfl qX12_finds_32 ?_
    refine v_iconst hX li_1 qX12_finds_34 ?_
    refine v_icmp_ne hX 42 qX12_finds_35 rfl (fun q35 => ?_) (fun q35 => ?_)
    · exact absurd rfl q35
    · skip
      refine v_iload hX rfl qX12_finds_38 ?_
      refine v_istore hX (Nat.le_of_ble_eq_true rfl) rfl (ls' := [some _, some _, some _, some _, some _, some _, some _]) rfl qX12_finds_40 ?_
      refine v_iload hX rfl qX12_finds_42 ?_
      refine v_iconst hX li_2 qX12_finds_44 ?_
      refine v_icmp_ne hX 55 qX12_finds_45 rfl (fun q45 => ?_) (fun q45 => ?_)
      · skip
        refine v_iload hX rfl qX12_finds_55 ?_
        refine v_iconst hX li_4 qX12_finds_57 ?_
        refine v_icmp_ne hX 71 qX12_finds_58 rfl (fun q58 => ?_) (fun q58 => ?_)
        · skip
          refine v_iload hX rfl qX12_finds_71 ?_
          refine v_iconst hX li_3 qX12_finds_73 ?_
          refine v_icmp_eq hX 83 qX12_finds_74 rfl (fun q74 => ?_) (fun q74 => ?_)
          · exact absurd q74 (by decide)
          · skip
            refine v_iload hX rfl qX12_finds_77 ?_
            refine v_iconst hX li_5 qX12_finds_79 ?_
            refine v_icmp_ne hX 110 qX12_finds_80 rfl (fun q80 => ?_) (fun q80 => ?_)
            · skip
              refine v_iload hX rfl qX12_finds_110 ?_
              refine v_iconst hX li_0 qX12_finds_112 ?_
              refine v_bipush hX lb_100 qX12_finds_113 ?_
              refine v_callSq hX hR k_X12_246 (m_within _ _ _) rfl (Nat.le_of_ble_eq_true rfl) rfl (Nat.le_of_ble_eq_true rfl) ⟨Nat.le_of_ble_eq_true rfl, Nat.le_of_ble_eq_true rfl⟩ qX12_finds_115 ?_
              rintro _ _ ⟨rfl, rfl⟩
              refine v_ireturn hX qX12_finds_118 (hP _ _ ?_)
              exact ⟨congrArg (fun z => some (Value.int z)) (wi_bnd (by decide)), rfl⟩
            · exact absurd q80 (by decide)
        · exact absurd q58 (by decide)
      · exact absurd q45 (by decide)
  · rw [hk0] at hP ⊢
    refine v_istore hX (Nat.le_of_ble_eq_true rfl) rfl (ls' := [some _, some _, some _, some _, some _, none, none]) rfl qX12_finds_6 ?_
    refine v_bipush hX lb_60 qX12_finds_8 ?_
    refine v_aload_n hX rfl qX12_finds_10 ?_
    refine v_getR hX g_X12_35 (hm.kd 38 rfl) (hm.rf 6 rfl) qX12_finds_11 ?_
    refine v_iload_n hX rfl qX12_finds_14 ?_
    refine v_ialdV hX (hm.kd 45 rfl) (hm.ln 45 rfl) (by exact ix_n (n := l) (by omega) rfl) (hp.2 l hl).2 qX12_finds_15 ?_
    refine v_iadd hX qX12_finds_16 ?_
    refine v_bipush hX lb_6 qX12_finds_17 ?_
    refine v_iload_n hX rfl qX12_finds_19 ?_
    refine v_imul hX qX12_finds_20 ?_
    refine v_isub hX qX12_finds_21 ?_
    refine v_istore hX (Nat.le_of_ble_eq_true rfl) rfl (ls' := [some _, some _, some _, some _, some _, some _, none]) rfl qX12_finds_22 ?_
    refine v_iload_n hX rfl qX12_finds_24 ?_
    refine v_bipush hX lb_20 qX12_finds_25 ?_
    refine v_iload_n hX rfl qX12_finds_27 ?_
    refine v_imul hX qX12_finds_28 ?_
    refine v_isub hX qX12_finds_29 ?_
    refine v_istore hX (Nat.le_of_ble_eq_true rfl) rfl (ls' := [some _, some _, some _, some _, some _, some _, some _]) rfl qX12_finds_30 ?_
    refine v_iload hX rfl qX12_finds_32 ?_
    refine v_iconst hX li_1 qX12_finds_34 ?_
    refine v_icmp_ne hX 42 qX12_finds_35 rfl (fun q35 => ?_) (fun q35 => ?_)
    · skip
      refine v_iload hX rfl qX12_finds_42 ?_
      refine v_iconst hX li_2 qX12_finds_44 ?_
      refine v_icmp_ne hX 55 qX12_finds_45 rfl (fun q45 => ?_) (fun q45 => ?_)
      · exact absurd rfl q45
      · skip
        refine v_iload hX rfl qX12_finds_48 ?_
        refine v_bipush hX lb_30 qX12_finds_50 ?_
        refine v_iadd hX qX12_finds_52 ?_
        refine v_istore hX (Nat.le_of_ble_eq_true rfl) rfl (ls' := [some _, some _, some _, some _, some _, some _, some _]) rfl qX12_finds_53 ?_
        refine v_iload hX rfl qX12_finds_55 ?_
        refine v_iconst hX li_4 qX12_finds_57 ?_
        refine v_icmp_ne hX 71 qX12_finds_58 rfl (fun q58 => ?_) (fun q58 => ?_)
        · skip
          refine v_iload hX rfl qX12_finds_71 ?_
          refine v_iconst hX li_3 qX12_finds_73 ?_
          refine v_icmp_eq hX 83 qX12_finds_74 rfl (fun q74 => ?_) (fun q74 => ?_)
          · exact absurd q74 (by decide)
          · skip
            refine v_iload hX rfl qX12_finds_77 ?_
            refine v_iconst hX li_5 qX12_finds_79 ?_
            refine v_icmp_ne hX 110 qX12_finds_80 rfl (fun q80 => ?_) (fun q80 => ?_)
            · skip
              refine v_iload hX rfl qX12_finds_110 ?_
              refine v_iconst hX li_0 qX12_finds_112 ?_
              refine v_bipush hX lb_100 qX12_finds_113 ?_
              refine v_callSq hX hR k_X12_246 (m_within _ _ _) rfl (Nat.le_of_ble_eq_true rfl) rfl (Nat.le_of_ble_eq_true rfl) ⟨Nat.le_of_ble_eq_true rfl, Nat.le_of_ble_eq_true rfl⟩ qX12_finds_115 ?_
              rintro _ _ ⟨rfl, rfl⟩
              refine v_ireturn hX qX12_finds_118 (hP _ _ ?_)
              exact ⟨congrArg (fun z => some (Value.int z)) (wi_bnd (by decide)), rfl⟩
            · exact absurd q80 (by decide)
        · exact absurd q58 (by decide)
    · exact absurd q35 (by decide)
  · rw [hk0] at hP ⊢
    refine v_istore hX (Nat.le_of_ble_eq_true rfl) rfl (ls' := [some _, some _, some _, some _, some _, none, none]) rfl qX12_finds_6 ?_
    refine v_bipush hX lb_60 qX12_finds_8 ?_
    refine v_aload_n hX rfl qX12_finds_10 ?_
    refine v_getR hX g_X12_35 (hm.kd 38 rfl) (hm.rf 6 rfl) qX12_finds_11 ?_
    refine v_iload_n hX rfl qX12_finds_14 ?_
    refine v_ialdV hX (hm.kd 45 rfl) (hm.ln 45 rfl) (by exact ix_n (n := l) (by omega) rfl) (hp.2 l hl).2 qX12_finds_15 ?_
    refine v_iadd hX qX12_finds_16 ?_
    refine v_bipush hX lb_6 qX12_finds_17 ?_
    refine v_iload_n hX rfl qX12_finds_19 ?_
    refine v_imul hX qX12_finds_20 ?_
    refine v_isub hX qX12_finds_21 ?_
    refine v_istore hX (Nat.le_of_ble_eq_true rfl) rfl (ls' := [some _, some _, some _, some _, some _, some _, none]) rfl qX12_finds_22 ?_
    refine v_iload_n hX rfl qX12_finds_24 ?_
    refine v_bipush hX lb_20 qX12_finds_25 ?_
    refine v_iload_n hX rfl qX12_finds_27 ?_
    refine v_imul hX qX12_finds_28 ?_
    refine v_isub hX qX12_finds_29 ?_
    refine v_istore hX (Nat.le_of_ble_eq_true rfl) rfl (ls' := [some _, some _, some _, some _, some _, some _, some _]) rfl qX12_finds_30 ?_
    refine v_iload hX rfl qX12_finds_32 ?_
    refine v_iconst hX li_1 qX12_finds_34 ?_
    refine v_icmp_ne hX 42 qX12_finds_35 rfl (fun q35 => ?_) (fun q35 => ?_)
    · skip
      refine v_iload hX rfl qX12_finds_42 ?_
      refine v_iconst hX li_2 qX12_finds_44 ?_
      refine v_icmp_ne hX 55 qX12_finds_45 rfl (fun q45 => ?_) (fun q45 => ?_)
      · skip
        refine v_iload hX rfl qX12_finds_55 ?_
        refine v_iconst hX li_4 qX12_finds_57 ?_
        refine v_icmp_ne hX 71 qX12_finds_58 rfl (fun q58 => ?_) (fun q58 => ?_)
        · skip
          refine v_iload hX rfl qX12_finds_71 ?_
          refine v_iconst hX li_3 qX12_finds_73 ?_
          refine v_icmp_eq hX 83 qX12_finds_74 rfl (fun q74 => ?_) (fun q74 => ?_)
          · skip
            refine v_bipush hX lb_70 qX12_finds_83 ?_
            refine v_iconst hX li_2 qX12_finds_85 ?_
            refine v_iload_n hX rfl qX12_finds_86 ?_
            refine v_imul hX qX12_finds_87 ?_
            refine v_isub hX qX12_finds_88 ?_
            refine v_iload hX rfl qX12_finds_89 ?_
            refine v_iconst hX li_5 qX12_finds_91 ?_
            refine v_icmp_ne hX 106 qX12_finds_92 rfl (fun q92 => ?_) (fun q92 => ?_)
            · skip
              refine v_iconst hX li_0 qX12_finds_106 ?_
              refine v_isub hX qX12_finds_107 ?_
              refine v_eqI (Int32.sub_zero _) ?_
              refine v_istore hX (Nat.le_of_ble_eq_true rfl) rfl (ls' := [some _, some _, some _, some _, some _, some _, some _]) rfl qX12_finds_108 ?_
              refine v_iload hX rfl qX12_finds_110 ?_
              refine v_iconst hX li_0 qX12_finds_112 ?_
              refine v_bipush hX lb_100 qX12_finds_113 ?_
              refine v_callSq hX hR k_X12_246 (m_within _ _ _) rfl (Nat.le_of_ble_eq_true rfl) rfl (Nat.le_of_ble_eq_true rfl) ⟨Nat.le_of_ble_eq_true rfl, Nat.le_of_ble_eq_true rfl⟩ qX12_finds_115 ?_
              rintro _ _ ⟨rfl, rfl⟩
              refine v_ireturn hX qX12_finds_118 (hP _ _ ?_)
              exact ⟨congrArg (fun z => some (Value.int z)) (wi_bnd (by decide)), rfl⟩
            · exact absurd q92 (by decide)
          · exact absurd rfl q74
        · exact absurd q58 (by decide)
      · exact absurd q45 (by decide)
    · exact absurd q35 (by decide)
  · rw [hk0] at hP ⊢
    refine v_istore hX (Nat.le_of_ble_eq_true rfl) rfl (ls' := [some _, some _, some _, some _, some _, none, none]) rfl qX12_finds_6 ?_
    refine v_bipush hX lb_60 qX12_finds_8 ?_
    refine v_aload_n hX rfl qX12_finds_10 ?_
    refine v_getR hX g_X12_35 (hm.kd 38 rfl) (hm.rf 6 rfl) qX12_finds_11 ?_
    refine v_iload_n hX rfl qX12_finds_14 ?_
    refine v_ialdV hX (hm.kd 45 rfl) (hm.ln 45 rfl) (by exact ix_n (n := l) (by omega) rfl) (hp.2 l hl).2 qX12_finds_15 ?_
    refine v_iadd hX qX12_finds_16 ?_
    refine v_bipush hX lb_6 qX12_finds_17 ?_
    refine v_iload_n hX rfl qX12_finds_19 ?_
    refine v_imul hX qX12_finds_20 ?_
    refine v_isub hX qX12_finds_21 ?_
    refine v_istore hX (Nat.le_of_ble_eq_true rfl) rfl (ls' := [some _, some _, some _, some _, some _, some _, none]) rfl qX12_finds_22 ?_
    refine v_iload_n hX rfl qX12_finds_24 ?_
    refine v_bipush hX lb_20 qX12_finds_25 ?_
    refine v_iload_n hX rfl qX12_finds_27 ?_
    refine v_imul hX qX12_finds_28 ?_
    refine v_isub hX qX12_finds_29 ?_
    refine v_istore hX (Nat.le_of_ble_eq_true rfl) rfl (ls' := [some _, some _, some _, some _, some _, some _, some _]) rfl qX12_finds_30 ?_
    refine v_iload hX rfl qX12_finds_32 ?_
    refine v_iconst hX li_1 qX12_finds_34 ?_
    refine v_icmp_ne hX 42 qX12_finds_35 rfl (fun q35 => ?_) (fun q35 => ?_)
    · skip
      refine v_iload hX rfl qX12_finds_42 ?_
      refine v_iconst hX li_2 qX12_finds_44 ?_
      refine v_icmp_ne hX 55 qX12_finds_45 rfl (fun q45 => ?_) (fun q45 => ?_)
      · skip
        refine v_iload hX rfl qX12_finds_55 ?_
        refine v_iconst hX li_4 qX12_finds_57 ?_
        refine v_icmp_ne hX 71 qX12_finds_58 rfl (fun q58 => ?_) (fun q58 => ?_)
        · exact absurd rfl q58
        · skip
          refine v_iload hX rfl qX12_finds_61 ?_
          refine v_iconst hX li_2 qX12_finds_63 ?_
          refine v_idiv hX (by decide) qX12_finds_64 ?_
          refine v_iconst hX li_5 qX12_finds_65 ?_
          refine v_iload_n hX rfl qX12_finds_66 ?_
          refine v_imul hX qX12_finds_67 ?_
          refine v_iadd hX qX12_finds_68 ?_
          refine v_istore hX (Nat.le_of_ble_eq_true rfl) rfl (ls' := [some _, some _, some _, some _, some _, some _, some _]) rfl qX12_finds_69 ?_
          refine v_iload hX rfl qX12_finds_71 ?_
          refine v_iconst hX li_3 qX12_finds_73 ?_
          refine v_icmp_eq hX 83 qX12_finds_74 rfl (fun q74 => ?_) (fun q74 => ?_)
          · exact absurd q74 (by decide)
          · skip
            refine v_iload hX rfl qX12_finds_77 ?_
            refine v_iconst hX li_5 qX12_finds_79 ?_
            refine v_icmp_ne hX 110 qX12_finds_80 rfl (fun q80 => ?_) (fun q80 => ?_)
            · skip
              refine v_iload hX rfl qX12_finds_110 ?_
              refine v_iconst hX li_0 qX12_finds_112 ?_
              refine v_bipush hX lb_100 qX12_finds_113 ?_
              refine v_callSq hX hR k_X12_246 (m_within _ _ _) rfl (Nat.le_of_ble_eq_true rfl) rfl (Nat.le_of_ble_eq_true rfl) ⟨Nat.le_of_ble_eq_true rfl, Nat.le_of_ble_eq_true rfl⟩ qX12_finds_115 ?_
              rintro _ _ ⟨rfl, rfl⟩
              refine v_ireturn hX qX12_finds_118 (hP _ _ ?_)
              exact ⟨congrArg (fun z => some (Value.int z)) (wi_bnd (by decide)), rfl⟩
            · exact absurd q80 (by decide)
      · exact absurd q45 (by decide)
    · exact absurd q35 (by decide)
  · rw [hk0] at hP ⊢
    refine v_istore hX (Nat.le_of_ble_eq_true rfl) rfl (ls' := [some _, some _, some _, some _, some _, none, none]) rfl qX12_finds_6 ?_
    refine v_bipush hX lb_60 qX12_finds_8 ?_
    refine v_aload_n hX rfl qX12_finds_10 ?_
    refine v_getR hX g_X12_35 (hm.kd 38 rfl) (hm.rf 6 rfl) qX12_finds_11 ?_
    refine v_iload_n hX rfl qX12_finds_14 ?_
    refine v_ialdV hX (hm.kd 45 rfl) (hm.ln 45 rfl) (by exact ix_n (n := l) (by omega) rfl) (hp.2 l hl).2 qX12_finds_15 ?_
    refine v_iadd hX qX12_finds_16 ?_
    refine v_bipush hX lb_6 qX12_finds_17 ?_
    refine v_iload_n hX rfl qX12_finds_19 ?_
    refine v_imul hX qX12_finds_20 ?_
    refine v_isub hX qX12_finds_21 ?_
    refine v_istore hX (Nat.le_of_ble_eq_true rfl) rfl (ls' := [some _, some _, some _, some _, some _, some _, none]) rfl qX12_finds_22 ?_
    refine v_iload_n hX rfl qX12_finds_24 ?_
    refine v_bipush hX lb_20 qX12_finds_25 ?_
    refine v_iload_n hX rfl qX12_finds_27 ?_
    refine v_imul hX qX12_finds_28 ?_
    refine v_isub hX qX12_finds_29 ?_
    refine v_istore hX (Nat.le_of_ble_eq_true rfl) rfl (ls' := [some _, some _, some _, some _, some _, some _, some _]) rfl qX12_finds_30 ?_
    refine v_iload hX rfl qX12_finds_32 ?_
    refine v_iconst hX li_1 qX12_finds_34 ?_
    refine v_icmp_ne hX 42 qX12_finds_35 rfl (fun q35 => ?_) (fun q35 => ?_)
    · skip
      refine v_iload hX rfl qX12_finds_42 ?_
      refine v_iconst hX li_2 qX12_finds_44 ?_
      refine v_icmp_ne hX 55 qX12_finds_45 rfl (fun q45 => ?_) (fun q45 => ?_)
      · skip
        refine v_iload hX rfl qX12_finds_55 ?_
        refine v_iconst hX li_4 qX12_finds_57 ?_
        refine v_icmp_ne hX 71 qX12_finds_58 rfl (fun q58 => ?_) (fun q58 => ?_)
        · skip
          refine v_iload hX rfl qX12_finds_71 ?_
          refine v_iconst hX li_3 qX12_finds_73 ?_
          refine v_icmp_eq hX 83 qX12_finds_74 rfl (fun q74 => ?_) (fun q74 => ?_)
          · exact absurd q74 (by decide)
          · skip
            refine v_iload hX rfl qX12_finds_77 ?_
            refine v_iconst hX li_5 qX12_finds_79 ?_
            refine v_icmp_ne hX 110 qX12_finds_80 rfl (fun q80 => ?_) (fun q80 => ?_)
            · exact absurd rfl q80
            · skip
              refine v_bipush hX lb_70 qX12_finds_83 ?_
              refine v_iconst hX li_2 qX12_finds_85 ?_
              refine v_iload_n hX rfl qX12_finds_86 ?_
              refine v_imul hX qX12_finds_87 ?_
              refine v_isub hX qX12_finds_88 ?_
              refine v_iload hX rfl qX12_finds_89 ?_
              refine v_iconst hX li_5 qX12_finds_91 ?_
              refine v_icmp_ne hX 106 qX12_finds_92 rfl (fun q92 => ?_) (fun q92 => ?_)
              · exact absurd rfl q92
              · skip
                refine v_iconst hX li_3 qX12_finds_95 ?_
                refine v_aload_n hX rfl qX12_finds_96 ?_
                refine v_getR hX g_X12_35 (hm.kd 38 rfl) (hm.rf 6 rfl) qX12_finds_97 ?_
                refine v_iload_n hX rfl qX12_finds_100 ?_
                refine v_ialdV hX (hm.kd 45 rfl) (hm.ln 45 rfl) (by exact ix_n (n := l) (by omega) rfl) (hp.2 l hl).2 qX12_finds_101 ?_
                refine v_imul hX qX12_finds_102 ?_
                refine v_goto hX 107 qX12_finds_103 rfl ?_
                refine v_isub hX qX12_finds_107 ?_
                refine v_istore hX (Nat.le_of_ble_eq_true rfl) rfl (ls' := [some _, some _, some _, some _, some _, some _, some _]) rfl qX12_finds_108 ?_
                refine v_iload hX rfl qX12_finds_110 ?_
                refine v_iconst hX li_0 qX12_finds_112 ?_
                refine v_bipush hX lb_100 qX12_finds_113 ?_
                refine v_callSq hX hR k_X12_246 (m_within _ _ _) rfl (Nat.le_of_ble_eq_true rfl) rfl (Nat.le_of_ble_eq_true rfl) ⟨Nat.le_of_ble_eq_true rfl, Nat.le_of_ble_eq_true rfl⟩ qX12_finds_115 ?_
                rintro _ _ ⟨rfl, rfl⟩
                refine v_ireturn hX qX12_finds_118 (hP _ _ ?_)
                exact ⟨congrArg (fun z => some (Value.int z)) (wi_bnd (by decide)), rfl⟩
        · exact absurd q58 (by decide)
      · exact absurd q45 (by decide)
    · exact absurd q35 (by decide)
theorem qX12_takes_0 : Dq cX12_takes 0 (.aload_n 0) 1 1 := ⟨by decide +kernel, rfl⟩
theorem qX12_takes_1 : Dq cX12_takes 1 (.getfield 32) 3 4 := ⟨by decide +kernel, rfl⟩
theorem qX12_takes_4 : Dq cX12_takes 4 (.iload_n 1) 1 5 := ⟨by decide +kernel, rfl⟩
theorem qX12_takes_5 : Dq cX12_takes 5 (.iaload) 1 6 := ⟨by decide +kernel, rfl⟩
theorem qX12_takes_6 : Dq cX12_takes 6 (.istore_n 2) 1 7 := ⟨by decide +kernel, rfl⟩
theorem qX12_takes_7 : Dq cX12_takes 7 (.iload_n 2) 1 8 := ⟨by decide +kernel, rfl⟩
theorem qX12_takes_8 : Dq cX12_takes 8 (.ifCond .ne 5) 3 11 := ⟨by decide +kernel, rfl⟩
theorem qX12_takes_11 : Dq cX12_takes 11 (.iconst 2) 1 12 := ⟨by decide +kernel, rfl⟩
theorem qX12_takes_12 : Dq cX12_takes 12 (.ireturn) 1 13 := ⟨by decide +kernel, rfl⟩
theorem qX12_takes_13 : Dq cX12_takes 13 (.iload_n 2) 1 14 := ⟨by decide +kernel, rfl⟩
theorem qX12_takes_14 : Dq cX12_takes 14 (.iconst 3) 1 15 := ⟨by decide +kernel, rfl⟩
theorem qX12_takes_15 : Dq cX12_takes 15 (.if_icmp .eq 8) 3 18 := ⟨by decide +kernel, rfl⟩
theorem qX12_takes_18 : Dq cX12_takes 18 (.iload_n 2) 1 19 := ⟨by decide +kernel, rfl⟩
theorem qX12_takes_19 : Dq cX12_takes 19 (.iconst 5) 1 20 := ⟨by decide +kernel, rfl⟩
theorem qX12_takes_20 : Dq cX12_takes 20 (.if_icmp .ne 21) 3 23 := ⟨by decide +kernel, rfl⟩
theorem qX12_takes_23 : Dq cX12_takes 23 (.iload_n 2) 1 24 := ⟨by decide +kernel, rfl⟩
theorem qX12_takes_24 : Dq cX12_takes 24 (.iconst 5) 1 25 := ⟨by decide +kernel, rfl⟩
theorem qX12_takes_25 : Dq cX12_takes 25 (.if_icmp .ne 14) 3 28 := ⟨by decide +kernel, rfl⟩
theorem qX12_takes_28 : Dq cX12_takes 28 (.iconst 3) 1 29 := ⟨by decide +kernel, rfl⟩
theorem qX12_takes_29 : Dq cX12_takes 29 (.aload_n 0) 1 30 := ⟨by decide +kernel, rfl⟩
theorem qX12_takes_30 : Dq cX12_takes 30 (.getfield 35) 3 33 := ⟨by decide +kernel, rfl⟩
theorem qX12_takes_33 : Dq cX12_takes 33 (.iload_n 1) 1 34 := ⟨by decide +kernel, rfl⟩
theorem qX12_takes_34 : Dq cX12_takes 34 (.iaload) 1 35 := ⟨by decide +kernel, rfl⟩
theorem qX12_takes_35 : Dq cX12_takes 35 (.iadd) 1 36 := ⟨by decide +kernel, rfl⟩
theorem qX12_takes_36 : Dq cX12_takes 36 (.goto 4) 3 39 := ⟨by decide +kernel, rfl⟩
theorem qX12_takes_39 : Dq cX12_takes 39 (.iconst 3) 1 40 := ⟨by decide +kernel, rfl⟩
theorem qX12_takes_40 : Dq cX12_takes 40 (.ireturn) 1 41 := ⟨by decide +kernel, rfl⟩
theorem qX12_takes_41 : Dq cX12_takes 41 (.iload_n 2) 1 42 := ⟨by decide +kernel, rfl⟩
theorem qX12_takes_42 : Dq cX12_takes 42 (.iconst 1) 1 43 := ⟨by decide +kernel, rfl⟩
theorem qX12_takes_43 : Dq cX12_takes 43 (.if_icmp .ne 8) 3 46 := ⟨by decide +kernel, rfl⟩
theorem qX12_takes_46 : Dq cX12_takes 46 (.bipush 6) 2 48 := ⟨by decide +kernel, rfl⟩
theorem qX12_takes_48 : Dq cX12_takes 48 (.goto 22) 3 51 := ⟨by decide +kernel, rfl⟩
theorem qX12_takes_51 : Dq cX12_takes 51 (.iload_n 2) 1 52 := ⟨by decide +kernel, rfl⟩
theorem qX12_takes_52 : Dq cX12_takes 52 (.iconst 2) 1 53 := ⟨by decide +kernel, rfl⟩
theorem qX12_takes_53 : Dq cX12_takes 53 (.if_icmp .ne 15) 3 56 := ⟨by decide +kernel, rfl⟩
theorem qX12_takes_56 : Dq cX12_takes 56 (.bipush 6) 2 58 := ⟨by decide +kernel, rfl⟩
theorem qX12_takes_58 : Dq cX12_takes 58 (.aload_n 0) 1 59 := ⟨by decide +kernel, rfl⟩
theorem qX12_takes_59 : Dq cX12_takes 59 (.getfield 35) 3 62 := ⟨by decide +kernel, rfl⟩
theorem qX12_takes_62 : Dq cX12_takes 62 (.iload_n 1) 1 63 := ⟨by decide +kernel, rfl⟩
theorem qX12_takes_63 : Dq cX12_takes 63 (.iaload) 1 64 := ⟨by decide +kernel, rfl⟩
theorem qX12_takes_64 : Dq cX12_takes 64 (.iadd) 1 65 := ⟨by decide +kernel, rfl⟩
theorem qX12_takes_65 : Dq cX12_takes 65 (.goto 5) 3 68 := ⟨by decide +kernel, rfl⟩
theorem qX12_takes_68 : Dq cX12_takes 68 (.bipush 12) 2 70 := ⟨by decide +kernel, rfl⟩
theorem qX12_takes_70 : Dq cX12_takes 70 (.ireturn) 1 71 := ⟨by decide +kernel, rfl⟩
set_option maxRecDepth 100000 in
set_option maxHeartbeats 4000000 in
theorem m_takes {G : Glb} {h : AHp} (hm : ShM h) {m : Nat} {kd : Nat → Nat} {nu : Nat → Int32} (hp : PtM h m kd nu) (hm6 : m ≤ 6) (hkd : ∀ i, i < m → kd i < 6) {l : Nat} (hl : l < m)  : CP G m_X12_takes 1 0 0 [.ref 38, .int (nI l)] h (fun r h' => r = some (.int (tkR (kd l) (nu l))) ∧ h = h') := by
  suffices key : ∀ P : Option Value → AHp → Prop, (∀ r h', (r = some (.int (tkR (kd l) (nu l))) ∧ h = h') → P r h') → CP G m_X12_takes 1 0 0 [.ref 38, .int (nI l)] h P from key _ (fun _ _ z => z)
  intro P hP
  refine CP.of (by decide +kernel) (Nat.le_of_ble_eq_true rfl) fun X hX hR hnm => ?_
  show V X G 3 0 0 _ 0 [some (.ref 38), some (.int (nI l)), none] [] h
  refine v_aload_n hX rfl qX12_takes_0 ?_
  refine v_getR hX g_X12_32 (hm.kd 38 rfl) (hm.rf 5 rfl) qX12_takes_1 ?_
  refine v_iload_n hX rfl qX12_takes_4 ?_
  refine v_ialdV hX (hm.kd 44 rfl) (hm.ln 44 rfl) (by exact ix_n (n := l) (by omega) rfl) (show _ = nI (kd l) from (hp.2 l hl).1) qX12_takes_5 ?_
  have hk6 := hkd l hl
  have hk0 : kd l = 0 ∨ kd l = 1 ∨ kd l = 2 ∨ kd l = 3 ∨ kd l = 4 ∨ kd l = 5 := by omega
  rcases hk0 with hk0 | hk0 | hk0 | hk0 | hk0 | hk0
  · rw [hk0] at hP ⊢
    refine v_istore_n hX (Nat.le_of_ble_eq_true rfl) rfl (ls' := [some _, some _, some _]) rfl qX12_takes_6 ?_
    refine v_iload_n hX rfl qX12_takes_7 ?_
    first | refine v_if_neB hX 13 qX12_takes_8 rfl (fun q8 => ?_) (fun q8 => ?_) | refine v_if_ne hX 13 qX12_takes_8 rfl (fun q8 => ?_) (fun q8 => ?_)
    · exact absurd rfl q8
    · skip
      refine v_iconst hX li_2 qX12_takes_11 ?_
      refine v_ireturn hX qX12_takes_12 (hP _ _ ?_)
      exact ⟨rfl, rfl⟩
  · rw [hk0] at hP ⊢
    refine v_istore_n hX (Nat.le_of_ble_eq_true rfl) rfl (ls' := [some _, some _, some _]) rfl qX12_takes_6 ?_
    refine v_iload_n hX rfl qX12_takes_7 ?_
    first | refine v_if_neB hX 13 qX12_takes_8 rfl (fun q8 => ?_) (fun q8 => ?_) | refine v_if_ne hX 13 qX12_takes_8 rfl (fun q8 => ?_) (fun q8 => ?_)
    · skip
      refine v_iload_n hX rfl qX12_takes_13 ?_
      refine v_iconst hX li_3 qX12_takes_14 ?_
      refine v_icmp_eq hX 23 qX12_takes_15 rfl (fun q15 => ?_) (fun q15 => ?_)
      · exact absurd q15 (by decide)
      · skip
        refine v_iload_n hX rfl qX12_takes_18 ?_
        refine v_iconst hX li_5 qX12_takes_19 ?_
        refine v_icmp_ne hX 41 qX12_takes_20 rfl (fun q20 => ?_) (fun q20 => ?_)
        · skip
          refine v_iload_n hX rfl qX12_takes_41 ?_
          refine v_iconst hX li_1 qX12_takes_42 ?_
          refine v_icmp_ne hX 51 qX12_takes_43 rfl (fun q43 => ?_) (fun q43 => ?_)
          · exact absurd rfl q43
          · skip
            refine v_bipush hX lb_6 qX12_takes_46 ?_
            refine v_goto hX 70 qX12_takes_48 rfl ?_
            refine v_ireturn hX qX12_takes_70 (hP _ _ ?_)
            exact ⟨rfl, rfl⟩
        · exact absurd q20 (by decide)
    · exact absurd q8 (by decide)
  · rw [hk0] at hP ⊢
    refine v_istore_n hX (Nat.le_of_ble_eq_true rfl) rfl (ls' := [some _, some _, some _]) rfl qX12_takes_6 ?_
    refine v_iload_n hX rfl qX12_takes_7 ?_
    first | refine v_if_neB hX 13 qX12_takes_8 rfl (fun q8 => ?_) (fun q8 => ?_) | refine v_if_ne hX 13 qX12_takes_8 rfl (fun q8 => ?_) (fun q8 => ?_)
    · skip
      refine v_iload_n hX rfl qX12_takes_13 ?_
      refine v_iconst hX li_3 qX12_takes_14 ?_
      refine v_icmp_eq hX 23 qX12_takes_15 rfl (fun q15 => ?_) (fun q15 => ?_)
      · exact absurd q15 (by decide)
      · skip
        refine v_iload_n hX rfl qX12_takes_18 ?_
        refine v_iconst hX li_5 qX12_takes_19 ?_
        refine v_icmp_ne hX 41 qX12_takes_20 rfl (fun q20 => ?_) (fun q20 => ?_)
        · skip
          refine v_iload_n hX rfl qX12_takes_41 ?_
          refine v_iconst hX li_1 qX12_takes_42 ?_
          refine v_icmp_ne hX 51 qX12_takes_43 rfl (fun q43 => ?_) (fun q43 => ?_)
          · skip
            refine v_iload_n hX rfl qX12_takes_51 ?_
            refine v_iconst hX li_2 qX12_takes_52 ?_
            refine v_icmp_ne hX 68 qX12_takes_53 rfl (fun q53 => ?_) (fun q53 => ?_)
            · exact absurd rfl q53
            · skip
              refine v_bipush hX lb_6 qX12_takes_56 ?_
              refine v_aload_n hX rfl qX12_takes_58 ?_
              refine v_getR hX g_X12_35 (hm.kd 38 rfl) (hm.rf 6 rfl) qX12_takes_59 ?_
              refine v_iload_n hX rfl qX12_takes_62 ?_
              refine v_ialdV hX (hm.kd 45 rfl) (hm.ln 45 rfl) (by exact ix_n (n := l) (by omega) rfl) (hp.2 l hl).2 qX12_takes_63 ?_
              refine v_iadd hX qX12_takes_64 ?_
              refine v_goto hX 70 qX12_takes_65 rfl ?_
              refine v_ireturn hX qX12_takes_70 (hP _ _ ?_)
              exact ⟨rfl, rfl⟩
          · exact absurd q43 (by decide)
        · exact absurd q20 (by decide)
    · exact absurd q8 (by decide)
  · rw [hk0] at hP ⊢
    refine v_istore_n hX (Nat.le_of_ble_eq_true rfl) rfl (ls' := [some _, some _, some _]) rfl qX12_takes_6 ?_
    refine v_iload_n hX rfl qX12_takes_7 ?_
    first | refine v_if_neB hX 13 qX12_takes_8 rfl (fun q8 => ?_) (fun q8 => ?_) | refine v_if_ne hX 13 qX12_takes_8 rfl (fun q8 => ?_) (fun q8 => ?_)
    · skip
      refine v_iload_n hX rfl qX12_takes_13 ?_
      refine v_iconst hX li_3 qX12_takes_14 ?_
      refine v_icmp_eq hX 23 qX12_takes_15 rfl (fun q15 => ?_) (fun q15 => ?_)
      · skip
        refine v_iload_n hX rfl qX12_takes_23 ?_
        refine v_iconst hX li_5 qX12_takes_24 ?_
        refine v_icmp_ne hX 39 qX12_takes_25 rfl (fun q25 => ?_) (fun q25 => ?_)
        · skip
          refine v_iconst hX li_3 qX12_takes_39 ?_
          refine v_ireturn hX qX12_takes_40 (hP _ _ ?_)
          exact ⟨rfl, rfl⟩
        · exact absurd q25 (by decide)
      · exact absurd rfl q15
    · exact absurd q8 (by decide)
  · rw [hk0] at hP ⊢
    refine v_istore_n hX (Nat.le_of_ble_eq_true rfl) rfl (ls' := [some _, some _, some _]) rfl qX12_takes_6 ?_
    refine v_iload_n hX rfl qX12_takes_7 ?_
    first | refine v_if_neB hX 13 qX12_takes_8 rfl (fun q8 => ?_) (fun q8 => ?_) | refine v_if_ne hX 13 qX12_takes_8 rfl (fun q8 => ?_) (fun q8 => ?_)
    · skip
      refine v_iload_n hX rfl qX12_takes_13 ?_
      refine v_iconst hX li_3 qX12_takes_14 ?_
      refine v_icmp_eq hX 23 qX12_takes_15 rfl (fun q15 => ?_) (fun q15 => ?_)
      · exact absurd q15 (by decide)
      · skip
        refine v_iload_n hX rfl qX12_takes_18 ?_
        refine v_iconst hX li_5 qX12_takes_19 ?_
        refine v_icmp_ne hX 41 qX12_takes_20 rfl (fun q20 => ?_) (fun q20 => ?_)
        · skip
          refine v_iload_n hX rfl qX12_takes_41 ?_
          refine v_iconst hX li_1 qX12_takes_42 ?_
          refine v_icmp_ne hX 51 qX12_takes_43 rfl (fun q43 => ?_) (fun q43 => ?_)
          · skip
            refine v_iload_n hX rfl qX12_takes_51 ?_
            refine v_iconst hX li_2 qX12_takes_52 ?_
            refine v_icmp_ne hX 68 qX12_takes_53 rfl (fun q53 => ?_) (fun q53 => ?_)
            · skip
              refine v_bipush hX lb_12 qX12_takes_68 ?_
              refine v_ireturn hX qX12_takes_70 (hP _ _ ?_)
              exact ⟨rfl, rfl⟩
            · exact absurd q53 (by decide)
          · exact absurd q43 (by decide)
        · exact absurd q20 (by decide)
    · exact absurd q8 (by decide)
  · rw [hk0] at hP ⊢
    refine v_istore_n hX (Nat.le_of_ble_eq_true rfl) rfl (ls' := [some _, some _, some _]) rfl qX12_takes_6 ?_
    refine v_iload_n hX rfl qX12_takes_7 ?_
    first | refine v_if_neB hX 13 qX12_takes_8 rfl (fun q8 => ?_) (fun q8 => ?_) | refine v_if_ne hX 13 qX12_takes_8 rfl (fun q8 => ?_) (fun q8 => ?_)
    · skip
      refine v_iload_n hX rfl qX12_takes_13 ?_
      refine v_iconst hX li_3 qX12_takes_14 ?_
      refine v_icmp_eq hX 23 qX12_takes_15 rfl (fun q15 => ?_) (fun q15 => ?_)
      · exact absurd q15 (by decide)
      · skip
        refine v_iload_n hX rfl qX12_takes_18 ?_
        refine v_iconst hX li_5 qX12_takes_19 ?_
        refine v_icmp_ne hX 41 qX12_takes_20 rfl (fun q20 => ?_) (fun q20 => ?_)
        · exact absurd rfl q20
        · skip
          refine v_iload_n hX rfl qX12_takes_23 ?_
          refine v_iconst hX li_5 qX12_takes_24 ?_
          refine v_icmp_ne hX 39 qX12_takes_25 rfl (fun q25 => ?_) (fun q25 => ?_)
          · exact absurd rfl q25
          · skip
            refine v_iconst hX li_3 qX12_takes_28 ?_
            refine v_aload_n hX rfl qX12_takes_29 ?_
            refine v_getR hX g_X12_35 (hm.kd 38 rfl) (hm.rf 6 rfl) qX12_takes_30 ?_
            refine v_iload_n hX rfl qX12_takes_33 ?_
            refine v_ialdV hX (hm.kd 45 rfl) (hm.ln 45 rfl) (by exact ix_n (n := l) (by omega) rfl) (hp.2 l hl).2 qX12_takes_34 ?_
            refine v_iadd hX qX12_takes_35 ?_
            refine v_goto hX 40 qX12_takes_36 rfl ?_
            refine v_ireturn hX qX12_takes_40 (hP _ _ ?_)
            exact ⟨rfl, rfl⟩
    · exact absurd q8 (by decide)
theorem qX12_stamps_0 : Dq cX12_stamps 0 (.aload_n 0) 1 1 := ⟨by decide +kernel, rfl⟩
theorem qX12_stamps_1 : Dq cX12_stamps 1 (.getfield 32) 3 4 := ⟨by decide +kernel, rfl⟩
theorem qX12_stamps_4 : Dq cX12_stamps 4 (.iload_n 1) 1 5 := ⟨by decide +kernel, rfl⟩
theorem qX12_stamps_5 : Dq cX12_stamps 5 (.iaload) 1 6 := ⟨by decide +kernel, rfl⟩
theorem qX12_stamps_6 : Dq cX12_stamps 6 (.istore_n 2) 1 7 := ⟨by decide +kernel, rfl⟩
theorem qX12_stamps_7 : Dq cX12_stamps 7 (.iload_n 2) 1 8 := ⟨by decide +kernel, rfl⟩
theorem qX12_stamps_8 : Dq cX12_stamps 8 (.ifCond .eq 8) 3 11 := ⟨by decide +kernel, rfl⟩
theorem qX12_stamps_11 : Dq cX12_stamps 11 (.iload_n 2) 1 12 := ⟨by decide +kernel, rfl⟩
theorem qX12_stamps_12 : Dq cX12_stamps 12 (.iconst 3) 1 13 := ⟨by decide +kernel, rfl⟩
theorem qX12_stamps_13 : Dq cX12_stamps 13 (.if_icmp .ne 5) 3 16 := ⟨by decide +kernel, rfl⟩
theorem qX12_stamps_16 : Dq cX12_stamps 16 (.iconst 2) 1 17 := ⟨by decide +kernel, rfl⟩
theorem qX12_stamps_17 : Dq cX12_stamps 17 (.ireturn) 1 18 := ⟨by decide +kernel, rfl⟩
theorem qX12_stamps_18 : Dq cX12_stamps 18 (.iload_n 2) 1 19 := ⟨by decide +kernel, rfl⟩
theorem qX12_stamps_19 : Dq cX12_stamps 19 (.iconst 5) 1 20 := ⟨by decide +kernel, rfl⟩
theorem qX12_stamps_20 : Dq cX12_stamps 20 (.if_icmp .ne 14) 3 23 := ⟨by decide +kernel, rfl⟩
theorem qX12_stamps_23 : Dq cX12_stamps 23 (.iconst 2) 1 24 := ⟨by decide +kernel, rfl⟩
theorem qX12_stamps_24 : Dq cX12_stamps 24 (.aload_n 0) 1 25 := ⟨by decide +kernel, rfl⟩
theorem qX12_stamps_25 : Dq cX12_stamps 25 (.getfield 35) 3 28 := ⟨by decide +kernel, rfl⟩
theorem qX12_stamps_28 : Dq cX12_stamps 28 (.iload_n 1) 1 29 := ⟨by decide +kernel, rfl⟩
theorem qX12_stamps_29 : Dq cX12_stamps 29 (.iaload) 1 30 := ⟨by decide +kernel, rfl⟩
theorem qX12_stamps_30 : Dq cX12_stamps 30 (.iadd) 1 31 := ⟨by decide +kernel, rfl⟩
theorem qX12_stamps_31 : Dq cX12_stamps 31 (.goto 13) 3 34 := ⟨by decide +kernel, rfl⟩
theorem qX12_stamps_34 : Dq cX12_stamps 34 (.iload_n 2) 1 35 := ⟨by decide +kernel, rfl⟩
theorem qX12_stamps_35 : Dq cX12_stamps 35 (.iconst 2) 1 36 := ⟨by decide +kernel, rfl⟩
theorem qX12_stamps_36 : Dq cX12_stamps 36 (.if_icmp .ne 7) 3 39 := ⟨by decide +kernel, rfl⟩
theorem qX12_stamps_39 : Dq cX12_stamps 39 (.iconst 0) 1 40 := ⟨by decide +kernel, rfl⟩
theorem qX12_stamps_40 : Dq cX12_stamps 40 (.goto 4) 3 43 := ⟨by decide +kernel, rfl⟩
theorem qX12_stamps_43 : Dq cX12_stamps 43 (.iconst 1) 1 44 := ⟨by decide +kernel, rfl⟩
theorem qX12_stamps_44 : Dq cX12_stamps 44 (.ireturn) 1 45 := ⟨by decide +kernel, rfl⟩
set_option maxRecDepth 100000 in
set_option maxHeartbeats 4000000 in
theorem m_stamps {G : Glb} {h : AHp} (hm : ShM h) {m : Nat} {kd : Nat → Nat} {nu : Nat → Int32} (hp : PtM h m kd nu) (hm6 : m ≤ 6) (hkd : ∀ i, i < m → kd i < 6) {l : Nat} (hl : l < m)  : CP G m_X12_stamps 1 0 0 [.ref 38, .int (nI l)] h (fun r h' => r = some (.int (smR (kd l) (nu l))) ∧ h = h') := by
  suffices key : ∀ P : Option Value → AHp → Prop, (∀ r h', (r = some (.int (smR (kd l) (nu l))) ∧ h = h') → P r h') → CP G m_X12_stamps 1 0 0 [.ref 38, .int (nI l)] h P from key _ (fun _ _ z => z)
  intro P hP
  refine CP.of (by decide +kernel) (Nat.le_of_ble_eq_true rfl) fun X hX hR hnm => ?_
  show V X G 3 0 0 _ 0 [some (.ref 38), some (.int (nI l)), none] [] h
  refine v_aload_n hX rfl qX12_stamps_0 ?_
  refine v_getR hX g_X12_32 (hm.kd 38 rfl) (hm.rf 5 rfl) qX12_stamps_1 ?_
  refine v_iload_n hX rfl qX12_stamps_4 ?_
  refine v_ialdV hX (hm.kd 44 rfl) (hm.ln 44 rfl) (by exact ix_n (n := l) (by omega) rfl) (show _ = nI (kd l) from (hp.2 l hl).1) qX12_stamps_5 ?_
  have hk6 := hkd l hl
  have hk0 : kd l = 0 ∨ kd l = 1 ∨ kd l = 2 ∨ kd l = 3 ∨ kd l = 4 ∨ kd l = 5 := by omega
  rcases hk0 with hk0 | hk0 | hk0 | hk0 | hk0 | hk0
  · rw [hk0] at hP ⊢
    refine v_istore_n hX (Nat.le_of_ble_eq_true rfl) rfl (ls' := [some _, some _, some _]) rfl qX12_stamps_6 ?_
    refine v_iload_n hX rfl qX12_stamps_7 ?_
    first | refine v_if_eqB hX 16 qX12_stamps_8 rfl (fun q8 => ?_) (fun q8 => ?_) | refine v_if_eq hX 16 qX12_stamps_8 rfl (fun q8 => ?_) (fun q8 => ?_)
    · skip
      refine v_iconst hX li_2 qX12_stamps_16 ?_
      refine v_ireturn hX qX12_stamps_17 (hP _ _ ?_)
      exact ⟨rfl, rfl⟩
    · exact absurd rfl q8
  · rw [hk0] at hP ⊢
    refine v_istore_n hX (Nat.le_of_ble_eq_true rfl) rfl (ls' := [some _, some _, some _]) rfl qX12_stamps_6 ?_
    refine v_iload_n hX rfl qX12_stamps_7 ?_
    first | refine v_if_eqB hX 16 qX12_stamps_8 rfl (fun q8 => ?_) (fun q8 => ?_) | refine v_if_eq hX 16 qX12_stamps_8 rfl (fun q8 => ?_) (fun q8 => ?_)
    · exact absurd q8 (by decide)
    · skip
      refine v_iload_n hX rfl qX12_stamps_11 ?_
      refine v_iconst hX li_3 qX12_stamps_12 ?_
      refine v_icmp_ne hX 18 qX12_stamps_13 rfl (fun q13 => ?_) (fun q13 => ?_)
      · skip
        refine v_iload_n hX rfl qX12_stamps_18 ?_
        refine v_iconst hX li_5 qX12_stamps_19 ?_
        refine v_icmp_ne hX 34 qX12_stamps_20 rfl (fun q20 => ?_) (fun q20 => ?_)
        · skip
          refine v_iload_n hX rfl qX12_stamps_34 ?_
          refine v_iconst hX li_2 qX12_stamps_35 ?_
          refine v_icmp_ne hX 43 qX12_stamps_36 rfl (fun q36 => ?_) (fun q36 => ?_)
          · skip
            refine v_iconst hX li_1 qX12_stamps_43 ?_
            refine v_ireturn hX qX12_stamps_44 (hP _ _ ?_)
            exact ⟨rfl, rfl⟩
          · exact absurd q36 (by decide)
        · exact absurd q20 (by decide)
      · exact absurd q13 (by decide)
  · rw [hk0] at hP ⊢
    refine v_istore_n hX (Nat.le_of_ble_eq_true rfl) rfl (ls' := [some _, some _, some _]) rfl qX12_stamps_6 ?_
    refine v_iload_n hX rfl qX12_stamps_7 ?_
    first | refine v_if_eqB hX 16 qX12_stamps_8 rfl (fun q8 => ?_) (fun q8 => ?_) | refine v_if_eq hX 16 qX12_stamps_8 rfl (fun q8 => ?_) (fun q8 => ?_)
    · exact absurd q8 (by decide)
    · skip
      refine v_iload_n hX rfl qX12_stamps_11 ?_
      refine v_iconst hX li_3 qX12_stamps_12 ?_
      refine v_icmp_ne hX 18 qX12_stamps_13 rfl (fun q13 => ?_) (fun q13 => ?_)
      · skip
        refine v_iload_n hX rfl qX12_stamps_18 ?_
        refine v_iconst hX li_5 qX12_stamps_19 ?_
        refine v_icmp_ne hX 34 qX12_stamps_20 rfl (fun q20 => ?_) (fun q20 => ?_)
        · skip
          refine v_iload_n hX rfl qX12_stamps_34 ?_
          refine v_iconst hX li_2 qX12_stamps_35 ?_
          refine v_icmp_ne hX 43 qX12_stamps_36 rfl (fun q36 => ?_) (fun q36 => ?_)
          · exact absurd rfl q36
          · skip
            refine v_iconst hX li_0 qX12_stamps_39 ?_
            refine v_goto hX 44 qX12_stamps_40 rfl ?_
            refine v_ireturn hX qX12_stamps_44 (hP _ _ ?_)
            exact ⟨rfl, rfl⟩
        · exact absurd q20 (by decide)
      · exact absurd q13 (by decide)
  · rw [hk0] at hP ⊢
    refine v_istore_n hX (Nat.le_of_ble_eq_true rfl) rfl (ls' := [some _, some _, some _]) rfl qX12_stamps_6 ?_
    refine v_iload_n hX rfl qX12_stamps_7 ?_
    first | refine v_if_eqB hX 16 qX12_stamps_8 rfl (fun q8 => ?_) (fun q8 => ?_) | refine v_if_eq hX 16 qX12_stamps_8 rfl (fun q8 => ?_) (fun q8 => ?_)
    · exact absurd q8 (by decide)
    · skip
      refine v_iload_n hX rfl qX12_stamps_11 ?_
      refine v_iconst hX li_3 qX12_stamps_12 ?_
      refine v_icmp_ne hX 18 qX12_stamps_13 rfl (fun q13 => ?_) (fun q13 => ?_)
      · exact absurd rfl q13
      · skip
        refine v_iconst hX li_2 qX12_stamps_16 ?_
        refine v_ireturn hX qX12_stamps_17 (hP _ _ ?_)
        exact ⟨rfl, rfl⟩
  · rw [hk0] at hP ⊢
    refine v_istore_n hX (Nat.le_of_ble_eq_true rfl) rfl (ls' := [some _, some _, some _]) rfl qX12_stamps_6 ?_
    refine v_iload_n hX rfl qX12_stamps_7 ?_
    first | refine v_if_eqB hX 16 qX12_stamps_8 rfl (fun q8 => ?_) (fun q8 => ?_) | refine v_if_eq hX 16 qX12_stamps_8 rfl (fun q8 => ?_) (fun q8 => ?_)
    · exact absurd q8 (by decide)
    · skip
      refine v_iload_n hX rfl qX12_stamps_11 ?_
      refine v_iconst hX li_3 qX12_stamps_12 ?_
      refine v_icmp_ne hX 18 qX12_stamps_13 rfl (fun q13 => ?_) (fun q13 => ?_)
      · skip
        refine v_iload_n hX rfl qX12_stamps_18 ?_
        refine v_iconst hX li_5 qX12_stamps_19 ?_
        refine v_icmp_ne hX 34 qX12_stamps_20 rfl (fun q20 => ?_) (fun q20 => ?_)
        · skip
          refine v_iload_n hX rfl qX12_stamps_34 ?_
          refine v_iconst hX li_2 qX12_stamps_35 ?_
          refine v_icmp_ne hX 43 qX12_stamps_36 rfl (fun q36 => ?_) (fun q36 => ?_)
          · skip
            refine v_iconst hX li_1 qX12_stamps_43 ?_
            refine v_ireturn hX qX12_stamps_44 (hP _ _ ?_)
            exact ⟨rfl, rfl⟩
          · exact absurd q36 (by decide)
        · exact absurd q20 (by decide)
      · exact absurd q13 (by decide)
  · rw [hk0] at hP ⊢
    refine v_istore_n hX (Nat.le_of_ble_eq_true rfl) rfl (ls' := [some _, some _, some _]) rfl qX12_stamps_6 ?_
    refine v_iload_n hX rfl qX12_stamps_7 ?_
    first | refine v_if_eqB hX 16 qX12_stamps_8 rfl (fun q8 => ?_) (fun q8 => ?_) | refine v_if_eq hX 16 qX12_stamps_8 rfl (fun q8 => ?_) (fun q8 => ?_)
    · exact absurd q8 (by decide)
    · skip
      refine v_iload_n hX rfl qX12_stamps_11 ?_
      refine v_iconst hX li_3 qX12_stamps_12 ?_
      refine v_icmp_ne hX 18 qX12_stamps_13 rfl (fun q13 => ?_) (fun q13 => ?_)
      · skip
        refine v_iload_n hX rfl qX12_stamps_18 ?_
        refine v_iconst hX li_5 qX12_stamps_19 ?_
        refine v_icmp_ne hX 34 qX12_stamps_20 rfl (fun q20 => ?_) (fun q20 => ?_)
        · exact absurd rfl q20
        · skip
          refine v_iconst hX li_2 qX12_stamps_23 ?_
          refine v_aload_n hX rfl qX12_stamps_24 ?_
          refine v_getR hX g_X12_35 (hm.kd 38 rfl) (hm.rf 6 rfl) qX12_stamps_25 ?_
          refine v_iload_n hX rfl qX12_stamps_28 ?_
          refine v_ialdV hX (hm.kd 45 rfl) (hm.ln 45 rfl) (by exact ix_n (n := l) (by omega) rfl) (hp.2 l hl).2 qX12_stamps_29 ?_
          refine v_iadd hX qX12_stamps_30 ?_
          refine v_goto hX 44 qX12_stamps_31 rfl ?_
          refine v_ireturn hX qX12_stamps_44 (hP _ _ ?_)
          exact ⟨rfl, rfl⟩
      · exact absurd q13 (by decide)
theorem qX12_good_0 : Dq cX12_good 0 (.aload_n 0) 1 1 := ⟨by decide +kernel, rfl⟩
theorem qX12_good_1 : Dq cX12_good 1 (.iload_n 2) 1 2 := ⟨by decide +kernel, rfl⟩
theorem qX12_good_2 : Dq cX12_good 2 (.invokevirtual 255) 3 5 := ⟨by decide +kernel, rfl⟩
theorem qX12_good_5 : Dq cX12_good 5 (.ifCond .eq 7) 3 8 := ⟨by decide +kernel, rfl⟩
theorem qX12_good_8 : Dq cX12_good 8 (.iconst 0) 1 9 := ⟨by decide +kernel, rfl⟩
theorem qX12_good_9 : Dq cX12_good 9 (.goto 18) 3 12 := ⟨by decide +kernel, rfl⟩
theorem qX12_good_12 : Dq cX12_good 12 (.aload_n 0) 1 13 := ⟨by decide +kernel, rfl⟩
theorem qX12_good_13 : Dq cX12_good 13 (.iload_n 1) 1 14 := ⟨by decide +kernel, rfl⟩
theorem qX12_good_14 : Dq cX12_good 14 (.aload_n 0) 1 15 := ⟨by decide +kernel, rfl⟩
theorem qX12_good_15 : Dq cX12_good 15 (.iload_n 2) 1 16 := ⟨by decide +kernel, rfl⟩
theorem qX12_good_16 : Dq cX12_good 16 (.invokevirtual 249) 3 19 := ⟨by decide +kernel, rfl⟩
theorem qX12_good_19 : Dq cX12_good 19 (.aload_n 0) 1 20 := ⟨by decide +kernel, rfl⟩
theorem qX12_good_20 : Dq cX12_good 20 (.iload_n 2) 1 21 := ⟨by decide +kernel, rfl⟩
theorem qX12_good_21 : Dq cX12_good 21 (.invokevirtual 252) 3 24 := ⟨by decide +kernel, rfl⟩
theorem qX12_good_24 : Dq cX12_good 24 (.invokevirtual 258) 3 27 := ⟨by decide +kernel, rfl⟩
theorem qX12_good_27 : Dq cX12_good 27 (.ireturn) 1 28 := ⟨by decide +kernel, rfl⟩
set_option maxRecDepth 100000 in
set_option maxHeartbeats 4000000 in
theorem m_good {G : Glb} {h : AHp} (hm : ShM h) {cnt : Nat} {TV : TVt} (htx : TxM h cnt TV) (hc6 : cnt ≤ 6) (hbe : BeOK (bm h) cnt) {m : Nat} {kd : Nat → Nat} {nu : Nat → Int32} (hp : PtM h m kd nu) (hm6 : m ≤ 6) (hkd : ∀ i, i < m → kd i < 6) {l : Nat} (hl : l < m) {q : Nat} (hq : q < 48)  : CP G m_X12_good 64 0 0 [.ref 38, .int (nI l), .int (nI q)] h (fun r h' => r = some (.int (goodB TV (bm h) (kd l) (nu l) q)) ∧ ∃ σ J, h' = mkH h σ J ∧ FrR h σ J) := by
  suffices key : ∀ P : Option Value → AHp → Prop, (∀ r h', (r = some (.int (goodB TV (bm h) (kd l) (nu l) q)) ∧ ∃ σ J, h' = mkH h σ J ∧ FrR h σ J) → P r h') → CP G m_X12_good 64 0 0 [.ref 38, .int (nI l), .int (nI q)] h P from key _ (fun _ _ z => z)
  intro P hP
  refine CP.of (by decide +kernel) (Nat.le_of_ble_eq_true rfl) fun X hX hR hnm => ?_
  show V X G 3 0 0 _ 0 [some (.ref 38), some (.int (nI l)), some (.int (nI q))] [] h
  refine v_aload_n hX rfl qX12_good_0 ?_
  refine v_iload_n hX rfl qX12_good_1 ?_
  refine v_callVq hX hR k_X12_255 (hm.kd 38 rfl) (m_isUnder (by exact hm) (by exact htx) (by exact hc6) (by exact hbe) (by exact hq)) rfl (Nat.le_of_ble_eq_true rfl) rfl (Nat.le_of_ble_eq_true rfl) ⟨Nat.le_of_ble_eq_true rfl, Nat.le_of_ble_eq_true rfl⟩ qX12_good_2 ?_
  rintro _ _ ⟨rfl, σ1, J1, rfl, hf1⟩
  first | refine v_if_eqB hX 12 qX12_good_5 rfl (fun q5 => ?_) (fun q5 => ?_) | refine v_if_eq hX 12 qX12_good_5 rfl (fun q5 => ?_) (fun q5 => ?_)
  · skip
    refine v_aload_n hX rfl qX12_good_12 ?_
    refine v_iload_n hX rfl qX12_good_13 ?_
    refine v_aload_n hX rfl qX12_good_14 ?_
    refine v_iload_n hX rfl qX12_good_15 ?_
    refine v_callVq hX hR k_X12_249 (hm.kd 38 rfl) (m_deep (by exact hm) (by exact (hf1.tx htx)) (by exact hc6) (by rw [hf1.bm]; exact hbe) (by exact hq)) rfl (Nat.le_of_ble_eq_true rfl) rfl (Nat.le_of_ble_eq_true rfl) ⟨Nat.le_of_ble_eq_true rfl, Nat.le_of_ble_eq_true rfl⟩ qX12_good_16 ?_
    rintro _ _ ⟨rfl, σ2, J2, rfl, hf2⟩
    have hf12 := hf1.tr hf2
    rw [hf1.bm]
    refine v_aload_n hX rfl qX12_good_19 ?_
    refine v_iload_n hX rfl qX12_good_20 ?_
    refine v_callVq hX hR k_X12_252 (hm.kd 38 rfl) (m_shine (by exact hm) (by exact (hf12.tx htx)) (by exact hc6) (by rw [show bm (mkH (mkH h σ1 J1) σ2 J2) = bm h from hf12.bm]; exact hbe) (by exact hq)) rfl (Nat.le_of_ble_eq_true rfl) rfl (Nat.le_of_ble_eq_true rfl) ⟨Nat.le_of_ble_eq_true rfl, Nat.le_of_ble_eq_true rfl⟩ qX12_good_21 ?_
    rintro _ _ ⟨rfl, σ3, J3, rfl, hf3⟩
    have hf13 := hf12.tr hf3
    rw [show bm (mkH (mkH h σ1 J1) σ2 J2) = bm h from hf12.bm]
    refine v_callVq hX hR k_X12_258 (hm.kd 38 rfl) (m_finds (by exact hm) (by exact (hf13.pt hp)) (by exact hm6) (by exact hkd) (by exact hl) _ _) rfl (Nat.le_of_ble_eq_true rfl) rfl (Nat.le_of_ble_eq_true rfl) ⟨Nat.le_of_ble_eq_true rfl, Nat.le_of_ble_eq_true rfl⟩ qX12_good_24 ?_
    rintro _ _ ⟨rfl, rfl⟩
    refine v_ireturn hX qX12_good_27 (hP _ _ ?_)
    first | exact ⟨by rw [goodB, if_neg q5], σ1, J1, rfl, hf1⟩ | exact ⟨by rw [goodB, if_pos (Classical.byContradiction q5)], σ3, J3, rfl, hf13⟩
  · skip
    refine v_iconst hX li_0 qX12_good_8 ?_
    refine v_goto hX 27 qX12_good_9 rfl ?_
    refine v_ireturn hX qX12_good_27 (hP _ _ ?_)
    first | exact ⟨by rw [goodB, if_neg q5], σ1, J1, rfl, hf1⟩ | exact ⟨by rw [goodB, if_pos (Classical.byContradiction q5)], σ3, J3, rfl, hf13⟩
theorem qX12_gain_0 : Dq cX12_gain 0 (.aload_n 0) 1 1 := ⟨by decide +kernel, rfl⟩
theorem qX12_gain_1 : Dq cX12_gain 1 (.getfield 23) 3 4 := ⟨by decide +kernel, rfl⟩
theorem qX12_gain_4 : Dq cX12_gain 4 (.iload_n 2) 1 5 := ⟨by decide +kernel, rfl⟩
theorem qX12_gain_5 : Dq cX12_gain 5 (.iaload) 1 6 := ⟨by decide +kernel, rfl⟩
theorem qX12_gain_6 : Dq cX12_gain 6 (.aload_n 0) 1 7 := ⟨by decide +kernel, rfl⟩
theorem qX12_gain_7 : Dq cX12_gain 7 (.iload_n 1) 1 8 := ⟨by decide +kernel, rfl⟩
theorem qX12_gain_8 : Dq cX12_gain 8 (.iload_n 2) 1 9 := ⟨by decide +kernel, rfl⟩
theorem qX12_gain_9 : Dq cX12_gain 9 (.invokevirtual 261) 3 12 := ⟨by decide +kernel, rfl⟩
theorem qX12_gain_12 : Dq cX12_gain 12 (.imul) 1 13 := ⟨by decide +kernel, rfl⟩
theorem qX12_gain_13 : Dq cX12_gain 13 (.bipush 100) 2 15 := ⟨by decide +kernel, rfl⟩
theorem qX12_gain_15 : Dq cX12_gain 15 (.idiv) 1 16 := ⟨by decide +kernel, rfl⟩
theorem qX12_gain_16 : Dq cX12_gain 16 (.ireturn) 1 17 := ⟨by decide +kernel, rfl⟩
set_option maxRecDepth 100000 in
set_option maxHeartbeats 4000000 in
theorem m_gain {G : Glb} {h : AHp} (hm : ShM h) {cnt : Nat} {TV : TVt} (htx : TxM h cnt TV) (hc6 : cnt ≤ 6) (hbe : BeOK (bm h) cnt) {m : Nat} {kd : Nat → Nat} {nu : Nat → Int32} (hp : PtM h m kd nu) (hm6 : m ≤ 6) (hkd : ∀ i, i < m → kd i < 6) {l : Nat} (hl : l < m) {q : Nat} (hq : q < 48)  : CP G m_X12_gain 65 0 0 [.ref 38, .int (nI l), .int (nI q)] h (fun r h' => r = some (.int (gainB TV (bm h) (kd l) (nu l) q)) ∧ ∃ σ J, h' = mkH h σ J ∧ FrR h σ J) := by
  suffices key : ∀ P : Option Value → AHp → Prop, (∀ r h', (r = some (.int (gainB TV (bm h) (kd l) (nu l) q)) ∧ ∃ σ J, h' = mkH h σ J ∧ FrR h σ J) → P r h') → CP G m_X12_gain 65 0 0 [.ref 38, .int (nI l), .int (nI q)] h P from key _ (fun _ _ z => z)
  intro P hP
  refine CP.of (by decide +kernel) (Nat.le_of_ble_eq_true rfl) fun X hX hR hnm => ?_
  show V X G 3 0 0 _ 0 [some (.ref 38), some (.int (nI l)), some (.int (nI q))] [] h
  refine v_aload_n hX rfl qX12_gain_0 ?_
  refine v_getR hX g_X12_23 (hm.kd 38 rfl) (hm.rf 3 rfl) qX12_gain_1 ?_
  refine v_iload_n hX rfl qX12_gain_4 ?_
  refine v_ialdV hX (hm.kd 42 rfl) (hm.ln 42 rfl) (by exact ix_n hq rfl) (bm1 hq).symm qX12_gain_5 ?_
  refine v_aload_n hX rfl qX12_gain_6 ?_
  refine v_iload_n hX rfl qX12_gain_7 ?_
  refine v_iload_n hX rfl qX12_gain_8 ?_
  refine v_callVq hX hR k_X12_261 (hm.kd 38 rfl) (m_good (by exact hm) (by exact htx) (by exact hc6) (by exact hbe) (by exact hp) (by exact hm6) (by exact hkd) (by exact hl) (by exact hq)) rfl (Nat.le_of_ble_eq_true rfl) rfl (Nat.le_of_ble_eq_true rfl) ⟨Nat.le_of_ble_eq_true rfl, Nat.le_of_ble_eq_true rfl⟩ qX12_gain_9 ?_
  rintro _ _ ⟨rfl, σ, J, rfl, hf⟩
  refine v_imul hX qX12_gain_12 ?_
  refine v_bipush hX lb_100 qX12_gain_13 ?_
  refine v_idiv hX (by decide) qX12_gain_15 ?_
  refine v_ireturn hX qX12_gain_16 (hP _ _ ?_)
  exact ⟨rfl, σ, J, rfl, hf⟩
