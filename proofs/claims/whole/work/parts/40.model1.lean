/-! the reference: its cells hold the same state; what its texts tell -/
def mkH (h : AHp) (σ : Nat → Nat → Int32) (J : Nat → Nat → Int64) : AHp := (σ, h.2.1, J, h.2.2.2)
/-- what reading a text leaves alone -/
def FrR (h : AHp) (σ : Nat → Nat → Int32) (J : Nat → Nat → Int64) : Prop := (∀ a k, ¬ (a = 38 ∧ 15 ≤ k ∧ k ≤ 29) → σ a k = hpI h a k) ∧ ∀ a, a ≠ 38 → J a = hpJ h a
/-- the bytes by', sz of them, are a text of which part w says tv w -/
def RdOK (by' : Nat → Int32) (sz : Nat) (tv : Nat → (Nat → Int32) → Int32) : Prop := ∀ (G : Glb) (h : AHp) (t w : Nat) (env : Nat → Int32), ShM h → t < 6 → (∀ i, i < sz → hpI h 39 (160 * t + i) = by' i) → hpI h 40 t = nI sz → w < 3 → (∀ k, k < 6 → hpI h 38 (15 + k) = env k) → CP G m_X12_read 60 0 0 [.ref 38, .int (nI t), .int (nI w)] h (fun r h' => r = some (.int (tv w env)) ∧ ∃ σ J, h' = mkH h σ J ∧ FrR h σ J)
def TxM (h : AHp) (cnt : Nat) (TV : TVt) : Prop := hpI h 38 3 = nI cnt ∧ ∀ t, t < cnt → ∃ by' sz, sz ≤ 160 ∧ (∀ i, i < sz → hpI h 39 (160 * t + i) = by' i) ∧ hpI h 40 t = nI sz ∧ RdOK by' sz (TV t)
theorem TxM.fr {h : AHp} {cnt : Nat} {TV : TVt} (ht : TxM h cnt TV) {σ : Nat → Nat → Int32} {J : Nat → Nat → Int64} (h1 : σ 38 3 = hpI h 38 3) (h2 : σ 39 = hpI h 39) (h3 : σ 40 = hpI h 40) : TxM (mkH h σ J) cnt TV := by
  refine ⟨h1.trans ht.1, fun t htc => ?_⟩
  obtain ⟨b, sz, z1, z2, z3, z4⟩ := ht.2 t htc
  exact ⟨b, sz, z1, fun i hi => (congrFun h2 _).trans (z2 i hi), (congrFun h3 t).trans z3, z4⟩
/-- the reference's beach -/
def bm (h : AHp) : Nat → Nat → Int32 := fun i k => if okB i k then (if i = 1 then hpI h 42 k else if i = 2 then hpI h 43 k else if k = 2 then hpI h 38 9 else if k = 3 then hpI h 38 10 else if k = 4 then hpI h 38 11 else hpI h 38 4) else 0
def KpM (h : AHp) (o : Option Bch) : Prop := (o = none ∧ hpI h 38 46 = -1) ∨ ∃ b, o = some b ∧ (∀ k, k < 48 → hpI h 52 k = b 1 k ∧ hpI h 53 k = b 2 k) ∧ hpI h 38 46 = b 0 3 ∧ hpI h 38 47 = b 0 4 ∧ hpI h 38 48 = b 0 2 ∧ hpI h 38 49 = b 0 5 ∧ ∀ i k, ¬ okI i k → b i k = 0
def PtM (h : AHp) (m : Nat) (kd : Nat → Nat) (nu : Nat → Int32) : Prop := hpI h 38 14 = nI m ∧ ∀ i, i < m → hpI h 44 i = nI (kd i) ∧ hpI h 45 i = nu i
def TpM (h : AHp) (z : Nat) (y : Nat → Int32) : Prop := hpI h 38 6 = nI z ∧ ∀ i, i < z → hpI h 41 i = y i
def StM (h : AHp) (E : Sst) : Prop := ∀ i, i < 4 → hpI h 54 i = bz (¬ sS E i = -1) ∧ (¬ sS E i = -1 → hpI h 55 i = sS E i ∧ hpI h 56 i = nI (sL E i) ∧ ∀ k, k < sL E i → hpI h 57 (40 * i + k) = sI' E i k)
/-- the reference's cells hold E -/
def MW (h : AHp) (E : Sst) : Prop := ShM h ∧ TxM h (sC E) (sT E) ∧ PtM h (sM E) (sK E) (sN E) ∧ bm h = sB E ∧ KpM h (sO E) ∧ TpM h (sZ E) (sY E) ∧ StM h E ∧ EOK E
theorem bm1 {h : AHp} {k : Nat} (hk : k < 48) : bm h 1 k = hpI h 42 k := by
  unfold bm; rw [if_pos (okB_iff.mpr (Or.inl ⟨Or.inl rfl, hk⟩)), if_pos rfl]
theorem bm2 {h : AHp} {k : Nat} (hk : k < 48) : bm h 2 k = hpI h 43 k := by
  unfold bm; rw [if_pos (okB_iff.mpr (Or.inl ⟨Or.inr rfl, hk⟩)), if_neg (by decide), if_pos rfl]
theorem bmB (h : AHp) : bm h 0 2 = hpI h 38 9 := rfl
theorem bmH (h : AHp) : bm h 0 3 = hpI h 38 10 := rfl
theorem bmN (h : AHp) : bm h 0 4 = hpI h 38 11 := rfl
theorem bmR (h : AHp) : bm h 0 5 = hpI h 38 4 := rfl
theorem bm_ext {h h' : AHp} (h1 : ∀ k, k < 48 → hpI h 42 k = hpI h' 42 k) (h2 : ∀ k, k < 48 → hpI h 43 k = hpI h' 43 k) (h3 : hpI h 38 9 = hpI h' 38 9) (h4 : hpI h 38 10 = hpI h' 38 10) (h5 : hpI h 38 11 = hpI h' 38 11) (h6 : hpI h 38 4 = hpI h' 38 4) : bm h = bm h' := by
  funext i k
  unfold bm
  by_cases ho : okB i k = true
  · rw [if_pos ho, if_pos ho]
    rcases okB_iff.mp ho with ⟨rfl | rfl, hk⟩ | ⟨rfl, hk, hk2⟩
    · exact h1 k hk
    · exact h2 k hk
    · rw [h3, h4, h5, h6]; rfl
  · rw [if_neg ho, if_neg ho]
def sunI (hr : Int32) : Int32 := mxI 0 (100 - 10 * (if 0 ≤ hr - 13 then hr - 13 else 0 - (hr - 13)))
theorem sun_a : ∀ H : Nat, H < 24 → nI H < 13 → 13 - nI H ≤ 10 → 100 - 10 * (13 - nI H) = sunI (nI H) := by decide
theorem sun_b : ∀ H : Nat, H < 24 → nI H < 13 → 10 < 13 - nI H → 0 = sunI (nI H) := by decide
theorem sun_c : ∀ H : Nat, H < 24 → 13 ≤ nI H → nI H - 13 ≤ 10 → 100 - 10 * (nI H - 13) = sunI (nI H) := by decide
theorem sun_d : ∀ H : Nat, H < 24 → 13 ≤ nI H → 10 < nI H - 13 → 0 = sunI (nI H) := by decide
theorem i64le {a b : Int32} : a.toInt64 ≤ b.toInt64 ↔ a ≤ b := by rw [Int64.le_iff_toInt_le, leI, Int32.toInt_toInt64, Int32.toInt_toInt64]
theorem i64lt {a b : Int32} : a.toInt64 < b.toInt64 ↔ a < b := by rw [Int64.lt_iff_toInt_lt, ltI, Int32.toInt_toInt64, Int32.toInt_toInt64]
def wiI (v a b : Int32) : Int32 := if v < a then a else if b < v then b else v
theorem wi_bnd {v a b : Int32} (h : a ≤ b) : wiI v a b = bnd v a b := by
  have h' := leI.mp h
  unfold wiI bnd
  by_cases z1 : v < a
  · have := ltI.mp z1
    rw [if_pos z1]
    rw [if_pos (show v < b from ltI.mpr (by omega)), if_neg (show ¬ a < v from fun z => by have := ltI.mp z; omega)]
  · rw [if_neg z1]
    rw [ltI] at z1
    by_cases z2 : b < v
    · have := ltI.mp z2
      rw [if_pos z2, if_neg (show ¬ v < b from fun z => by have := ltI.mp z; omega)]
      by_cases z3 : a < b
      · rw [if_pos z3]
      · rw [if_neg z3]; rw [ltI] at z3; exact eqI.mpr (by omega)
    · rw [if_neg z2]
      rw [ltI] at z2
      have e : (if v < b then v else b) = v := by
        by_cases z3 : v < b
        · rw [if_pos z3]
        · rw [if_neg z3]; rw [ltI] at z3; exact eqI.mpr (by omega)
      rw [e]
      by_cases z3 : a < v
      · rw [if_pos z3]
      · rw [if_neg z3]; rw [ltI] at z3; exact eqI.mpr (by omega)
theorem qX12_in_0 : Dq cX12_in 0 (.lload_n 0) 1 1 := ⟨by decide +kernel, rfl⟩
theorem qX12_in_1 : Dq cX12_in 1 (.lload_n 2) 1 2 := ⟨by decide +kernel, rfl⟩
theorem qX12_in_2 : Dq cX12_in 2 (.lcmp) 1 3 := ⟨by decide +kernel, rfl⟩
theorem qX12_in_3 : Dq cX12_in 3 (.ifCond .lt 14) 3 6 := ⟨by decide +kernel, rfl⟩
theorem qX12_in_6 : Dq cX12_in 6 (.lload_n 0) 1 7 := ⟨by decide +kernel, rfl⟩
theorem qX12_in_7 : Dq cX12_in 7 (.lload 4) 2 9 := ⟨by decide +kernel, rfl⟩
theorem qX12_in_9 : Dq cX12_in 9 (.lcmp) 1 10 := ⟨by decide +kernel, rfl⟩
theorem qX12_in_10 : Dq cX12_in 10 (.ifCond .gt 7) 3 13 := ⟨by decide +kernel, rfl⟩
theorem qX12_in_13 : Dq cX12_in 13 (.iconst 1) 1 14 := ⟨by decide +kernel, rfl⟩
theorem qX12_in_14 : Dq cX12_in 14 (.goto 4) 3 17 := ⟨by decide +kernel, rfl⟩
theorem qX12_in_17 : Dq cX12_in 17 (.iconst 0) 1 18 := ⟨by decide +kernel, rfl⟩
theorem qX12_in_18 : Dq cX12_in 18 (.ireturn) 1 19 := ⟨by decide +kernel, rfl⟩
set_option maxRecDepth 100000 in
set_option maxHeartbeats 4000000 in
theorem m_in {G : Glb} {h : AHp} (v a b : Int32) : CP G m_X12_in 1 0 0 [.long v.toInt64, .long a.toInt64, .long b.toInt64] h (fun r h' => r = some (.int (bz (a ≤ v ∧ v ≤ b))) ∧ h = h') := by
  suffices key : ∀ P : Option Value → AHp → Prop, (∀ r h', (r = some (.int (bz (a ≤ v ∧ v ≤ b))) ∧ h = h') → P r h') → CP G m_X12_in 1 0 0 [.long v.toInt64, .long a.toInt64, .long b.toInt64] h P from key _ (fun _ _ z => z)
  intro P hP
  refine CP.of (by decide +kernel) (Nat.le_of_ble_eq_true rfl) fun X hX hR hnm => ?_
  show V X G 6 0 0 _ 0 [some (.long v.toInt64), none, some (.long a.toInt64), none, some (.long b.toInt64), none] [] h
  refine v_lload_n hX rfl qX12_in_0 ?_
  refine v_lload_n hX rfl qX12_in_1 ?_
  refine v_lcmp hX qX12_in_2 ?_
  refine v_if_ltS hX 17 qX12_in_3 rfl (fun q3 => ?_) (fun q3 => ?_)
  · skip
    refine v_iconst hX li_0 qX12_in_17 ?_
    refine v_zreturn hX (by first | exact Or.inl rfl | exact Or.inr rfl | exact bz01 _) qX12_in_18 (hP _ _ ?_)
    first | exact ⟨rz (bz_t ⟨i64le.mp ((lg_cmp_ge _ _).mp q3), i64le.mp ((lg_cmp_le _ _).mp q10)⟩), rfl⟩ | exact ⟨rz (bz_f (fun z => absurd z.1 (Int32.not_le.mpr (i64lt.mp ((lg_cmp_lt _ _).mp q3))))), rfl⟩ | exact ⟨rz (bz_f (fun z => absurd z.2 (Int32.not_le.mpr (i64lt.mp ((lg_cmp_gt _ _).mp q10))))), rfl⟩
  · skip
    refine v_lload_n hX rfl qX12_in_6 ?_
    refine v_lload hX rfl qX12_in_7 ?_
    refine v_lcmp hX qX12_in_9 ?_
    refine v_if_gtS hX 17 qX12_in_10 rfl (fun q10 => ?_) (fun q10 => ?_)
    · skip
      refine v_iconst hX li_0 qX12_in_17 ?_
      refine v_zreturn hX (by first | exact Or.inl rfl | exact Or.inr rfl | exact bz01 _) qX12_in_18 (hP _ _ ?_)
      first | exact ⟨rz (bz_t ⟨i64le.mp ((lg_cmp_ge _ _).mp q3), i64le.mp ((lg_cmp_le _ _).mp q10)⟩), rfl⟩ | exact ⟨rz (bz_f (fun z => absurd z.1 (Int32.not_le.mpr (i64lt.mp ((lg_cmp_lt _ _).mp q3))))), rfl⟩ | exact ⟨rz (bz_f (fun z => absurd z.2 (Int32.not_le.mpr (i64lt.mp ((lg_cmp_gt _ _).mp q10))))), rfl⟩
    · skip
      refine v_iconst hX li_1 qX12_in_13 ?_
      refine v_goto hX 18 qX12_in_14 rfl ?_
      refine v_zreturn hX (by first | exact Or.inl rfl | exact Or.inr rfl | exact bz01 _) qX12_in_18 (hP _ _ ?_)
      first | exact ⟨rz (bz_t ⟨i64le.mp ((lg_cmp_ge _ _).mp q3), i64le.mp ((lg_cmp_le _ _).mp q10)⟩), rfl⟩ | exact ⟨rz (bz_f (fun z => absurd z.1 (Int32.not_le.mpr (i64lt.mp ((lg_cmp_lt _ _).mp q3))))), rfl⟩ | exact ⟨rz (bz_f (fun z => absurd z.2 (Int32.not_le.mpr (i64lt.mp ((lg_cmp_gt _ _).mp q10))))), rfl⟩
theorem qX12_within_0 : Dq cX12_within 0 (.iload_n 0) 1 1 := ⟨by decide +kernel, rfl⟩
theorem qX12_within_1 : Dq cX12_within 1 (.iload_n 1) 1 2 := ⟨by decide +kernel, rfl⟩
theorem qX12_within_2 : Dq cX12_within 2 (.if_icmp .ge 7) 3 5 := ⟨by decide +kernel, rfl⟩
theorem qX12_within_5 : Dq cX12_within 5 (.iload_n 1) 1 6 := ⟨by decide +kernel, rfl⟩
theorem qX12_within_6 : Dq cX12_within 6 (.goto 13) 3 9 := ⟨by decide +kernel, rfl⟩
theorem qX12_within_9 : Dq cX12_within 9 (.iload_n 0) 1 10 := ⟨by decide +kernel, rfl⟩
theorem qX12_within_10 : Dq cX12_within 10 (.iload_n 2) 1 11 := ⟨by decide +kernel, rfl⟩
theorem qX12_within_11 : Dq cX12_within 11 (.if_icmp .le 7) 3 14 := ⟨by decide +kernel, rfl⟩
theorem qX12_within_14 : Dq cX12_within 14 (.iload_n 2) 1 15 := ⟨by decide +kernel, rfl⟩
theorem qX12_within_15 : Dq cX12_within 15 (.goto 4) 3 18 := ⟨by decide +kernel, rfl⟩
theorem qX12_within_18 : Dq cX12_within 18 (.iload_n 0) 1 19 := ⟨by decide +kernel, rfl⟩
theorem qX12_within_19 : Dq cX12_within 19 (.ireturn) 1 20 := ⟨by decide +kernel, rfl⟩
set_option maxRecDepth 100000 in
set_option maxHeartbeats 4000000 in
theorem m_within {G : Glb} {h : AHp} (v a b : Int32) : CP G m_X12_within 1 0 0 [.int v, .int a, .int b] h (fun r h' => r = some (.int (wiI v a b)) ∧ h = h') := by
  suffices key : ∀ P : Option Value → AHp → Prop, (∀ r h', (r = some (.int (wiI v a b)) ∧ h = h') → P r h') → CP G m_X12_within 1 0 0 [.int v, .int a, .int b] h P from key _ (fun _ _ z => z)
  intro P hP
  refine CP.of (by decide +kernel) (Nat.le_of_ble_eq_true rfl) fun X hX hR hnm => ?_
  show V X G 3 0 0 _ 0 [some (.int v), some (.int a), some (.int b)] [] h
  refine v_iload_n hX rfl qX12_within_0 ?_
  refine v_iload_n hX rfl qX12_within_1 ?_
  refine v_icmp_geS hX 9 qX12_within_2 rfl (fun q2 => ?_) (fun q2 => ?_)
  · skip
    refine v_iload_n hX rfl qX12_within_9 ?_
    refine v_iload_n hX rfl qX12_within_10 ?_
    refine v_icmp_leS hX 18 qX12_within_11 rfl (fun q11 => ?_) (fun q11 => ?_)
    · skip
      refine v_iload_n hX rfl qX12_within_18 ?_
      refine v_ireturn hX qX12_within_19 (hP _ _ ?_)
      first | exact ⟨by rw [wiI, if_pos q2], rfl⟩ | exact ⟨by rw [wiI, if_neg (Int32.not_lt.mpr q2), if_pos q11], rfl⟩ | exact ⟨by rw [wiI, if_neg (Int32.not_lt.mpr q2), if_neg (Int32.not_lt.mpr q11)], rfl⟩
    · skip
      refine v_iload_n hX rfl qX12_within_14 ?_
      refine v_goto hX 19 qX12_within_15 rfl ?_
      refine v_ireturn hX qX12_within_19 (hP _ _ ?_)
      first | exact ⟨by rw [wiI, if_pos q2], rfl⟩ | exact ⟨by rw [wiI, if_neg (Int32.not_lt.mpr q2), if_pos q11], rfl⟩ | exact ⟨by rw [wiI, if_neg (Int32.not_lt.mpr q2), if_neg (Int32.not_lt.mpr q11)], rfl⟩
  · skip
    refine v_iload_n hX rfl qX12_within_5 ?_
    refine v_goto hX 19 qX12_within_6 rfl ?_
    refine v_ireturn hX qX12_within_19 (hP _ _ ?_)
    first | exact ⟨by rw [wiI, if_pos q2], rfl⟩ | exact ⟨by rw [wiI, if_neg (Int32.not_lt.mpr q2), if_pos q11], rfl⟩ | exact ⟨by rw [wiI, if_neg (Int32.not_lt.mpr q2), if_neg (Int32.not_lt.mpr q11)], rfl⟩
theorem qX12_isCell_0 : Dq cX12_isCell 0 (.iload_n 0) 1 1 := ⟨by decide +kernel, rfl⟩
theorem qX12_isCell_1 : Dq cX12_isCell 1 (.i2l) 1 2 := ⟨by decide +kernel, rfl⟩
theorem qX12_isCell_2 : Dq cX12_isCell 2 (.lconst 0) 1 3 := ⟨by decide +kernel, rfl⟩
theorem qX12_isCell_3 : Dq cX12_isCell 3 (.ldc2_w 85) 3 6 := ⟨by decide +kernel, rfl⟩
theorem qX12_isCell_6 : Dq cX12_isCell 6 (.invokestatic 87) 3 9 := ⟨by decide +kernel, rfl⟩
theorem qX12_isCell_9 : Dq cX12_isCell 9 (.ireturn) 1 10 := ⟨by decide +kernel, rfl⟩
set_option maxRecDepth 100000 in
set_option maxHeartbeats 4000000 in
theorem m_isCell {G : Glb} {h : AHp} (v : Int32) : CP G m_X12_isCell 2 0 0 [.int v] h (fun r h' => r = some (.int (bz (isC v))) ∧ h = h') := by
  suffices key : ∀ P : Option Value → AHp → Prop, (∀ r h', (r = some (.int (bz (isC v))) ∧ h = h') → P r h') → CP G m_X12_isCell 2 0 0 [.int v] h P from key _ (fun _ _ z => z)
  intro P hP
  refine CP.of (by decide +kernel) (Nat.le_of_ble_eq_true rfl) fun X hX hR hnm => ?_
  show V X G 1 0 0 _ 0 [some (.int v)] [] h
  refine v_iload_n hX rfl qX12_isCell_0 ?_
  refine v_i2l hX qX12_isCell_1 ?_
  refine v_lconst hX ll_0 qX12_isCell_2 ?_
  refine v_ldc2 hX c_X12_85 qX12_isCell_3 ?_
  refine v_callSq hX hR k_X12_87 (m_in _ (by exact (0)) (by exact (47))) rfl (Nat.le_of_ble_eq_true rfl) rfl (Nat.le_of_ble_eq_true rfl) ⟨Nat.le_of_ble_eq_true rfl, Nat.le_of_ble_eq_true rfl⟩ qX12_isCell_6 ?_
  rintro _ _ ⟨rfl, rfl⟩
  refine v_zreturn hX (by first | exact Or.inl rfl | exact Or.inr rfl | exact bz01 _) qX12_isCell_9 (hP _ _ ?_)
  exact ⟨rfl, rfl⟩
theorem qX12_isLooker_0 : Dq cX12_isLooker 0 (.iload_n 1) 1 1 := ⟨by decide +kernel, rfl⟩
theorem qX12_isLooker_1 : Dq cX12_isLooker 1 (.i2l) 1 2 := ⟨by decide +kernel, rfl⟩
theorem qX12_isLooker_2 : Dq cX12_isLooker 2 (.lconst 0) 1 3 := ⟨by decide +kernel, rfl⟩
theorem qX12_isLooker_3 : Dq cX12_isLooker 3 (.aload_n 0) 1 4 := ⟨by decide +kernel, rfl⟩
theorem qX12_isLooker_4 : Dq cX12_isLooker 4 (.getfield 91) 3 7 := ⟨by decide +kernel, rfl⟩
theorem qX12_isLooker_7 : Dq cX12_isLooker 7 (.iconst 1) 1 8 := ⟨by decide +kernel, rfl⟩
theorem qX12_isLooker_8 : Dq cX12_isLooker 8 (.isub) 1 9 := ⟨by decide +kernel, rfl⟩
theorem qX12_isLooker_9 : Dq cX12_isLooker 9 (.i2l) 1 10 := ⟨by decide +kernel, rfl⟩
theorem qX12_isLooker_10 : Dq cX12_isLooker 10 (.invokestatic 87) 3 13 := ⟨by decide +kernel, rfl⟩
theorem qX12_isLooker_13 : Dq cX12_isLooker 13 (.ireturn) 1 14 := ⟨by decide +kernel, rfl⟩
set_option maxRecDepth 100000 in
set_option maxHeartbeats 4000000 in
theorem m_isLooker {G : Glb} {h : AHp} (hm : ShM h) {m : Nat} (hz : hpI h 38 14 = nI m) (hm6 : m ≤ 6) (v : Int32) : CP G m_X12_isLooker 2 0 0 [.ref 38, .int v] h (fun r h' => r = some (.int (bz (0 ≤ v ∧ v < nI m))) ∧ h = h') := by
  suffices key : ∀ P : Option Value → AHp → Prop, (∀ r h', (r = some (.int (bz (0 ≤ v ∧ v < nI m))) ∧ h = h') → P r h') → CP G m_X12_isLooker 2 0 0 [.ref 38, .int v] h P from key _ (fun _ _ z => z)
  intro P hP
  refine CP.of (by decide +kernel) (Nat.le_of_ble_eq_true rfl) fun X hX hR hnm => ?_
  show V X G 2 0 0 _ 0 [some (.ref 38), some (.int v)] [] h
  refine v_iload_n hX rfl qX12_isLooker_0 ?_
  refine v_i2l hX qX12_isLooker_1 ?_
  refine v_lconst hX ll_0 qX12_isLooker_2 ?_
  refine v_aload_n hX rfl qX12_isLooker_3 ?_
  refine v_getIv hX g_X12_91 (Or.inl rfl) (hm.kd 38 rfl) hz qX12_isLooker_4 ?_
  refine v_iconst hX li_1 qX12_isLooker_7 ?_
  refine v_isub hX qX12_isLooker_8 ?_
  refine v_i2l hX qX12_isLooker_9 ?_
  refine v_callSq hX hR k_X12_87 (m_in _ (by exact (0)) _) rfl (Nat.le_of_ble_eq_true rfl) rfl (Nat.le_of_ble_eq_true rfl) ⟨Nat.le_of_ble_eq_true rfl, Nat.le_of_ble_eq_true rfl⟩ qX12_isLooker_10 ?_
  rintro _ _ ⟨rfl, rfl⟩
  refine v_zreturn hX (by first | exact Or.inl rfl | exact Or.inr rfl | exact bz01 _) qX12_isLooker_13 (hP _ _ ?_)
  exact ⟨congrArg (fun z => some (Value.int z)) (bz_c (by rw [leM1 (by omega)])), rfl⟩
theorem qX12_says_0 : Dq cX12_says 0 (.aload_n 0) 1 1 := ⟨by decide +kernel, rfl⟩
theorem qX12_says_1 : Dq cX12_says 1 (.iload_n 2) 1 2 := ⟨by decide +kernel, rfl⟩
theorem qX12_says_2 : Dq cX12_says 2 (.bipush 8) 2 4 := ⟨by decide +kernel, rfl⟩
theorem qX12_says_4 : Dq cX12_says 4 (.idiv) 1 5 := ⟨by decide +kernel, rfl⟩
theorem qX12_says_5 : Dq cX12_says 5 (.putfield 180) 3 8 := ⟨by decide +kernel, rfl⟩
theorem qX12_says_8 : Dq cX12_says 8 (.aload_n 0) 1 9 := ⟨by decide +kernel, rfl⟩
theorem qX12_says_9 : Dq cX12_says 9 (.iload_n 2) 1 10 := ⟨by decide +kernel, rfl⟩
theorem qX12_says_10 : Dq cX12_says 10 (.bipush 8) 2 12 := ⟨by decide +kernel, rfl⟩
theorem qX12_says_12 : Dq cX12_says 12 (.irem) 1 13 := ⟨by decide +kernel, rfl⟩
theorem qX12_says_13 : Dq cX12_says 13 (.putfield 183) 3 16 := ⟨by decide +kernel, rfl⟩
theorem qX12_says_16 : Dq cX12_says 16 (.aload_n 0) 1 17 := ⟨by decide +kernel, rfl⟩
theorem qX12_says_17 : Dq cX12_says 17 (.iload_n 3) 1 18 := ⟨by decide +kernel, rfl⟩
theorem qX12_says_18 : Dq cX12_says 18 (.putfield 186) 3 21 := ⟨by decide +kernel, rfl⟩
theorem qX12_says_21 : Dq cX12_says 21 (.aload_n 0) 1 22 := ⟨by decide +kernel, rfl⟩
theorem qX12_says_22 : Dq cX12_says 22 (.aload_n 0) 1 23 := ⟨by decide +kernel, rfl⟩
theorem qX12_says_23 : Dq cX12_says 23 (.getfield 26) 3 26 := ⟨by decide +kernel, rfl⟩
theorem qX12_says_26 : Dq cX12_says 26 (.iload_n 2) 1 27 := ⟨by decide +kernel, rfl⟩
theorem qX12_says_27 : Dq cX12_says 27 (.iaload) 1 28 := ⟨by decide +kernel, rfl⟩
theorem qX12_says_28 : Dq cX12_says 28 (.putfield 189) 3 31 := ⟨by decide +kernel, rfl⟩
theorem qX12_says_31 : Dq cX12_says 31 (.aload_n 0) 1 32 := ⟨by decide +kernel, rfl⟩
theorem qX12_says_32 : Dq cX12_says 32 (.aload_n 0) 1 33 := ⟨by decide +kernel, rfl⟩
theorem qX12_says_33 : Dq cX12_says 33 (.getfield 29) 3 36 := ⟨by decide +kernel, rfl⟩
theorem qX12_says_36 : Dq cX12_says 36 (.putfield 192) 3 39 := ⟨by decide +kernel, rfl⟩
theorem qX12_says_39 : Dq cX12_says 39 (.aload_n 0) 1 40 := ⟨by decide +kernel, rfl⟩
theorem qX12_says_40 : Dq cX12_says 40 (.getfield 29) 3 43 := ⟨by decide +kernel, rfl⟩
theorem qX12_says_43 : Dq cX12_says 43 (.bipush 13) 2 45 := ⟨by decide +kernel, rfl⟩
theorem qX12_says_45 : Dq cX12_says 45 (.if_icmp .ge 13) 3 48 := ⟨by decide +kernel, rfl⟩
theorem qX12_says_48 : Dq cX12_says 48 (.bipush 13) 2 50 := ⟨by decide +kernel, rfl⟩
theorem qX12_says_50 : Dq cX12_says 50 (.aload_n 0) 1 51 := ⟨by decide +kernel, rfl⟩
theorem qX12_says_51 : Dq cX12_says 51 (.getfield 29) 3 54 := ⟨by decide +kernel, rfl⟩
theorem qX12_says_54 : Dq cX12_says 54 (.isub) 1 55 := ⟨by decide +kernel, rfl⟩
theorem qX12_says_55 : Dq cX12_says 55 (.goto 10) 3 58 := ⟨by decide +kernel, rfl⟩
theorem qX12_says_58 : Dq cX12_says 58 (.aload_n 0) 1 59 := ⟨by decide +kernel, rfl⟩
theorem qX12_says_59 : Dq cX12_says 59 (.getfield 29) 3 62 := ⟨by decide +kernel, rfl⟩
theorem qX12_says_62 : Dq cX12_says 62 (.bipush 13) 2 64 := ⟨by decide +kernel, rfl⟩
theorem qX12_says_64 : Dq cX12_says 64 (.isub) 1 65 := ⟨by decide +kernel, rfl⟩
theorem qX12_says_65 : Dq cX12_says 65 (.istore 4) 2 67 := ⟨by decide +kernel, rfl⟩
theorem qX12_says_67 : Dq cX12_says 67 (.aload_n 0) 1 68 := ⟨by decide +kernel, rfl⟩
theorem qX12_says_68 : Dq cX12_says 68 (.iload 4) 2 70 := ⟨by decide +kernel, rfl⟩
theorem qX12_says_70 : Dq cX12_says 70 (.bipush 10) 2 72 := ⟨by decide +kernel, rfl⟩
theorem qX12_says_72 : Dq cX12_says 72 (.if_icmp .le 7) 3 75 := ⟨by decide +kernel, rfl⟩
theorem qX12_says_75 : Dq cX12_says 75 (.iconst 0) 1 76 := ⟨by decide +kernel, rfl⟩
theorem qX12_says_76 : Dq cX12_says 76 (.goto 11) 3 79 := ⟨by decide +kernel, rfl⟩
theorem qX12_says_79 : Dq cX12_says 79 (.bipush 100) 2 81 := ⟨by decide +kernel, rfl⟩
theorem qX12_says_81 : Dq cX12_says 81 (.bipush 10) 2 83 := ⟨by decide +kernel, rfl⟩
theorem qX12_says_83 : Dq cX12_says 83 (.iload 4) 2 85 := ⟨by decide +kernel, rfl⟩
theorem qX12_says_85 : Dq cX12_says 85 (.imul) 1 86 := ⟨by decide +kernel, rfl⟩
theorem qX12_says_86 : Dq cX12_says 86 (.isub) 1 87 := ⟨by decide +kernel, rfl⟩
theorem qX12_says_87 : Dq cX12_says 87 (.putfield 195) 3 90 := ⟨by decide +kernel, rfl⟩
theorem qX12_says_90 : Dq cX12_says 90 (.aload_n 0) 1 91 := ⟨by decide +kernel, rfl⟩
theorem qX12_says_91 : Dq cX12_says 91 (.aload_n 0) 1 92 := ⟨by decide +kernel, rfl⟩
theorem qX12_says_92 : Dq cX12_says 92 (.getfield 239) 3 95 := ⟨by decide +kernel, rfl⟩
theorem qX12_says_95 : Dq cX12_says 95 (.iload_n 1) 1 96 := ⟨by decide +kernel, rfl⟩
theorem qX12_says_96 : Dq cX12_says 96 (.invokevirtual 235) 3 99 := ⟨by decide +kernel, rfl⟩
theorem qX12_says_99 : Dq cX12_says 99 (.ireturn) 1 100 := ⟨by decide +kernel, rfl⟩
set_option maxRecDepth 100000 in
set_option maxHeartbeats 4000000 in
theorem m_says {G : Glb} {h : AHp} (hm : ShM h) {cnt : Nat} {TV : TVt} (htx : TxM h cnt TV) (hc6 : cnt ≤ 6) {rl : Nat} (hrl : rl < cnt) (hr5 : hpI h 38 4 = nI rl) {q : Nat} (hq : q < 48) (hh : inR (hpI h 38 10) 23) {w : Nat} (hw3 : w < 3) (dd : Int32) : CP G m_X12_says 61 0 0 [.ref 38, .int (nI w), .int (nI q), .int dd] h (fun r h' => r = some (.int (TV rl w (envC (nI q) (hpI h 43 q) (hpI h 38 10) dd))) ∧ ∃ σ J, h' = mkH h σ J ∧ FrR h σ J) := by
  suffices key : ∀ P : Option Value → AHp → Prop, (∀ r h', (r = some (.int (TV rl w (envC (nI q) (hpI h 43 q) (hpI h 38 10) dd))) ∧ ∃ σ J, h' = mkH h σ J ∧ FrR h σ J) → P r h') → CP G m_X12_says 61 0 0 [.ref 38, .int (nI w), .int (nI q), .int dd] h P from key _ (fun _ _ z => z)
  intro P hP
  refine CP.of (by decide +kernel) (Nat.le_of_ble_eq_true rfl) fun X hX hR hnm => ?_
  show V X G 5 0 0 _ 0 [some (.ref 38), some (.int (nI w)), some (.int (nI q)), some (.int dd), none] [] h
  obtain ⟨H, hH, eH⟩ := hh.ex (by omega)
  obtain ⟨bb, sz, z1, z2, z3, z4⟩ := htx.2 rl hrl
  rw [eH] at hP
  refine v_aload_n hX rfl qX12_says_0 ?_
  refine v_iload_n hX rfl qX12_says_1 ?_
  refine v_bipush hX lb_8 qX12_says_2 ?_
  refine v_idiv hX (by decide) qX12_says_4 ?_
  refine v_putI hX p_X12_180 (hm.kd 38 rfl) (Or.inl rfl) qX12_says_5 ?_
  refine v_aload_n hX rfl qX12_says_8 ?_
  refine v_iload_n hX rfl qX12_says_9 ?_
  refine v_bipush hX lb_8 qX12_says_10 ?_
  refine v_irem hX (by decide) qX12_says_12 ?_
  refine v_putI hX p_X12_183 (hm.kd 38 rfl) (Or.inl rfl) qX12_says_13 ?_
  refine v_aload_n hX rfl qX12_says_16 ?_
  refine v_iload_n hX rfl qX12_says_17 ?_
  refine v_putI hX p_X12_186 (hm.kd 38 rfl) (Or.inl rfl) qX12_says_18 ?_
  refine v_aload_n hX rfl qX12_says_21 ?_
  refine v_aload_n hX rfl qX12_says_22 ?_
  refine v_getR hX g_X12_26 (hm.kd 38 rfl) (hm.rf 4 rfl) qX12_says_23 ?_
  refine v_iload_n hX rfl qX12_says_26 ?_
  refine v_ialdV hX (hm.kd 43 rfl) (hm.ln 43 rfl) (by exact ix_n hq rfl) (show _ = hpI h 43 q from rfl) qX12_says_27 ?_
  refine v_putI hX p_X12_189 (hm.kd 38 rfl) (Or.inl rfl) qX12_says_28 ?_
  refine v_aload_n hX rfl qX12_says_31 ?_
  refine v_aload_n hX rfl qX12_says_32 ?_
  refine v_getIv hX g_X12_29 (Or.inl rfl) (hm.kd 38 rfl) (show _ = nI H from eH) qX12_says_33 ?_
  refine v_putI hX p_X12_192 (hm.kd 38 rfl) (Or.inl rfl) qX12_says_36 ?_
  refine v_aload_n hX rfl qX12_says_39 ?_
  refine v_getIv hX g_X12_29 (Or.inl rfl) (hm.kd 38 rfl) (show _ = nI H from eH) qX12_says_40 ?_
  refine v_bipush hX lb_13 qX12_says_43 ?_
  refine v_icmp_geS hX 58 qX12_says_45 rfl (fun q45 => ?_) (fun q45 => ?_)
  · skip
    refine v_aload_n hX rfl qX12_says_58 ?_
    refine v_getIv hX g_X12_29 (Or.inl rfl) (hm.kd 38 rfl) (show _ = nI H from eH) qX12_says_59 ?_
    refine v_bipush hX lb_13 qX12_says_62 ?_
    refine v_isub hX qX12_says_64 ?_
    refine v_istore hX (Nat.le_of_ble_eq_true rfl) rfl (ls' := [some _, some _, some _, some _, some _]) rfl qX12_says_65 ?_
    refine v_aload_n hX rfl qX12_says_67 ?_
    refine v_iload hX rfl qX12_says_68 ?_
    refine v_bipush hX lb_10 qX12_says_70 ?_
    refine v_icmp_leS hX 79 qX12_says_72 rfl (fun q72 => ?_) (fun q72 => ?_)
    · skip
      refine v_bipush hX lb_100 qX12_says_79 ?_
      refine v_bipush hX lb_10 qX12_says_81 ?_
      refine v_iload hX rfl qX12_says_83 ?_
      refine v_imul hX qX12_says_85 ?_
      refine v_isub hX qX12_says_86 ?_
      refine v_eqI (show _ = sunI (nI H) by first | exact sun_a H (by omega) q45 q72 | exact sun_b H (by omega) q45 q72 | exact sun_c H (by omega) q45 q72 | exact sun_d H (by omega) q45 q72) ?_
      refine v_putI hX p_X12_195 (hm.kd 38 rfl) (Or.inl rfl) qX12_says_87 ?_
      refine v_aload_n hX rfl qX12_says_90 ?_
      refine v_aload_n hX rfl qX12_says_91 ?_
      refine v_getIv hX g_X12_239 (Or.inl rfl) (hm.kd 38 rfl) (show _ = nI rl from hr5) qX12_says_92 ?_
      refine v_iload_n hX rfl qX12_says_95 ?_
      refine v_callVq hX hR k_X12_235 (hm.kd 38 rfl) (z4 (by exact G) (by exact (stI (stI (stI (stI (stI (stI h 38 15 (nI q / 8)) 38 16 (nI q - nI q / 8 * 8)) 38 17 dd) 38 18 (hpI h 43 q)) 38 19 (nI H)) 38 20 (sunI (nI H)))) (by exact rl) (by exact w) (by exact (envC (nI q) (hpI h 43 q) (nI H) dd)) (by exact hm) (by omega) (by exact (fun i hi => z2 i hi)) (by exact z3) (by exact hw3) (by exact (fun k hk => by
      have hk6 : k = 0 ∨ k = 1 ∨ k = 2 ∨ k = 3 ∨ k = 4 ∨ k = 5 := by omega
      rcases hk6 with rfl | rfl | rfl | rfl | rfl | rfl <;> rfl))) rfl (Nat.le_of_ble_eq_true rfl) rfl (Nat.le_of_ble_eq_true rfl) ⟨Nat.le_of_ble_eq_true rfl, Nat.le_of_ble_eq_true rfl⟩ qX12_says_96 ?_
      rintro _ _ ⟨rfl, σ, J, rfl, hf⟩
      refine v_ireturn hX qX12_says_99 (hP _ _ ?_)
      exact ⟨rfl, σ, J, rfl, fun a k hk => (hf.1 a k hk).trans (by rw [hpI_st, if_neg (by omega), hpI_st, if_neg (by omega), hpI_st, if_neg (by omega), hpI_st, if_neg (by omega), hpI_st, if_neg (by omega), hpI_st, if_neg (by omega)]), hf.2⟩
    · skip
      refine v_iconst hX li_0 qX12_says_75 ?_
      refine v_goto hX 87 qX12_says_76 rfl ?_
      refine v_eqI (show _ = sunI (nI H) by first | exact sun_a H (by omega) q45 q72 | exact sun_b H (by omega) q45 q72 | exact sun_c H (by omega) q45 q72 | exact sun_d H (by omega) q45 q72) ?_
      refine v_putI hX p_X12_195 (hm.kd 38 rfl) (Or.inl rfl) qX12_says_87 ?_
      refine v_aload_n hX rfl qX12_says_90 ?_
      refine v_aload_n hX rfl qX12_says_91 ?_
      refine v_getIv hX g_X12_239 (Or.inl rfl) (hm.kd 38 rfl) (show _ = nI rl from hr5) qX12_says_92 ?_
      refine v_iload_n hX rfl qX12_says_95 ?_
      refine v_callVq hX hR k_X12_235 (hm.kd 38 rfl) (z4 (by exact G) (by exact (stI (stI (stI (stI (stI (stI h 38 15 (nI q / 8)) 38 16 (nI q - nI q / 8 * 8)) 38 17 dd) 38 18 (hpI h 43 q)) 38 19 (nI H)) 38 20 (sunI (nI H)))) (by exact rl) (by exact w) (by exact (envC (nI q) (hpI h 43 q) (nI H) dd)) (by exact hm) (by omega) (by exact (fun i hi => z2 i hi)) (by exact z3) (by exact hw3) (by exact (fun k hk => by
      have hk6 : k = 0 ∨ k = 1 ∨ k = 2 ∨ k = 3 ∨ k = 4 ∨ k = 5 := by omega
      rcases hk6 with rfl | rfl | rfl | rfl | rfl | rfl <;> rfl))) rfl (Nat.le_of_ble_eq_true rfl) rfl (Nat.le_of_ble_eq_true rfl) ⟨Nat.le_of_ble_eq_true rfl, Nat.le_of_ble_eq_true rfl⟩ qX12_says_96 ?_
      rintro _ _ ⟨rfl, σ, J, rfl, hf⟩
      refine v_ireturn hX qX12_says_99 (hP _ _ ?_)
      exact ⟨rfl, σ, J, rfl, fun a k hk => (hf.1 a k hk).trans (by rw [hpI_st, if_neg (by omega), hpI_st, if_neg (by omega), hpI_st, if_neg (by omega), hpI_st, if_neg (by omega), hpI_st, if_neg (by omega), hpI_st, if_neg (by omega)]), hf.2⟩
  · skip
    refine v_bipush hX lb_13 qX12_says_48 ?_
    refine v_aload_n hX rfl qX12_says_50 ?_
    refine v_getIv hX g_X12_29 (Or.inl rfl) (hm.kd 38 rfl) (show _ = nI H from eH) qX12_says_51 ?_
    refine v_isub hX qX12_says_54 ?_
    refine v_goto hX 65 qX12_says_55 rfl ?_
    refine v_istore hX (Nat.le_of_ble_eq_true rfl) rfl (ls' := [some _, some _, some _, some _, some _]) rfl qX12_says_65 ?_
    refine v_aload_n hX rfl qX12_says_67 ?_
    refine v_iload hX rfl qX12_says_68 ?_
    refine v_bipush hX lb_10 qX12_says_70 ?_
    refine v_icmp_leS hX 79 qX12_says_72 rfl (fun q72 => ?_) (fun q72 => ?_)
    · skip
      refine v_bipush hX lb_100 qX12_says_79 ?_
      refine v_bipush hX lb_10 qX12_says_81 ?_
      refine v_iload hX rfl qX12_says_83 ?_
      refine v_imul hX qX12_says_85 ?_
      refine v_isub hX qX12_says_86 ?_
      refine v_eqI (show _ = sunI (nI H) by first | exact sun_a H (by omega) q45 q72 | exact sun_b H (by omega) q45 q72 | exact sun_c H (by omega) q45 q72 | exact sun_d H (by omega) q45 q72) ?_
      refine v_putI hX p_X12_195 (hm.kd 38 rfl) (Or.inl rfl) qX12_says_87 ?_
      refine v_aload_n hX rfl qX12_says_90 ?_
      refine v_aload_n hX rfl qX12_says_91 ?_
      refine v_getIv hX g_X12_239 (Or.inl rfl) (hm.kd 38 rfl) (show _ = nI rl from hr5) qX12_says_92 ?_
      refine v_iload_n hX rfl qX12_says_95 ?_
      refine v_callVq hX hR k_X12_235 (hm.kd 38 rfl) (z4 (by exact G) (by exact (stI (stI (stI (stI (stI (stI h 38 15 (nI q / 8)) 38 16 (nI q - nI q / 8 * 8)) 38 17 dd) 38 18 (hpI h 43 q)) 38 19 (nI H)) 38 20 (sunI (nI H)))) (by exact rl) (by exact w) (by exact (envC (nI q) (hpI h 43 q) (nI H) dd)) (by exact hm) (by omega) (by exact (fun i hi => z2 i hi)) (by exact z3) (by exact hw3) (by exact (fun k hk => by
      have hk6 : k = 0 ∨ k = 1 ∨ k = 2 ∨ k = 3 ∨ k = 4 ∨ k = 5 := by omega
      rcases hk6 with rfl | rfl | rfl | rfl | rfl | rfl <;> rfl))) rfl (Nat.le_of_ble_eq_true rfl) rfl (Nat.le_of_ble_eq_true rfl) ⟨Nat.le_of_ble_eq_true rfl, Nat.le_of_ble_eq_true rfl⟩ qX12_says_96 ?_
      rintro _ _ ⟨rfl, σ, J, rfl, hf⟩
      refine v_ireturn hX qX12_says_99 (hP _ _ ?_)
      exact ⟨rfl, σ, J, rfl, fun a k hk => (hf.1 a k hk).trans (by rw [hpI_st, if_neg (by omega), hpI_st, if_neg (by omega), hpI_st, if_neg (by omega), hpI_st, if_neg (by omega), hpI_st, if_neg (by omega), hpI_st, if_neg (by omega)]), hf.2⟩
    · skip
      refine v_iconst hX li_0 qX12_says_75 ?_
      refine v_goto hX 87 qX12_says_76 rfl ?_
      refine v_eqI (show _ = sunI (nI H) by first | exact sun_a H (by omega) q45 q72 | exact sun_b H (by omega) q45 q72 | exact sun_c H (by omega) q45 q72 | exact sun_d H (by omega) q45 q72) ?_
      refine v_putI hX p_X12_195 (hm.kd 38 rfl) (Or.inl rfl) qX12_says_87 ?_
      refine v_aload_n hX rfl qX12_says_90 ?_
      refine v_aload_n hX rfl qX12_says_91 ?_
      refine v_getIv hX g_X12_239 (Or.inl rfl) (hm.kd 38 rfl) (show _ = nI rl from hr5) qX12_says_92 ?_
      refine v_iload_n hX rfl qX12_says_95 ?_
      refine v_callVq hX hR k_X12_235 (hm.kd 38 rfl) (z4 (by exact G) (by exact (stI (stI (stI (stI (stI (stI h 38 15 (nI q / 8)) 38 16 (nI q - nI q / 8 * 8)) 38 17 dd) 38 18 (hpI h 43 q)) 38 19 (nI H)) 38 20 (sunI (nI H)))) (by exact rl) (by exact w) (by exact (envC (nI q) (hpI h 43 q) (nI H) dd)) (by exact hm) (by omega) (by exact (fun i hi => z2 i hi)) (by exact z3) (by exact hw3) (by exact (fun k hk => by
      have hk6 : k = 0 ∨ k = 1 ∨ k = 2 ∨ k = 3 ∨ k = 4 ∨ k = 5 := by omega
      rcases hk6 with rfl | rfl | rfl | rfl | rfl | rfl <;> rfl))) rfl (Nat.le_of_ble_eq_true rfl) rfl (Nat.le_of_ble_eq_true rfl) ⟨Nat.le_of_ble_eq_true rfl, Nat.le_of_ble_eq_true rfl⟩ qX12_says_96 ?_
      rintro _ _ ⟨rfl, σ, J, rfl, hf⟩
      refine v_ireturn hX qX12_says_99 (hP _ _ ?_)
      exact ⟨rfl, σ, J, rfl, fun a k hk => (hf.1 a k hk).trans (by rw [hpI_st, if_neg (by omega), hpI_st, if_neg (by omega), hpI_st, if_neg (by omega), hpI_st, if_neg (by omega), hpI_st, if_neg (by omega), hpI_st, if_neg (by omega)]), hf.2⟩
