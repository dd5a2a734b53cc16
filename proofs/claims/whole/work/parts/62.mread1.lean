/-! the reference: small steps of its reader; the next token -/
/-- what reading leaves alone -/
def FrE (h : AHp) (σ : Nat → Nat → Int32) (J : Nat → Nat → Int64) : Prop := (∀ a k, ¬ (a = 38 ∧ 21 ≤ k ∧ k ≤ 29) → σ a k = hpI h a k) ∧ ∀ a, a ≠ 38 → J a = hpJ h a
theorem FrE.tr {h : AHp} {σ σ' : Nat → Nat → Int32} {J J' : Nat → Nat → Int64} (a : FrE h σ J) (b : FrE (mkH h σ J) σ' J') : FrE h σ' J' := ⟨fun x k hk => (b.1 x k hk).trans (a.1 x k hk), fun x hx => (b.2 x hx).trans (a.2 x hx)⟩
theorem FrE.r {h : AHp} {σ : Nat → Nat → Int32} {J : Nat → Nat → Int64} (a : FrE h σ J) : FrR h σ J := ⟨fun x k hk => a.1 x k (by omega), a.2⟩
theorem FrE.rf (h : AHp) : FrE h h.1 h.2.2.1 := ⟨fun _ _ _ => rfl, fun _ _ => rfl⟩
/-- text t lies there, sz long; o are open -/
def MTx (by' : Nat → Int32) (sz t o : Nat) (h : AHp) : Prop := t < 6 ∧ (sz ≤ 160 ∧ ∀ k, k < sz → 0 ≤ by' k) ∧ (∀ k, k < sz → hpI h 39 (160 * t + k) = by' k) ∧ hpI h 38 21 = nI (160 * t) ∧ hpI h 38 22 = nI sz ∧ hpI h 38 27 = nI o ∧ hpI h 38 28 = 0
/-- the token at place p is read -/
def MTo (by' : Nat → Int32) (sz p : Nat) (h : AHp) : Prop := p ≤ sz ∧ hpI h 38 24 = mT by' sz p ∧ hpI h 38 25 = nI p ∧ (mT by' sz p = 1 → hpI h 38 23 = nI (wnd by' sz p)) ∧ (mT by' sz p = 2 → hpI h 38 23 = nI (nnd by' sz p) ∧ hpJ h 38 26 = lN (nvN by' sz p (nnd by' sz p - p))) ∧ (mT by' sz p = 3 → hpI h 38 23 = nI (p + 1) ∧ hpJ h 38 26 = (btA by' sz p).toInt64)
theorem MTx.e {by' : Nat → Int32} {sz t o : Nat} {h h' : AHp} (hx : MTx by' sz t o h) (h1 : hpI h' 39 = hpI h 39) (h2 : hpI h' 38 21 = hpI h 38 21) (h3 : hpI h' 38 22 = hpI h 38 22) {o' : Nat} (h4 : hpI h' 38 27 = nI o') (h5 : hpI h' 38 28 = hpI h 38 28) : MTx by' sz t o' h' := ⟨hx.1, hx.2.1, fun k hk => (congrFun h1 _).trans (hx.2.2.1 k hk), h2.trans hx.2.2.2.1, h3.trans hx.2.2.2.2.1, h4, h5.trans hx.2.2.2.2.2.2⟩
theorem qX12_byteAt_0 : Dq cX12_byteAt 0 (.iload_n 1) 1 1 := ⟨by decide +kernel, rfl⟩
theorem qX12_byteAt_1 : Dq cX12_byteAt 1 (.aload_n 0) 1 2 := ⟨by decide +kernel, rfl⟩
theorem qX12_byteAt_2 : Dq cX12_byteAt 2 (.getfield 123) 3 5 := ⟨by decide +kernel, rfl⟩
theorem qX12_byteAt_5 : Dq cX12_byteAt 5 (.if_icmp .ge 17) 3 8 := ⟨by decide +kernel, rfl⟩
theorem qX12_byteAt_8 : Dq cX12_byteAt 8 (.aload_n 0) 1 9 := ⟨by decide +kernel, rfl⟩
theorem qX12_byteAt_9 : Dq cX12_byteAt 9 (.getfield 13) 3 12 := ⟨by decide +kernel, rfl⟩
theorem qX12_byteAt_12 : Dq cX12_byteAt 12 (.aload_n 0) 1 13 := ⟨by decide +kernel, rfl⟩
theorem qX12_byteAt_13 : Dq cX12_byteAt 13 (.getfield 126) 3 16 := ⟨by decide +kernel, rfl⟩
theorem qX12_byteAt_16 : Dq cX12_byteAt 16 (.iload_n 1) 1 17 := ⟨by decide +kernel, rfl⟩
theorem qX12_byteAt_17 : Dq cX12_byteAt 17 (.iadd) 1 18 := ⟨by decide +kernel, rfl⟩
theorem qX12_byteAt_18 : Dq cX12_byteAt 18 (.iaload) 1 19 := ⟨by decide +kernel, rfl⟩
theorem qX12_byteAt_19 : Dq cX12_byteAt 19 (.goto 4) 3 22 := ⟨by decide +kernel, rfl⟩
theorem qX12_byteAt_22 : Dq cX12_byteAt 22 (.iconst (-1)) 1 23 := ⟨by decide +kernel, rfl⟩
theorem qX12_byteAt_23 : Dq cX12_byteAt 23 (.ireturn) 1 24 := ⟨by decide +kernel, rfl⟩
set_option maxRecDepth 100000 in
set_option maxHeartbeats 4000000 in
theorem m_byteAt {G : Glb} {h : AHp} (hm : ShM h) {by' : Nat → Int32} {sz t o : Nat} (hx : MTx by' sz t o h) {i : Nat} (hi : i < 2000000) : CP G m_X12_byteAt 1 0 0 [.ref 38, .int (nI i)] h (fun r h' => r = some (.int (btA by' sz i)) ∧ h = h') := by
  suffices key : ∀ P : Option Value → AHp → Prop, (∀ r h', (r = some (.int (btA by' sz i)) ∧ h = h') → P r h') → CP G m_X12_byteAt 1 0 0 [.ref 38, .int (nI i)] h P from key _ (fun _ _ z => z)
  intro P hP
  refine CP.of (by decide +kernel) (Nat.le_of_ble_eq_true rfl) fun X hX hR hnm => ?_
  show V X G 2 0 0 _ 0 [some (.ref 38), some (.int (nI i))] [] h
  obtain ⟨ht6, ⟨hs160, -⟩, hby, h21, h22, h27, h28⟩ := hx
  refine v_iload_n hX rfl qX12_byteAt_0 ?_
  refine v_aload_n hX rfl qX12_byteAt_1 ?_
  refine v_getIv hX g_X12_123 (Or.inl rfl) (hm.kd 38 rfl) h22 qX12_byteAt_2 ?_
  refine v_icmp_geS hX 22 qX12_byteAt_5 rfl (fun q5 => ?_) (fun q5 => ?_)
  · have hno := nI_le' (i := sz) (s := i) (by omega) (by omega) q5
    refine v_iconst hX li_n1 qX12_byteAt_22 ?_
    refine v_ireturn hX qX12_byteAt_23 (hP _ _ ?_)
    first | exact ⟨congrArg (fun z => some (Value.int z)) (btA_in hin).symm, rfl⟩ | exact ⟨congrArg (fun z => some (Value.int z)) (btA_no hno).symm, rfl⟩
  · have hin := nI_lt' (i := i) (s := sz) (by omega) (by omega) q5
    refine v_aload_n hX rfl qX12_byteAt_8 ?_
    refine v_getR hX g_X12_13 (hm.kd 38 rfl) (hm.rf 0 rfl) qX12_byteAt_9 ?_
    refine v_aload_n hX rfl qX12_byteAt_12 ?_
    refine v_getIv hX g_X12_126 (Or.inl rfl) (hm.kd 38 rfl) h21 qX12_byteAt_13 ?_
    refine v_iload_n hX rfl qX12_byteAt_16 ?_
    refine v_iadd hX qX12_byteAt_17 ?_
    refine v_eqI (nI_add _ _) ?_
    refine v_ialdV hX (hm.kd 39 rfl) (hm.ln 39 rfl) (by exact ix_n (n := 160 * t + i) (by omega) rfl) (hby i hin) qX12_byteAt_18 ?_
    refine v_goto hX 23 qX12_byteAt_19 rfl ?_
    refine v_ireturn hX qX12_byteAt_23 (hP _ _ ?_)
    first | exact ⟨congrArg (fun z => some (Value.int z)) (btA_in hin).symm, rfl⟩ | exact ⟨congrArg (fun z => some (Value.int z)) (btA_no hno).symm, rfl⟩
theorem qX12_fail_0 : Dq cX12_fail 0 (.aload_n 0) 1 1 := ⟨by decide +kernel, rfl⟩
theorem qX12_fail_1 : Dq cX12_fail 1 (.getfield 156) 3 4 := ⟨by decide +kernel, rfl⟩
theorem qX12_fail_4 : Dq cX12_fail 4 (.ifCond .ne 16) 3 7 := ⟨by decide +kernel, rfl⟩
theorem qX12_fail_7 : Dq cX12_fail 7 (.aload_n 0) 1 8 := ⟨by decide +kernel, rfl⟩
theorem qX12_fail_8 : Dq cX12_fail 8 (.iconst 1) 1 9 := ⟨by decide +kernel, rfl⟩
theorem qX12_fail_9 : Dq cX12_fail 9 (.putfield 156) 3 12 := ⟨by decide +kernel, rfl⟩
theorem qX12_fail_12 : Dq cX12_fail 12 (.aload_n 0) 1 13 := ⟨by decide +kernel, rfl⟩
theorem qX12_fail_13 : Dq cX12_fail 13 (.aload_n 0) 1 14 := ⟨by decide +kernel, rfl⟩
theorem qX12_fail_14 : Dq cX12_fail 14 (.getfield 136) 3 17 := ⟨by decide +kernel, rfl⟩
theorem qX12_fail_17 : Dq cX12_fail 17 (.putfield 160) 3 20 := ⟨by decide +kernel, rfl⟩
theorem qX12_fail_20 : Dq cX12_fail 20 (.return_) 1 21 := ⟨by decide +kernel, rfl⟩
set_option maxRecDepth 100000 in
set_option maxHeartbeats 4000000 in
theorem m_fail0 {G : Glb} {h : AHp} (hm : ShM h) (hb : hpI h 38 28 = 0) {p : Nat} (hp : hpI h 38 25 = nI p) : CP G m_X12_fail 1 0 0 [.ref 38] h (fun r h' => r = none ∧ stI (stI h 38 28 1) 38 29 (nI p) = h') := by
  suffices key : ∀ P : Option Value → AHp → Prop, (∀ r h', (r = none ∧ stI (stI h 38 28 1) 38 29 (nI p) = h') → P r h') → CP G m_X12_fail 1 0 0 [.ref 38] h P from key _ (fun _ _ z => z)
  intro P hP
  refine CP.of (by decide +kernel) (Nat.le_of_ble_eq_true rfl) fun X hX hR hnm => ?_
  show V X G 1 0 0 _ 0 [some (.ref 38)] [] h
  refine v_aload_n hX rfl qX12_fail_0 ?_
  refine v_getIv hX g_X12_156 (Or.inr rfl) (hm.kd 38 rfl) hb qX12_fail_1 ?_
  first | refine v_if_neB hX 20 qX12_fail_4 rfl (fun q4 => ?_) (fun q4 => ?_) | refine v_if_ne hX 20 qX12_fail_4 rfl (fun q4 => ?_) (fun q4 => ?_)
  · exact absurd rfl q4
  · skip
    refine v_aload_n hX rfl qX12_fail_7 ?_
    refine v_iconst hX li_1 qX12_fail_8 ?_
    refine v_putZ hX (by first | exact nz_0 | exact nz_1 | exact nz_b _) p_X12_156 (hm.kd 38 rfl) (Or.inl rfl) qX12_fail_9 ?_
    refine v_aload_n hX rfl qX12_fail_12 ?_
    refine v_aload_n hX rfl qX12_fail_13 ?_
    refine v_getIv hX g_X12_136 (Or.inl rfl) (hm.kd 38 rfl) (show _ = nI p from hp) qX12_fail_14 ?_
    refine v_putI hX p_X12_160 (hm.kd 38 rfl) (Or.inl rfl) qX12_fail_17 ?_
    refine v_return hX qX12_fail_20 (hP _ _ ?_)
    exact ⟨rfl, rfl⟩
set_option maxRecDepth 100000 in
set_option maxHeartbeats 4000000 in
theorem m_fail1 {G : Glb} {h : AHp} (hm : ShM h) (hb : hpI h 38 28 = 1) : CP G m_X12_fail 1 0 0 [.ref 38] h (fun r h' => r = none ∧ h = h') := by
  suffices key : ∀ P : Option Value → AHp → Prop, (∀ r h', (r = none ∧ h = h') → P r h') → CP G m_X12_fail 1 0 0 [.ref 38] h P from key _ (fun _ _ z => z)
  intro P hP
  refine CP.of (by decide +kernel) (Nat.le_of_ble_eq_true rfl) fun X hX hR hnm => ?_
  show V X G 1 0 0 _ 0 [some (.ref 38)] [] h
  refine v_aload_n hX rfl qX12_fail_0 ?_
  refine v_getIv hX g_X12_156 (Or.inr rfl) (hm.kd 38 rfl) hb qX12_fail_1 ?_
  first | refine v_if_neB hX 20 qX12_fail_4 rfl (fun q4 => ?_) (fun q4 => ?_) | refine v_if_ne hX 20 qX12_fail_4 rfl (fun q4 => ?_) (fun q4 => ?_)
  · skip
    refine v_return hX qX12_fail_20 (hP _ _ ?_)
    exact ⟨rfl, rfl⟩
  · exact absurd q4 (by decide)
theorem qX12_isSign_0 : Dq cX12_isSign 0 (.aload_n 0) 1 1 := ⟨by decide +kernel, rfl⟩
theorem qX12_isSign_1 : Dq cX12_isSign 1 (.getfield 156) 3 4 := ⟨by decide +kernel, rfl⟩
theorem qX12_isSign_4 : Dq cX12_isSign 4 (.ifCond .ne 25) 3 7 := ⟨by decide +kernel, rfl⟩
theorem qX12_isSign_7 : Dq cX12_isSign 7 (.aload_n 0) 1 8 := ⟨by decide +kernel, rfl⟩
theorem qX12_isSign_8 : Dq cX12_isSign 8 (.getfield 139) 3 11 := ⟨by decide +kernel, rfl⟩
theorem qX12_isSign_11 : Dq cX12_isSign 11 (.iconst 3) 1 12 := ⟨by decide +kernel, rfl⟩
theorem qX12_isSign_12 : Dq cX12_isSign 12 (.if_icmp .ne 17) 3 15 := ⟨by decide +kernel, rfl⟩
theorem qX12_isSign_15 : Dq cX12_isSign 15 (.aload_n 0) 1 16 := ⟨by decide +kernel, rfl⟩
theorem qX12_isSign_16 : Dq cX12_isSign 16 (.getfield 150) 3 19 := ⟨by decide +kernel, rfl⟩
theorem qX12_isSign_19 : Dq cX12_isSign 19 (.iload_n 1) 1 20 := ⟨by decide +kernel, rfl⟩
theorem qX12_isSign_20 : Dq cX12_isSign 20 (.i2l) 1 21 := ⟨by decide +kernel, rfl⟩
theorem qX12_isSign_21 : Dq cX12_isSign 21 (.lcmp) 1 22 := ⟨by decide +kernel, rfl⟩
theorem qX12_isSign_22 : Dq cX12_isSign 22 (.ifCond .ne 7) 3 25 := ⟨by decide +kernel, rfl⟩
theorem qX12_isSign_25 : Dq cX12_isSign 25 (.iconst 1) 1 26 := ⟨by decide +kernel, rfl⟩
theorem qX12_isSign_26 : Dq cX12_isSign 26 (.goto 4) 3 29 := ⟨by decide +kernel, rfl⟩
theorem qX12_isSign_29 : Dq cX12_isSign 29 (.iconst 0) 1 30 := ⟨by decide +kernel, rfl⟩
theorem qX12_isSign_30 : Dq cX12_isSign 30 (.ireturn) 1 31 := ⟨by decide +kernel, rfl⟩
set_option maxRecDepth 100000 in
set_option maxHeartbeats 4000000 in
theorem m_isSign {G : Glb} {h : AHp} (hm : ShM h) (s : Int32) : CP G m_X12_isSign 1 0 0 [.ref 38, .int s] h (fun r h' => r = some (.int (bz (hpI h 38 28 = 0 ∧ hpI h 38 24 = 3 ∧ hpJ h 38 26 = s.toInt64))) ∧ h = h') := by
  suffices key : ∀ P : Option Value → AHp → Prop, (∀ r h', (r = some (.int (bz (hpI h 38 28 = 0 ∧ hpI h 38 24 = 3 ∧ hpJ h 38 26 = s.toInt64))) ∧ h = h') → P r h') → CP G m_X12_isSign 1 0 0 [.ref 38, .int s] h P from key _ (fun _ _ z => z)
  intro P hP
  refine CP.of (by decide +kernel) (Nat.le_of_ble_eq_true rfl) fun X hX hR hnm => ?_
  show V X G 2 0 0 _ 0 [some (.ref 38), some (.int s)] [] h
  refine v_aload_n hX rfl qX12_isSign_0 ?_
  refine v_getI hX g_X12_156 (Or.inr rfl) (hm.kd 38 rfl) qX12_isSign_1 ?_
  first | refine v_if_neB hX 29 qX12_isSign_4 rfl (fun q4 => ?_) (fun q4 => ?_) | refine v_if_ne hX 29 qX12_isSign_4 rfl (fun q4 => ?_) (fun q4 => ?_)
  · skip
    refine v_iconst hX li_0 qX12_isSign_29 ?_
    refine v_zreturn hX (by first | exact Or.inl rfl | exact Or.inr rfl | exact bz01 _) qX12_isSign_30 (hP _ _ ?_)
    first | exact ⟨rz (bz_f (fun z => q4 z.1)), rfl⟩ | exact ⟨rz (bz_f (fun z => q12 z.2.1)), rfl⟩ | exact ⟨rz (bz_f (fun z => q22 ((lg_cmp_eq _ _).mpr z.2.2))), rfl⟩ | exact ⟨rz (bz_t ⟨by first | exact q4 | exact Classical.byContradiction q4, q12, (lg_cmp_eq _ _).mp (by first | exact q22 | exact Classical.byContradiction q22)⟩), rfl⟩
  · skip
    refine v_aload_n hX rfl qX12_isSign_7 ?_
    refine v_getI hX g_X12_139 (Or.inl rfl) (hm.kd 38 rfl) qX12_isSign_8 ?_
    refine v_iconst hX li_3 qX12_isSign_11 ?_
    refine v_icmp_ne hX 29 qX12_isSign_12 rfl (fun q12 => ?_) (fun q12 => ?_)
    · skip
      refine v_iconst hX li_0 qX12_isSign_29 ?_
      refine v_zreturn hX (by first | exact Or.inl rfl | exact Or.inr rfl | exact bz01 _) qX12_isSign_30 (hP _ _ ?_)
      first | exact ⟨rz (bz_f (fun z => q4 z.1)), rfl⟩ | exact ⟨rz (bz_f (fun z => q12 z.2.1)), rfl⟩ | exact ⟨rz (bz_f (fun z => q22 ((lg_cmp_eq _ _).mpr z.2.2))), rfl⟩ | exact ⟨rz (bz_t ⟨by first | exact q4 | exact Classical.byContradiction q4, q12, (lg_cmp_eq _ _).mp (by first | exact q22 | exact Classical.byContradiction q22)⟩), rfl⟩
    · skip
      refine v_aload_n hX rfl qX12_isSign_15 ?_
      refine v_getJ hX g_X12_150 (hm.kd 38 rfl) qX12_isSign_16 ?_
      refine v_iload_n hX rfl qX12_isSign_19 ?_
      refine v_i2l hX qX12_isSign_20 ?_
      refine v_lcmp hX qX12_isSign_21 ?_
      first | refine v_if_neB hX 29 qX12_isSign_22 rfl (fun q22 => ?_) (fun q22 => ?_) | refine v_if_ne hX 29 qX12_isSign_22 rfl (fun q22 => ?_) (fun q22 => ?_)
      · skip
        refine v_iconst hX li_0 qX12_isSign_29 ?_
        refine v_zreturn hX (by first | exact Or.inl rfl | exact Or.inr rfl | exact bz01 _) qX12_isSign_30 (hP _ _ ?_)
        first | exact ⟨rz (bz_f (fun z => q4 z.1)), rfl⟩ | exact ⟨rz (bz_f (fun z => q12 z.2.1)), rfl⟩ | exact ⟨rz (bz_f (fun z => q22 ((lg_cmp_eq _ _).mpr z.2.2))), rfl⟩ | exact ⟨rz (bz_t ⟨by first | exact q4 | exact Classical.byContradiction q4, q12, (lg_cmp_eq _ _).mp (by first | exact q22 | exact Classical.byContradiction q22)⟩), rfl⟩
      · skip
        refine v_iconst hX li_1 qX12_isSign_25 ?_
        refine v_goto hX 30 qX12_isSign_26 rfl ?_
        refine v_zreturn hX (by first | exact Or.inl rfl | exact Or.inr rfl | exact bz01 _) qX12_isSign_30 (hP _ _ ?_)
        first | exact ⟨rz (bz_f (fun z => q4 z.1)), rfl⟩ | exact ⟨rz (bz_f (fun z => q12 z.2.1)), rfl⟩ | exact ⟨rz (bz_f (fun z => q22 ((lg_cmp_eq _ _).mpr z.2.2))), rfl⟩ | exact ⟨rz (bz_t ⟨by first | exact q4 | exact Classical.byContradiction q4, q12, (lg_cmp_eq _ _).mp (by first | exact q22 | exact Classical.byContradiction q22)⟩), rfl⟩
def ltC (by' : Nat → Int32) (sz p e k : Nat) (c : Int32) : Bool := if p + k < e then decide (btA by' sz (p + k) = c) else decide (c = 0)
theorem matchW_get {bt : Nat → Int32} : ∀ {w : List Int32} {p : Nat}, matchW bt p w = true ↔ ∀ k, k < w.length → bt (p + k) = w.getD k 0 := by
  intro w
  induction w with
  | nil => intro p; exact ⟨fun _ k hk => by simp at hk, fun _ => rfl⟩
  | cons c w ih =>
    intro p
    unfold matchW
    rw [Bool.and_eq_true, decide_eq_true_eq, ih]
    constructor
    · rintro ⟨h1, h2⟩ k hk
      cases k with
      | zero => exact h1
      | succ k => have := h2 k (by simpa using hk); rw [show p + 1 + k = p + (k + 1) by omega] at this; simpa using this
    · intro h
      refine ⟨h 0 (by simp), fun k hk => ?_⟩
      have := h (k + 1) (by simpa using hk)
      rw [show p + 1 + k = p + (k + 1) by omega]
      simpa using this
theorem getD_mem {w : List Int32} {k : Nat} (hk : k < w.length) : w.getD k 0 ∈ w := by
  rw [List.getD_eq_getElem?_getD, List.getElem?_eq_getElem hk]
  exact List.getElem_mem hk
theorem getD_out {w : List Int32} {k : Nat} (hk : w.length ≤ k) : w.getD k 0 = 0 := by
  rw [List.getD_eq_getElem?_getD, List.getElem?_eq_none hk]
  rfl
theorem wI_iff8 {by' : Nat → Int32} {sz p : Nat} {w : List Int32} (h8 : w.length ≤ 8) (h0 : ∀ c, c ∈ w → ¬ c = 0) (hL : wnd by' sz p ≤ p + 8) : wordIs by' sz p w = true ↔ ∀ k, k < 8 → ltC by' sz p (wnd by' sz p) k (w.getD k 0) = true := by
  have hr := wnd_is (by' := by') (sz := sz) p
  unfold wordIs
  rw [Bool.and_eq_true, decide_eq_true_eq, matchW_get]
  unfold ltC
  constructor
  · rintro ⟨h1, h2⟩ k hk
    by_cases hkl : k < w.length
    · rw [if_pos (by omega)]; exact decide_eq_true (h2 k hkl)
    · rw [if_neg (by omega)]; exact decide_eq_true (getD_out (by omega))
  · intro h
    have hl : wnd by' sz p = p + w.length := by
      rcases Nat.lt_trichotomy (wnd by' sz p) (p + w.length) with z | z | z
      · have := h (wnd by' sz p - p) (by omega)
        rw [if_neg (by have := hr.1; omega)] at this
        exact absurd (of_decide_eq_true this) (h0 _ (getD_mem (by have := hr.1; omega)))
      · exact z
      · have := h w.length (by omega)
        rw [if_pos (by omega)] at this
        have e := of_decide_eq_true this
        rw [getD_out (Nat.le_refl _)] at e
        have hlb := hr.2.1 (p + w.length) (by omega) (by omega)
        rw [e] at hlb
        exact absurd hlb (by decide)
    refine ⟨hl, fun k hk => ?_⟩
    have := h k (by omega)
    rw [if_pos (by omega)] at this
    exact of_decide_eq_true this
theorem qX12_isLetter_0 : Dq cX12_isLetter 0 (.aload_n 0) 1 1 := ⟨by decide +kernel, rfl⟩
theorem qX12_isLetter_1 : Dq cX12_isLetter 1 (.getfield 136) 3 4 := ⟨by decide +kernel, rfl⟩
theorem qX12_isLetter_4 : Dq cX12_isLetter 4 (.iload_n 1) 1 5 := ⟨by decide +kernel, rfl⟩
theorem qX12_isLetter_5 : Dq cX12_isLetter 5 (.iadd) 1 6 := ⟨by decide +kernel, rfl⟩
theorem qX12_isLetter_6 : Dq cX12_isLetter 6 (.aload_n 0) 1 7 := ⟨by decide +kernel, rfl⟩
theorem qX12_isLetter_7 : Dq cX12_isLetter 7 (.getfield 129) 3 10 := ⟨by decide +kernel, rfl⟩
theorem qX12_isLetter_10 : Dq cX12_isLetter 10 (.if_icmp .ge 25) 3 13 := ⟨by decide +kernel, rfl⟩
theorem qX12_isLetter_13 : Dq cX12_isLetter 13 (.aload_n 0) 1 14 := ⟨by decide +kernel, rfl⟩
theorem qX12_isLetter_14 : Dq cX12_isLetter 14 (.aload_n 0) 1 15 := ⟨by decide +kernel, rfl⟩
theorem qX12_isLetter_15 : Dq cX12_isLetter 15 (.getfield 136) 3 18 := ⟨by decide +kernel, rfl⟩
theorem qX12_isLetter_18 : Dq cX12_isLetter 18 (.iload_n 1) 1 19 := ⟨by decide +kernel, rfl⟩
theorem qX12_isLetter_19 : Dq cX12_isLetter 19 (.iadd) 1 20 := ⟨by decide +kernel, rfl⟩
theorem qX12_isLetter_20 : Dq cX12_isLetter 20 (.invokevirtual 132) 3 23 := ⟨by decide +kernel, rfl⟩
theorem qX12_isLetter_23 : Dq cX12_isLetter 23 (.iload_n 2) 1 24 := ⟨by decide +kernel, rfl⟩
theorem qX12_isLetter_24 : Dq cX12_isLetter 24 (.if_icmp .ne 7) 3 27 := ⟨by decide +kernel, rfl⟩
theorem qX12_isLetter_27 : Dq cX12_isLetter 27 (.iconst 1) 1 28 := ⟨by decide +kernel, rfl⟩
theorem qX12_isLetter_28 : Dq cX12_isLetter 28 (.goto 16) 3 31 := ⟨by decide +kernel, rfl⟩
theorem qX12_isLetter_31 : Dq cX12_isLetter 31 (.iconst 0) 1 32 := ⟨by decide +kernel, rfl⟩
theorem qX12_isLetter_32 : Dq cX12_isLetter 32 (.goto 12) 3 35 := ⟨by decide +kernel, rfl⟩
theorem qX12_isLetter_35 : Dq cX12_isLetter 35 (.iload_n 2) 1 36 := ⟨by decide +kernel, rfl⟩
theorem qX12_isLetter_36 : Dq cX12_isLetter 36 (.ifCond .ne 7) 3 39 := ⟨by decide +kernel, rfl⟩
theorem qX12_isLetter_39 : Dq cX12_isLetter 39 (.iconst 1) 1 40 := ⟨by decide +kernel, rfl⟩
theorem qX12_isLetter_40 : Dq cX12_isLetter 40 (.goto 4) 3 43 := ⟨by decide +kernel, rfl⟩
theorem qX12_isLetter_43 : Dq cX12_isLetter 43 (.iconst 0) 1 44 := ⟨by decide +kernel, rfl⟩
theorem qX12_isLetter_44 : Dq cX12_isLetter 44 (.ireturn) 1 45 := ⟨by decide +kernel, rfl⟩
set_option maxRecDepth 100000 in
set_option maxHeartbeats 4000000 in
theorem m_isLetter {G : Glb} {h : AHp} (hm : ShM h) {by' : Nat → Int32} {sz t o : Nat} (hx : MTx by' sz t o h) {p : Nat} (ho : MTo by' sz p h) (hw : mT by' sz p = 1) {k : Nat} (hk : k < 8) (c : Int32) : CP G m_X12_isLetter 2 0 0 [.ref 38, .int (nI k), .int c] h (fun r h' => r = some (.int (bz (ltC by' sz p (wnd by' sz p) k c = true))) ∧ h = h') := by
  suffices key : ∀ P : Option Value → AHp → Prop, (∀ r h', (r = some (.int (bz (ltC by' sz p (wnd by' sz p) k c = true))) ∧ h = h') → P r h') → CP G m_X12_isLetter 2 0 0 [.ref 38, .int (nI k), .int c] h P from key _ (fun _ _ z => z)
  intro P hP
  refine CP.of (by decide +kernel) (Nat.le_of_ble_eq_true rfl) fun X hX hR hnm => ?_
  show V X G 3 0 0 _ 0 [some (.ref 38), some (.int (nI k)), some (.int c)] [] h
  obtain ⟨hps, ho24, ho25, ho1, -, -⟩ := ho
  have ho23 := ho1 hw
  have hs160 := hx.2.1.1
  have hwle : wnd by' sz p ≤ sz := (wnd_is (by' := by') (sz := sz) p).le ltB_no hps
  refine v_aload_n hX rfl qX12_isLetter_0 ?_
  refine v_getIv hX g_X12_136 (Or.inl rfl) (hm.kd 38 rfl) ho25 qX12_isLetter_1 ?_
  refine v_iload_n hX rfl qX12_isLetter_4 ?_
  refine v_iadd hX qX12_isLetter_5 ?_
  refine v_eqI (nI_add p k) ?_
  refine v_aload_n hX rfl qX12_isLetter_6 ?_
  refine v_getIv hX g_X12_129 (Or.inl rfl) (hm.kd 38 rfl) ho23 qX12_isLetter_7 ?_
  refine v_icmp_geS hX 35 qX12_isLetter_10 rfl (fun q10 => ?_) (fun q10 => ?_)
  · have hge := nI_le' (i := wnd by' sz p) (s := p + k) (by omega) (by omega) q10
    refine v_iload_n hX rfl qX12_isLetter_35 ?_
    first | refine v_if_neB hX 43 qX12_isLetter_36 rfl (fun q36 => ?_) (fun q36 => ?_) | refine v_if_ne hX 43 qX12_isLetter_36 rfl (fun q36 => ?_) (fun q36 => ?_)
    · skip
      refine v_iconst hX li_0 qX12_isLetter_43 ?_
      refine v_zreturn hX (by first | exact Or.inl rfl | exact Or.inr rfl | exact bz01 _) qX12_isLetter_44 (hP _ _ ?_)
      refine ⟨?_, rfl⟩
      unfold ltC
      first
      | (rw [if_neg (Nat.not_lt.mpr hge)]; first | exact rz (bz_t (decide_eq_true q36)) | exact rz (bz_f (fun z => q36 (of_decide_eq_true z))))
      | (rw [if_pos hlt]; first | exact rz (bz_t (decide_eq_true q24)) | exact rz (bz_f (fun z => q24 (of_decide_eq_true z))))
    · skip
      refine v_iconst hX li_1 qX12_isLetter_39 ?_
      refine v_goto hX 44 qX12_isLetter_40 rfl ?_
      refine v_zreturn hX (by first | exact Or.inl rfl | exact Or.inr rfl | exact bz01 _) qX12_isLetter_44 (hP _ _ ?_)
      refine ⟨?_, rfl⟩
      unfold ltC
      first
      | (rw [if_neg (Nat.not_lt.mpr hge)]; first | exact rz (bz_t (decide_eq_true q36)) | exact rz (bz_f (fun z => q36 (of_decide_eq_true z))))
      | (rw [if_pos hlt]; first | exact rz (bz_t (decide_eq_true q24)) | exact rz (bz_f (fun z => q24 (of_decide_eq_true z))))
  · have hlt := nI_lt' (i := p + k) (s := wnd by' sz p) (by omega) (by omega) q10
    refine v_aload_n hX rfl qX12_isLetter_13 ?_
    refine v_aload_n hX rfl qX12_isLetter_14 ?_
    refine v_getIv hX g_X12_136 (Or.inl rfl) (hm.kd 38 rfl) ho25 qX12_isLetter_15 ?_
    refine v_iload_n hX rfl qX12_isLetter_18 ?_
    refine v_iadd hX qX12_isLetter_19 ?_
    refine v_eqI (nI_add p k) ?_
    refine v_callVq hX hR k_X12_132 (hm.kd 38 rfl) (m_byteAt (by exact hm) (by exact hx) (i := p + k) (by omega)) rfl (Nat.le_of_ble_eq_true rfl) rfl (Nat.le_of_ble_eq_true rfl) ⟨Nat.le_of_ble_eq_true rfl, Nat.le_of_ble_eq_true rfl⟩ qX12_isLetter_20 ?_
    rintro _ _ ⟨rfl, rfl⟩
    refine v_iload_n hX rfl qX12_isLetter_23 ?_
    refine v_icmp_ne hX 31 qX12_isLetter_24 rfl (fun q24 => ?_) (fun q24 => ?_)
    · skip
      refine v_iconst hX li_0 qX12_isLetter_31 ?_
      refine v_goto hX 44 qX12_isLetter_32 rfl ?_
      refine v_zreturn hX (by first | exact Or.inl rfl | exact Or.inr rfl | exact bz01 _) qX12_isLetter_44 (hP _ _ ?_)
      refine ⟨?_, rfl⟩
      unfold ltC
      first
      | (rw [if_neg (Nat.not_lt.mpr hge)]; first | exact rz (bz_t (decide_eq_true q36)) | exact rz (bz_f (fun z => q36 (of_decide_eq_true z))))
      | (rw [if_pos hlt]; first | exact rz (bz_t (decide_eq_true q24)) | exact rz (bz_f (fun z => q24 (of_decide_eq_true z))))
    · skip
      refine v_iconst hX li_1 qX12_isLetter_27 ?_
      refine v_goto hX 44 qX12_isLetter_28 rfl ?_
      refine v_zreturn hX (by first | exact Or.inl rfl | exact Or.inr rfl | exact bz01 _) qX12_isLetter_44 (hP _ _ ?_)
      refine ⟨?_, rfl⟩
      unfold ltC
      first
      | (rw [if_neg (Nat.not_lt.mpr hge)]; first | exact rz (bz_t (decide_eq_true q36)) | exact rz (bz_f (fun z => q36 (of_decide_eq_true z))))
      | (rw [if_pos hlt]; first | exact rz (bz_t (decide_eq_true q24)) | exact rz (bz_f (fun z => q24 (of_decide_eq_true z))))
theorem qX12_isWord_0 : Dq cX12_isWord 0 (.aload_n 0) 1 1 := ⟨by decide +kernel, rfl⟩
theorem qX12_isWord_1 : Dq cX12_isWord 1 (.getfield 156) 3 4 := ⟨by decide +kernel, rfl⟩
theorem qX12_isWord_4 : Dq cX12_isWord 4 (.ifCond .ne 108) 3 7 := ⟨by decide +kernel, rfl⟩
theorem qX12_isWord_7 : Dq cX12_isWord 7 (.aload_n 0) 1 8 := ⟨by decide +kernel, rfl⟩
theorem qX12_isWord_8 : Dq cX12_isWord 8 (.getfield 139) 3 11 := ⟨by decide +kernel, rfl⟩
theorem qX12_isWord_11 : Dq cX12_isWord 11 (.iconst 1) 1 12 := ⟨by decide +kernel, rfl⟩
theorem qX12_isWord_12 : Dq cX12_isWord 12 (.if_icmp .ne 100) 3 15 := ⟨by decide +kernel, rfl⟩
theorem qX12_isWord_15 : Dq cX12_isWord 15 (.aload_n 0) 1 16 := ⟨by decide +kernel, rfl⟩
theorem qX12_isWord_16 : Dq cX12_isWord 16 (.getfield 129) 3 19 := ⟨by decide +kernel, rfl⟩
theorem qX12_isWord_19 : Dq cX12_isWord 19 (.aload_n 0) 1 20 := ⟨by decide +kernel, rfl⟩
theorem qX12_isWord_20 : Dq cX12_isWord 20 (.getfield 136) 3 23 := ⟨by decide +kernel, rfl⟩
theorem qX12_isWord_23 : Dq cX12_isWord 23 (.bipush 8) 2 25 := ⟨by decide +kernel, rfl⟩
theorem qX12_isWord_25 : Dq cX12_isWord 25 (.iadd) 1 26 := ⟨by decide +kernel, rfl⟩
theorem qX12_isWord_26 : Dq cX12_isWord 26 (.if_icmp .gt 86) 3 29 := ⟨by decide +kernel, rfl⟩
theorem qX12_isWord_29 : Dq cX12_isWord 29 (.aload_n 0) 1 30 := ⟨by decide +kernel, rfl⟩
theorem qX12_isWord_30 : Dq cX12_isWord 30 (.iconst 0) 1 31 := ⟨by decide +kernel, rfl⟩
theorem qX12_isWord_31 : Dq cX12_isWord 31 (.iload_n 1) 1 32 := ⟨by decide +kernel, rfl⟩
theorem qX12_isWord_32 : Dq cX12_isWord 32 (.invokevirtual 163) 3 35 := ⟨by decide +kernel, rfl⟩
theorem qX12_isWord_35 : Dq cX12_isWord 35 (.ifCond .eq 77) 3 38 := ⟨by decide +kernel, rfl⟩
theorem qX12_isWord_38 : Dq cX12_isWord 38 (.aload_n 0) 1 39 := ⟨by decide +kernel, rfl⟩
theorem qX12_isWord_39 : Dq cX12_isWord 39 (.iconst 1) 1 40 := ⟨by decide +kernel, rfl⟩
theorem qX12_isWord_40 : Dq cX12_isWord 40 (.iload_n 2) 1 41 := ⟨by decide +kernel, rfl⟩
theorem qX12_isWord_41 : Dq cX12_isWord 41 (.invokevirtual 163) 3 44 := ⟨by decide +kernel, rfl⟩
theorem qX12_isWord_44 : Dq cX12_isWord 44 (.ifCond .eq 68) 3 47 := ⟨by decide +kernel, rfl⟩
theorem qX12_isWord_47 : Dq cX12_isWord 47 (.aload_n 0) 1 48 := ⟨by decide +kernel, rfl⟩
theorem qX12_isWord_48 : Dq cX12_isWord 48 (.iconst 2) 1 49 := ⟨by decide +kernel, rfl⟩
theorem qX12_isWord_49 : Dq cX12_isWord 49 (.iload_n 3) 1 50 := ⟨by decide +kernel, rfl⟩
theorem qX12_isWord_50 : Dq cX12_isWord 50 (.invokevirtual 163) 3 53 := ⟨by decide +kernel, rfl⟩
theorem qX12_isWord_53 : Dq cX12_isWord 53 (.ifCond .eq 59) 3 56 := ⟨by decide +kernel, rfl⟩
theorem qX12_isWord_56 : Dq cX12_isWord 56 (.aload_n 0) 1 57 := ⟨by decide +kernel, rfl⟩
theorem qX12_isWord_57 : Dq cX12_isWord 57 (.iconst 3) 1 58 := ⟨by decide +kernel, rfl⟩
theorem qX12_isWord_58 : Dq cX12_isWord 58 (.iload 4) 2 60 := ⟨by decide +kernel, rfl⟩
theorem qX12_isWord_60 : Dq cX12_isWord 60 (.invokevirtual 163) 3 63 := ⟨by decide +kernel, rfl⟩
theorem qX12_isWord_63 : Dq cX12_isWord 63 (.ifCond .eq 49) 3 66 := ⟨by decide +kernel, rfl⟩
theorem qX12_isWord_66 : Dq cX12_isWord 66 (.aload_n 0) 1 67 := ⟨by decide +kernel, rfl⟩
theorem qX12_isWord_67 : Dq cX12_isWord 67 (.iconst 4) 1 68 := ⟨by decide +kernel, rfl⟩
theorem qX12_isWord_68 : Dq cX12_isWord 68 (.iload 5) 2 70 := ⟨by decide +kernel, rfl⟩
theorem qX12_isWord_70 : Dq cX12_isWord 70 (.invokevirtual 163) 3 73 := ⟨by decide +kernel, rfl⟩
theorem qX12_isWord_73 : Dq cX12_isWord 73 (.ifCond .eq 39) 3 76 := ⟨by decide +kernel, rfl⟩
theorem qX12_isWord_76 : Dq cX12_isWord 76 (.aload_n 0) 1 77 := ⟨by decide +kernel, rfl⟩
theorem qX12_isWord_77 : Dq cX12_isWord 77 (.iconst 5) 1 78 := ⟨by decide +kernel, rfl⟩
theorem qX12_isWord_78 : Dq cX12_isWord 78 (.iload 6) 2 80 := ⟨by decide +kernel, rfl⟩
theorem qX12_isWord_80 : Dq cX12_isWord 80 (.invokevirtual 163) 3 83 := ⟨by decide +kernel, rfl⟩
theorem qX12_isWord_83 : Dq cX12_isWord 83 (.ifCond .eq 29) 3 86 := ⟨by decide +kernel, rfl⟩
theorem qX12_isWord_86 : Dq cX12_isWord 86 (.aload_n 0) 1 87 := ⟨by decide +kernel, rfl⟩
theorem qX12_isWord_87 : Dq cX12_isWord 87 (.bipush 6) 2 89 := ⟨by decide +kernel, rfl⟩
theorem qX12_isWord_89 : Dq cX12_isWord 89 (.iload 7) 2 91 := ⟨by decide +kernel, rfl⟩
theorem qX12_isWord_91 : Dq cX12_isWord 91 (.invokevirtual 163) 3 94 := ⟨by decide +kernel, rfl⟩
theorem qX12_isWord_94 : Dq cX12_isWord 94 (.ifCond .eq 18) 3 97 := ⟨by decide +kernel, rfl⟩
theorem qX12_isWord_97 : Dq cX12_isWord 97 (.aload_n 0) 1 98 := ⟨by decide +kernel, rfl⟩
theorem qX12_isWord_98 : Dq cX12_isWord 98 (.bipush 7) 2 100 := ⟨by decide +kernel, rfl⟩
theorem qX12_isWord_100 : Dq cX12_isWord 100 (.iload 8) 2 102 := ⟨by decide +kernel, rfl⟩
theorem qX12_isWord_102 : Dq cX12_isWord 102 (.invokevirtual 163) 3 105 := ⟨by decide +kernel, rfl⟩
theorem qX12_isWord_105 : Dq cX12_isWord 105 (.ifCond .eq 7) 3 108 := ⟨by decide +kernel, rfl⟩
theorem qX12_isWord_108 : Dq cX12_isWord 108 (.iconst 1) 1 109 := ⟨by decide +kernel, rfl⟩
theorem qX12_isWord_109 : Dq cX12_isWord 109 (.goto 4) 3 112 := ⟨by decide +kernel, rfl⟩
theorem qX12_isWord_112 : Dq cX12_isWord 112 (.iconst 0) 1 113 := ⟨by decide +kernel, rfl⟩
theorem qX12_isWord_113 : Dq cX12_isWord 113 (.ireturn) 1 114 := ⟨by decide +kernel, rfl⟩
set_option maxRecDepth 100000 in
set_option maxHeartbeats 4000000 in
theorem m_isWord {G : Glb} {h : AHp} (hm : ShM h) {by' : Nat → Int32} {sz t o : Nat} (hx : MTx by' sz t o h) {p : Nat} (ho : MTo by' sz p h) (w : List Int32) (h8 : w.length ≤ 8) (h0 : ∀ c, c ∈ w → ¬ c = 0) : CP G m_X12_isWord 3 0 0 [.ref 38, .int (w.getD 0 0), .int (w.getD 1 0), .int (w.getD 2 0), .int (w.getD 3 0), .int (w.getD 4 0), .int (w.getD 5 0), .int (w.getD 6 0), .int (w.getD 7 0)] h (fun r h' => r = some (.int (bz (mT by' sz p = 1 ∧ wordIs by' sz p w = true))) ∧ h = h') := by
  suffices key : ∀ P : Option Value → AHp → Prop, (∀ r h', (r = some (.int (bz (mT by' sz p = 1 ∧ wordIs by' sz p w = true))) ∧ h = h') → P r h') → CP G m_X12_isWord 3 0 0 [.ref 38, .int (w.getD 0 0), .int (w.getD 1 0), .int (w.getD 2 0), .int (w.getD 3 0), .int (w.getD 4 0), .int (w.getD 5 0), .int (w.getD 6 0), .int (w.getD 7 0)] h P from key _ (fun _ _ z => z)
  intro P hP
  refine CP.of (by decide +kernel) (Nat.le_of_ble_eq_true rfl) fun X hX hR hnm => ?_
  show V X G 9 0 0 _ 0 [some (.ref 38), some (.int (w.getD 0 0)), some (.int (w.getD 1 0)), some (.int (w.getD 2 0)), some (.int (w.getD 3 0)), some (.int (w.getD 4 0)), some (.int (w.getD 5 0)), some (.int (w.getD 6 0)), some (.int (w.getD 7 0))] [] h
  have hs160 := hx.2.1.1
  have hps := ho.1
  refine v_aload_n hX rfl qX12_isWord_0 ?_
  refine v_getIv hX g_X12_156 (Or.inr rfl) (hm.kd 38 rfl) (show _ = 0 from hx.2.2.2.2.2.2) qX12_isWord_1 ?_
  first | refine v_if_neB hX 112 qX12_isWord_4 rfl (fun q4 => ?_) (fun q4 => ?_) | refine v_if_ne hX 112 qX12_isWord_4 rfl (fun q4 => ?_) (fun q4 => ?_)
  · exact absurd rfl q4
  · skip
    refine v_aload_n hX rfl qX12_isWord_7 ?_
    refine v_getIv hX g_X12_139 (Or.inl rfl) (hm.kd 38 rfl) ho.2.1 qX12_isWord_8 ?_
    refine v_iconst hX li_1 qX12_isWord_11 ?_
    refine v_icmp_ne hX 112 qX12_isWord_12 rfl (fun q12 => ?_) (fun q12 => ?_)
    · skip
      refine v_iconst hX li_0 qX12_isWord_112 ?_
      refine v_zreturn hX (by first | exact Or.inl rfl | exact Or.inr rfl | exact bz01 _) qX12_isWord_113 (hP _ _ ?_)
      refine ⟨rz ?_, rfl⟩
      first | exact bz_f (fun z => q12 z.1) | exact bz_f (fun z => by have z := z.2; unfold wordIs at z; rw [Bool.and_eq_true, decide_eq_true_eq] at z; omega) | exact bz_f (fun z => q35 ((wI_iff8 h8 h0 hle).mp z.2 0 (by omega))) | exact bz_f (fun z => q44 ((wI_iff8 h8 h0 hle).mp z.2 1 (by omega))) | exact bz_f (fun z => q53 ((wI_iff8 h8 h0 hle).mp z.2 2 (by omega))) | exact bz_f (fun z => q63 ((wI_iff8 h8 h0 hle).mp z.2 3 (by omega))) | exact bz_f (fun z => q73 ((wI_iff8 h8 h0 hle).mp z.2 4 (by omega))) | exact bz_f (fun z => q83 ((wI_iff8 h8 h0 hle).mp z.2 5 (by omega))) | exact bz_f (fun z => q94 ((wI_iff8 h8 h0 hle).mp z.2 6 (by omega))) | exact bz_f (fun z => q105 ((wI_iff8 h8 h0 hle).mp z.2 7 (by omega))) | exact bz_t (show mT by' sz p = 1 ∧ wordIs by' sz p w = true from ⟨q12, (wI_iff8 h8 h0 hle).mpr (fun k hk => by
        have hk8 : k = 0 ∨ k = 1 ∨ k = 2 ∨ k = 3 ∨ k = 4 ∨ k = 5 ∨ k = 6 ∨ k = 7 := by omega
        rcases hk8 with rfl | rfl | rfl | rfl | rfl | rfl | rfl | rfl
        · exact q35
        · exact q44
        · exact q53
        · exact q63
        · exact q73
        · exact q83
        · exact q94
        · exact q105)⟩)
    · skip
      refine v_aload_n hX rfl qX12_isWord_15 ?_
      refine v_getIv hX g_X12_129 (Or.inl rfl) (hm.kd 38 rfl) (show _ = nI (wnd by' sz p) from ho.2.2.2.1 q12) qX12_isWord_16 ?_
      refine v_aload_n hX rfl qX12_isWord_19 ?_
      refine v_getIv hX g_X12_136 (Or.inl rfl) (hm.kd 38 rfl) (show _ = nI p from ho.2.2.1) qX12_isWord_20 ?_
      refine v_bipush hX lb_8 qX12_isWord_23 ?_
      refine v_iadd hX qX12_isWord_25 ?_
      refine v_eqI (nI_add p 8) ?_
      refine v_icmp_gtS hX 112 qX12_isWord_26 rfl (fun q26 => ?_) (fun q26 => ?_)
      · have hgt := nI_lt' (i := p + 8) (s := wnd by' sz p) (by omega) (by have := (wnd_is (by' := by') (sz := sz) p).le ltB_no ho.1; omega) q26
        refine v_iconst hX li_0 qX12_isWord_112 ?_
        refine v_zreturn hX (by first | exact Or.inl rfl | exact Or.inr rfl | exact bz01 _) qX12_isWord_113 (hP _ _ ?_)
        refine ⟨rz ?_, rfl⟩
        first | exact bz_f (fun z => q12 z.1) | exact bz_f (fun z => by have z := z.2; unfold wordIs at z; rw [Bool.and_eq_true, decide_eq_true_eq] at z; omega) | exact bz_f (fun z => q35 ((wI_iff8 h8 h0 hle).mp z.2 0 (by omega))) | exact bz_f (fun z => q44 ((wI_iff8 h8 h0 hle).mp z.2 1 (by omega))) | exact bz_f (fun z => q53 ((wI_iff8 h8 h0 hle).mp z.2 2 (by omega))) | exact bz_f (fun z => q63 ((wI_iff8 h8 h0 hle).mp z.2 3 (by omega))) | exact bz_f (fun z => q73 ((wI_iff8 h8 h0 hle).mp z.2 4 (by omega))) | exact bz_f (fun z => q83 ((wI_iff8 h8 h0 hle).mp z.2 5 (by omega))) | exact bz_f (fun z => q94 ((wI_iff8 h8 h0 hle).mp z.2 6 (by omega))) | exact bz_f (fun z => q105 ((wI_iff8 h8 h0 hle).mp z.2 7 (by omega))) | exact bz_t (show mT by' sz p = 1 ∧ wordIs by' sz p w = true from ⟨q12, (wI_iff8 h8 h0 hle).mpr (fun k hk => by
          have hk8 : k = 0 ∨ k = 1 ∨ k = 2 ∨ k = 3 ∨ k = 4 ∨ k = 5 ∨ k = 6 ∨ k = 7 := by omega
          rcases hk8 with rfl | rfl | rfl | rfl | rfl | rfl | rfl | rfl
          · exact q35
          · exact q44
          · exact q53
          · exact q63
          · exact q73
          · exact q83
          · exact q94
          · exact q105)⟩)
      · have hle := nI_le' (i := wnd by' sz p) (s := p + 8) (by have := (wnd_is (by' := by') (sz := sz) p).le ltB_no ho.1; omega) (by omega) q26
        refine v_aload_n hX rfl qX12_isWord_29 ?_
        refine v_iconst hX li_0 qX12_isWord_30 ?_
        refine v_iload_n hX rfl qX12_isWord_31 ?_
        refine v_callVq hX hR k_X12_163 (hm.kd 38 rfl) (m_isLetter (by exact hm) (by exact hx) (by exact ho) (by exact q12) (k := 0) (by omega) _) rfl (Nat.le_of_ble_eq_true rfl) rfl (Nat.le_of_ble_eq_true rfl) ⟨Nat.le_of_ble_eq_true rfl, Nat.le_of_ble_eq_true rfl⟩ qX12_isWord_32 ?_
        rintro _ _ ⟨rfl, rfl⟩
        first | refine v_if_eqB hX 112 qX12_isWord_35 rfl (fun q35 => ?_) (fun q35 => ?_) | refine v_if_eq hX 112 qX12_isWord_35 rfl (fun q35 => ?_) (fun q35 => ?_)
        · skip
          refine v_iconst hX li_0 qX12_isWord_112 ?_
          refine v_zreturn hX (by first | exact Or.inl rfl | exact Or.inr rfl | exact bz01 _) qX12_isWord_113 (hP _ _ ?_)
          refine ⟨rz ?_, rfl⟩
          first | exact bz_f (fun z => q12 z.1) | exact bz_f (fun z => by have z := z.2; unfold wordIs at z; rw [Bool.and_eq_true, decide_eq_true_eq] at z; omega) | exact bz_f (fun z => q35 ((wI_iff8 h8 h0 hle).mp z.2 0 (by omega))) | exact bz_f (fun z => q44 ((wI_iff8 h8 h0 hle).mp z.2 1 (by omega))) | exact bz_f (fun z => q53 ((wI_iff8 h8 h0 hle).mp z.2 2 (by omega))) | exact bz_f (fun z => q63 ((wI_iff8 h8 h0 hle).mp z.2 3 (by omega))) | exact bz_f (fun z => q73 ((wI_iff8 h8 h0 hle).mp z.2 4 (by omega))) | exact bz_f (fun z => q83 ((wI_iff8 h8 h0 hle).mp z.2 5 (by omega))) | exact bz_f (fun z => q94 ((wI_iff8 h8 h0 hle).mp z.2 6 (by omega))) | exact bz_f (fun z => q105 ((wI_iff8 h8 h0 hle).mp z.2 7 (by omega))) | exact bz_t (show mT by' sz p = 1 ∧ wordIs by' sz p w = true from ⟨q12, (wI_iff8 h8 h0 hle).mpr (fun k hk => by
            have hk8 : k = 0 ∨ k = 1 ∨ k = 2 ∨ k = 3 ∨ k = 4 ∨ k = 5 ∨ k = 6 ∨ k = 7 := by omega
            rcases hk8 with rfl | rfl | rfl | rfl | rfl | rfl | rfl | rfl
            · exact q35
            · exact q44
            · exact q53
            · exact q63
            · exact q73
            · exact q83
            · exact q94
            · exact q105)⟩)
        · skip
          refine v_aload_n hX rfl qX12_isWord_38 ?_
          refine v_iconst hX li_1 qX12_isWord_39 ?_
          refine v_iload_n hX rfl qX12_isWord_40 ?_
          refine v_callVq hX hR k_X12_163 (hm.kd 38 rfl) (m_isLetter (by exact hm) (by exact hx) (by exact ho) (by exact q12) (k := 1) (by omega) _) rfl (Nat.le_of_ble_eq_true rfl) rfl (Nat.le_of_ble_eq_true rfl) ⟨Nat.le_of_ble_eq_true rfl, Nat.le_of_ble_eq_true rfl⟩ qX12_isWord_41 ?_
          rintro _ _ ⟨rfl, rfl⟩
          first | refine v_if_eqB hX 112 qX12_isWord_44 rfl (fun q44 => ?_) (fun q44 => ?_) | refine v_if_eq hX 112 qX12_isWord_44 rfl (fun q44 => ?_) (fun q44 => ?_)
          · skip
            refine v_iconst hX li_0 qX12_isWord_112 ?_
            refine v_zreturn hX (by first | exact Or.inl rfl | exact Or.inr rfl | exact bz01 _) qX12_isWord_113 (hP _ _ ?_)
            refine ⟨rz ?_, rfl⟩
            first | exact bz_f (fun z => q12 z.1) | exact bz_f (fun z => by have z := z.2; unfold wordIs at z; rw [Bool.and_eq_true, decide_eq_true_eq] at z; omega) | exact bz_f (fun z => q35 ((wI_iff8 h8 h0 hle).mp z.2 0 (by omega))) | exact bz_f (fun z => q44 ((wI_iff8 h8 h0 hle).mp z.2 1 (by omega))) | exact bz_f (fun z => q53 ((wI_iff8 h8 h0 hle).mp z.2 2 (by omega))) | exact bz_f (fun z => q63 ((wI_iff8 h8 h0 hle).mp z.2 3 (by omega))) | exact bz_f (fun z => q73 ((wI_iff8 h8 h0 hle).mp z.2 4 (by omega))) | exact bz_f (fun z => q83 ((wI_iff8 h8 h0 hle).mp z.2 5 (by omega))) | exact bz_f (fun z => q94 ((wI_iff8 h8 h0 hle).mp z.2 6 (by omega))) | exact bz_f (fun z => q105 ((wI_iff8 h8 h0 hle).mp z.2 7 (by omega))) | exact bz_t (show mT by' sz p = 1 ∧ wordIs by' sz p w = true from ⟨q12, (wI_iff8 h8 h0 hle).mpr (fun k hk => by
              have hk8 : k = 0 ∨ k = 1 ∨ k = 2 ∨ k = 3 ∨ k = 4 ∨ k = 5 ∨ k = 6 ∨ k = 7 := by omega
              rcases hk8 with rfl | rfl | rfl | rfl | rfl | rfl | rfl | rfl
              · exact q35
              · exact q44
              · exact q53
              · exact q63
              · exact q73
              · exact q83
              · exact q94
              · exact q105)⟩)
          · skip
            refine v_aload_n hX rfl qX12_isWord_47 ?_
            refine v_iconst hX li_2 qX12_isWord_48 ?_
            refine v_iload_n hX rfl qX12_isWord_49 ?_
            refine v_callVq hX hR k_X12_163 (hm.kd 38 rfl) (m_isLetter (by exact hm) (by exact hx) (by exact ho) (by exact q12) (k := 2) (by omega) _) rfl (Nat.le_of_ble_eq_true rfl) rfl (Nat.le_of_ble_eq_true rfl) ⟨Nat.le_of_ble_eq_true rfl, Nat.le_of_ble_eq_true rfl⟩ qX12_isWord_50 ?_
            rintro _ _ ⟨rfl, rfl⟩
            first | refine v_if_eqB hX 112 qX12_isWord_53 rfl (fun q53 => ?_) (fun q53 => ?_) | refine v_if_eq hX 112 qX12_isWord_53 rfl (fun q53 => ?_) (fun q53 => ?_)
            · skip
              refine v_iconst hX li_0 qX12_isWord_112 ?_
              refine v_zreturn hX (by first | exact Or.inl rfl | exact Or.inr rfl | exact bz01 _) qX12_isWord_113 (hP _ _ ?_)
              refine ⟨rz ?_, rfl⟩
              first | exact bz_f (fun z => q12 z.1) | exact bz_f (fun z => by have z := z.2; unfold wordIs at z; rw [Bool.and_eq_true, decide_eq_true_eq] at z; omega) | exact bz_f (fun z => q35 ((wI_iff8 h8 h0 hle).mp z.2 0 (by omega))) | exact bz_f (fun z => q44 ((wI_iff8 h8 h0 hle).mp z.2 1 (by omega))) | exact bz_f (fun z => q53 ((wI_iff8 h8 h0 hle).mp z.2 2 (by omega))) | exact bz_f (fun z => q63 ((wI_iff8 h8 h0 hle).mp z.2 3 (by omega))) | exact bz_f (fun z => q73 ((wI_iff8 h8 h0 hle).mp z.2 4 (by omega))) | exact bz_f (fun z => q83 ((wI_iff8 h8 h0 hle).mp z.2 5 (by omega))) | exact bz_f (fun z => q94 ((wI_iff8 h8 h0 hle).mp z.2 6 (by omega))) | exact bz_f (fun z => q105 ((wI_iff8 h8 h0 hle).mp z.2 7 (by omega))) | exact bz_t (show mT by' sz p = 1 ∧ wordIs by' sz p w = true from ⟨q12, (wI_iff8 h8 h0 hle).mpr (fun k hk => by
                have hk8 : k = 0 ∨ k = 1 ∨ k = 2 ∨ k = 3 ∨ k = 4 ∨ k = 5 ∨ k = 6 ∨ k = 7 := by omega
                rcases hk8 with rfl | rfl | rfl | rfl | rfl | rfl | rfl | rfl
                · exact q35
                · exact q44
                · exact q53
                · exact q63
                · exact q73
                · exact q83
                · exact q94
                · exact q105)⟩)
            · skip
              refine v_aload_n hX rfl qX12_isWord_56 ?_
              refine v_iconst hX li_3 qX12_isWord_57 ?_
              refine v_iload hX rfl qX12_isWord_58 ?_
              refine v_callVq hX hR k_X12_163 (hm.kd 38 rfl) (m_isLetter (by exact hm) (by exact hx) (by exact ho) (by exact q12) (k := 3) (by omega) _) rfl (Nat.le_of_ble_eq_true rfl) rfl (Nat.le_of_ble_eq_true rfl) ⟨Nat.le_of_ble_eq_true rfl, Nat.le_of_ble_eq_true rfl⟩ qX12_isWord_60 ?_
              rintro _ _ ⟨rfl, rfl⟩
              first | refine v_if_eqB hX 112 qX12_isWord_63 rfl (fun q63 => ?_) (fun q63 => ?_) | refine v_if_eq hX 112 qX12_isWord_63 rfl (fun q63 => ?_) (fun q63 => ?_)
              · skip
                refine v_iconst hX li_0 qX12_isWord_112 ?_
                refine v_zreturn hX (by first | exact Or.inl rfl | exact Or.inr rfl | exact bz01 _) qX12_isWord_113 (hP _ _ ?_)
                refine ⟨rz ?_, rfl⟩
                first | exact bz_f (fun z => q12 z.1) | exact bz_f (fun z => by have z := z.2; unfold wordIs at z; rw [Bool.and_eq_true, decide_eq_true_eq] at z; omega) | exact bz_f (fun z => q35 ((wI_iff8 h8 h0 hle).mp z.2 0 (by omega))) | exact bz_f (fun z => q44 ((wI_iff8 h8 h0 hle).mp z.2 1 (by omega))) | exact bz_f (fun z => q53 ((wI_iff8 h8 h0 hle).mp z.2 2 (by omega))) | exact bz_f (fun z => q63 ((wI_iff8 h8 h0 hle).mp z.2 3 (by omega))) | exact bz_f (fun z => q73 ((wI_iff8 h8 h0 hle).mp z.2 4 (by omega))) | exact bz_f (fun z => q83 ((wI_iff8 h8 h0 hle).mp z.2 5 (by omega))) | exact bz_f (fun z => q94 ((wI_iff8 h8 h0 hle).mp z.2 6 (by omega))) | exact bz_f (fun z => q105 ((wI_iff8 h8 h0 hle).mp z.2 7 (by omega))) | exact bz_t (show mT by' sz p = 1 ∧ wordIs by' sz p w = true from ⟨q12, (wI_iff8 h8 h0 hle).mpr (fun k hk => by
                  have hk8 : k = 0 ∨ k = 1 ∨ k = 2 ∨ k = 3 ∨ k = 4 ∨ k = 5 ∨ k = 6 ∨ k = 7 := by omega
                  rcases hk8 with rfl | rfl | rfl | rfl | rfl | rfl | rfl | rfl
                  · exact q35
                  · exact q44
                  · exact q53
                  · exact q63
                  · exact q73
                  · exact q83
                  · exact q94
                  · exact q105)⟩)
              · skip
                refine v_aload_n hX rfl qX12_isWord_66 ?_
                refine v_iconst hX li_4 qX12_isWord_67 ?_
                refine v_iload hX rfl qX12_isWord_68 ?_
                refine v_callVq hX hR k_X12_163 (hm.kd 38 rfl) (m_isLetter (by exact hm) (by exact hx) (by exact ho) (by exact q12) (k := 4) (by omega) _) rfl (Nat.le_of_ble_eq_true rfl) rfl (Nat.le_of_ble_eq_true rfl) ⟨Nat.le_of_ble_eq_true rfl, Nat.le_of_ble_eq_true rfl⟩ qX12_isWord_70 ?_
                rintro _ _ ⟨rfl, rfl⟩
                first | refine v_if_eqB hX 112 qX12_isWord_73 rfl (fun q73 => ?_) (fun q73 => ?_) | refine v_if_eq hX 112 qX12_isWord_73 rfl (fun q73 => ?_) (fun q73 => ?_)
                · skip
                  refine v_iconst hX li_0 qX12_isWord_112 ?_
                  refine v_zreturn hX (by first | exact Or.inl rfl | exact Or.inr rfl | exact bz01 _) qX12_isWord_113 (hP _ _ ?_)
                  refine ⟨rz ?_, rfl⟩
                  first | exact bz_f (fun z => q12 z.1) | exact bz_f (fun z => by have z := z.2; unfold wordIs at z; rw [Bool.and_eq_true, decide_eq_true_eq] at z; omega) | exact bz_f (fun z => q35 ((wI_iff8 h8 h0 hle).mp z.2 0 (by omega))) | exact bz_f (fun z => q44 ((wI_iff8 h8 h0 hle).mp z.2 1 (by omega))) | exact bz_f (fun z => q53 ((wI_iff8 h8 h0 hle).mp z.2 2 (by omega))) | exact bz_f (fun z => q63 ((wI_iff8 h8 h0 hle).mp z.2 3 (by omega))) | exact bz_f (fun z => q73 ((wI_iff8 h8 h0 hle).mp z.2 4 (by omega))) | exact bz_f (fun z => q83 ((wI_iff8 h8 h0 hle).mp z.2 5 (by omega))) | exact bz_f (fun z => q94 ((wI_iff8 h8 h0 hle).mp z.2 6 (by omega))) | exact bz_f (fun z => q105 ((wI_iff8 h8 h0 hle).mp z.2 7 (by omega))) | exact bz_t (show mT by' sz p = 1 ∧ wordIs by' sz p w = true from ⟨q12, (wI_iff8 h8 h0 hle).mpr (fun k hk => by
                    have hk8 : k = 0 ∨ k = 1 ∨ k = 2 ∨ k = 3 ∨ k = 4 ∨ k = 5 ∨ k = 6 ∨ k = 7 := by omega
                    rcases hk8 with rfl | rfl | rfl | rfl | rfl | rfl | rfl | rfl
                    · exact q35
                    · exact q44
                    · exact q53
                    · exact q63
                    · exact q73
                    · exact q83
                    · exact q94
                    · exact q105)⟩)
                · skip
                  refine v_aload_n hX rfl qX12_isWord_76 ?_
                  refine v_iconst hX li_5 qX12_isWord_77 ?_
                  refine v_iload hX rfl qX12_isWord_78 ?_
                  refine v_callVq hX hR k_X12_163 (hm.kd 38 rfl) (m_isLetter (by exact hm) (by exact hx) (by exact ho) (by exact q12) (k := 5) (by omega) _) rfl (Nat.le_of_ble_eq_true rfl) rfl (Nat.le_of_ble_eq_true rfl) ⟨Nat.le_of_ble_eq_true rfl, Nat.le_of_ble_eq_true rfl⟩ qX12_isWord_80 ?_
                  rintro _ _ ⟨rfl, rfl⟩
                  first | refine v_if_eqB hX 112 qX12_isWord_83 rfl (fun q83 => ?_) (fun q83 => ?_) | refine v_if_eq hX 112 qX12_isWord_83 rfl (fun q83 => ?_) (fun q83 => ?_)
                  · skip
                    refine v_iconst hX li_0 qX12_isWord_112 ?_
                    refine v_zreturn hX (by first | exact Or.inl rfl | exact Or.inr rfl | exact bz01 _) qX12_isWord_113 (hP _ _ ?_)
                    refine ⟨rz ?_, rfl⟩
                    first | exact bz_f (fun z => q12 z.1) | exact bz_f (fun z => by have z := z.2; unfold wordIs at z; rw [Bool.and_eq_true, decide_eq_true_eq] at z; omega) | exact bz_f (fun z => q35 ((wI_iff8 h8 h0 hle).mp z.2 0 (by omega))) | exact bz_f (fun z => q44 ((wI_iff8 h8 h0 hle).mp z.2 1 (by omega))) | exact bz_f (fun z => q53 ((wI_iff8 h8 h0 hle).mp z.2 2 (by omega))) | exact bz_f (fun z => q63 ((wI_iff8 h8 h0 hle).mp z.2 3 (by omega))) | exact bz_f (fun z => q73 ((wI_iff8 h8 h0 hle).mp z.2 4 (by omega))) | exact bz_f (fun z => q83 ((wI_iff8 h8 h0 hle).mp z.2 5 (by omega))) | exact bz_f (fun z => q94 ((wI_iff8 h8 h0 hle).mp z.2 6 (by omega))) | exact bz_f (fun z => q105 ((wI_iff8 h8 h0 hle).mp z.2 7 (by omega))) | exact bz_t (show mT by' sz p = 1 ∧ wordIs by' sz p w = true from ⟨q12, (wI_iff8 h8 h0 hle).mpr (fun k hk => by
                      have hk8 : k = 0 ∨ k = 1 ∨ k = 2 ∨ k = 3 ∨ k = 4 ∨ k = 5 ∨ k = 6 ∨ k = 7 := by omega
                      rcases hk8 with rfl | rfl | rfl | rfl | rfl | rfl | rfl | rfl
                      · exact q35
                      · exact q44
                      · exact q53
                      · exact q63
                      · exact q73
                      · exact q83
                      · exact q94
                      · exact q105)⟩)
                  · skip
                    refine v_aload_n hX rfl qX12_isWord_86 ?_
                    refine v_bipush hX lb_6 qX12_isWord_87 ?_
                    refine v_iload hX rfl qX12_isWord_89 ?_
                    refine v_callVq hX hR k_X12_163 (hm.kd 38 rfl) (m_isLetter (by exact hm) (by exact hx) (by exact ho) (by exact q12) (k := 6) (by omega) _) rfl (Nat.le_of_ble_eq_true rfl) rfl (Nat.le_of_ble_eq_true rfl) ⟨Nat.le_of_ble_eq_true rfl, Nat.le_of_ble_eq_true rfl⟩ qX12_isWord_91 ?_
                    rintro _ _ ⟨rfl, rfl⟩
                    first | refine v_if_eqB hX 112 qX12_isWord_94 rfl (fun q94 => ?_) (fun q94 => ?_) | refine v_if_eq hX 112 qX12_isWord_94 rfl (fun q94 => ?_) (fun q94 => ?_)
                    · skip
                      refine v_iconst hX li_0 qX12_isWord_112 ?_
                      refine v_zreturn hX (by first | exact Or.inl rfl | exact Or.inr rfl | exact bz01 _) qX12_isWord_113 (hP _ _ ?_)
                      refine ⟨rz ?_, rfl⟩
                      first | exact bz_f (fun z => q12 z.1) | exact bz_f (fun z => by have z := z.2; unfold wordIs at z; rw [Bool.and_eq_true, decide_eq_true_eq] at z; omega) | exact bz_f (fun z => q35 ((wI_iff8 h8 h0 hle).mp z.2 0 (by omega))) | exact bz_f (fun z => q44 ((wI_iff8 h8 h0 hle).mp z.2 1 (by omega))) | exact bz_f (fun z => q53 ((wI_iff8 h8 h0 hle).mp z.2 2 (by omega))) | exact bz_f (fun z => q63 ((wI_iff8 h8 h0 hle).mp z.2 3 (by omega))) | exact bz_f (fun z => q73 ((wI_iff8 h8 h0 hle).mp z.2 4 (by omega))) | exact bz_f (fun z => q83 ((wI_iff8 h8 h0 hle).mp z.2 5 (by omega))) | exact bz_f (fun z => q94 ((wI_iff8 h8 h0 hle).mp z.2 6 (by omega))) | exact bz_f (fun z => q105 ((wI_iff8 h8 h0 hle).mp z.2 7 (by omega))) | exact bz_t (show mT by' sz p = 1 ∧ wordIs by' sz p w = true from ⟨q12, (wI_iff8 h8 h0 hle).mpr (fun k hk => by
                        have hk8 : k = 0 ∨ k = 1 ∨ k = 2 ∨ k = 3 ∨ k = 4 ∨ k = 5 ∨ k = 6 ∨ k = 7 := by omega
                        rcases hk8 with rfl | rfl | rfl | rfl | rfl | rfl | rfl | rfl
                        · exact q35
                        · exact q44
                        · exact q53
                        · exact q63
                        · exact q73
                        · exact q83
                        · exact q94
                        · exact q105)⟩)
                    · skip
                      refine v_aload_n hX rfl qX12_isWord_97 ?_
                      refine v_bipush hX lb_7 qX12_isWord_98 ?_
                      refine v_iload hX rfl qX12_isWord_100 ?_
                      refine v_callVq hX hR k_X12_163 (hm.kd 38 rfl) (m_isLetter (by exact hm) (by exact hx) (by exact ho) (by exact q12) (k := 7) (by omega) _) rfl (Nat.le_of_ble_eq_true rfl) rfl (Nat.le_of_ble_eq_true rfl) ⟨Nat.le_of_ble_eq_true rfl, Nat.le_of_ble_eq_true rfl⟩ qX12_isWord_102 ?_
                      rintro _ _ ⟨rfl, rfl⟩
                      first | refine v_if_eqB hX 112 qX12_isWord_105 rfl (fun q105 => ?_) (fun q105 => ?_) | refine v_if_eq hX 112 qX12_isWord_105 rfl (fun q105 => ?_) (fun q105 => ?_)
                      · skip
                        refine v_iconst hX li_0 qX12_isWord_112 ?_
                        refine v_zreturn hX (by first | exact Or.inl rfl | exact Or.inr rfl | exact bz01 _) qX12_isWord_113 (hP _ _ ?_)
                        refine ⟨rz ?_, rfl⟩
                        first | exact bz_f (fun z => q12 z.1) | exact bz_f (fun z => by have z := z.2; unfold wordIs at z; rw [Bool.and_eq_true, decide_eq_true_eq] at z; omega) | exact bz_f (fun z => q35 ((wI_iff8 h8 h0 hle).mp z.2 0 (by omega))) | exact bz_f (fun z => q44 ((wI_iff8 h8 h0 hle).mp z.2 1 (by omega))) | exact bz_f (fun z => q53 ((wI_iff8 h8 h0 hle).mp z.2 2 (by omega))) | exact bz_f (fun z => q63 ((wI_iff8 h8 h0 hle).mp z.2 3 (by omega))) | exact bz_f (fun z => q73 ((wI_iff8 h8 h0 hle).mp z.2 4 (by omega))) | exact bz_f (fun z => q83 ((wI_iff8 h8 h0 hle).mp z.2 5 (by omega))) | exact bz_f (fun z => q94 ((wI_iff8 h8 h0 hle).mp z.2 6 (by omega))) | exact bz_f (fun z => q105 ((wI_iff8 h8 h0 hle).mp z.2 7 (by omega))) | exact bz_t (show mT by' sz p = 1 ∧ wordIs by' sz p w = true from ⟨q12, (wI_iff8 h8 h0 hle).mpr (fun k hk => by
                          have hk8 : k = 0 ∨ k = 1 ∨ k = 2 ∨ k = 3 ∨ k = 4 ∨ k = 5 ∨ k = 6 ∨ k = 7 := by omega
                          rcases hk8 with rfl | rfl | rfl | rfl | rfl | rfl | rfl | rfl
                          · exact q35
                          · exact q44
                          · exact q53
                          · exact q63
                          · exact q73
                          · exact q83
                          · exact q94
                          · exact q105)⟩)
                      · skip
                        refine v_iconst hX li_1 qX12_isWord_108 ?_
                        refine v_goto hX 113 qX12_isWord_109 rfl ?_
                        refine v_zreturn hX (by first | exact Or.inl rfl | exact Or.inr rfl | exact bz01 _) qX12_isWord_113 (hP _ _ ?_)
                        refine ⟨rz ?_, rfl⟩
                        first | exact bz_f (fun z => q12 z.1) | exact bz_f (fun z => by have z := z.2; unfold wordIs at z; rw [Bool.and_eq_true, decide_eq_true_eq] at z; omega) | exact bz_f (fun z => q35 ((wI_iff8 h8 h0 hle).mp z.2 0 (by omega))) | exact bz_f (fun z => q44 ((wI_iff8 h8 h0 hle).mp z.2 1 (by omega))) | exact bz_f (fun z => q53 ((wI_iff8 h8 h0 hle).mp z.2 2 (by omega))) | exact bz_f (fun z => q63 ((wI_iff8 h8 h0 hle).mp z.2 3 (by omega))) | exact bz_f (fun z => q73 ((wI_iff8 h8 h0 hle).mp z.2 4 (by omega))) | exact bz_f (fun z => q83 ((wI_iff8 h8 h0 hle).mp z.2 5 (by omega))) | exact bz_f (fun z => q94 ((wI_iff8 h8 h0 hle).mp z.2 6 (by omega))) | exact bz_f (fun z => q105 ((wI_iff8 h8 h0 hle).mp z.2 7 (by omega))) | exact bz_t (show mT by' sz p = 1 ∧ wordIs by' sz p w = true from ⟨q12, (wI_iff8 h8 h0 hle).mpr (fun k hk => by
                          have hk8 : k = 0 ∨ k = 1 ∨ k = 2 ∨ k = 3 ∨ k = 4 ∨ k = 5 ∨ k = 6 ∨ k = 7 := by omega
                          rcases hk8 with rfl | rfl | rfl | rfl | rfl | rfl | rfl | rfl
                          · exact q35
                          · exact q44
                          · exact q53
                          · exact q63
                          · exact q73
                          · exact q83
                          · exact q94
                          · exact q105)⟩)
set_option maxRecDepth 100000 in
set_option maxHeartbeats 4000000 in
theorem m_isWordB {G : Glb} {h : AHp} (hm : ShM h) (hb : hpI h 38 28 = 1) (a b c d e f g i : Int32) : CP G m_X12_isWord 3 0 0 [.ref 38, .int a, .int b, .int c, .int d, .int e, .int f, .int g, .int i] h (fun r h' => r = some (.int (0)) ∧ h = h') := by
  suffices key : ∀ P : Option Value → AHp → Prop, (∀ r h', (r = some (.int (0)) ∧ h = h') → P r h') → CP G m_X12_isWord 3 0 0 [.ref 38, .int a, .int b, .int c, .int d, .int e, .int f, .int g, .int i] h P from key _ (fun _ _ z => z)
  intro P hP
  refine CP.of (by decide +kernel) (Nat.le_of_ble_eq_true rfl) fun X hX hR hnm => ?_
  show V X G 9 0 0 _ 0 [some (.ref 38), some (.int a), some (.int b), some (.int c), some (.int d), some (.int e), some (.int f), some (.int g), some (.int i)] [] h
  refine v_aload_n hX rfl qX12_isWord_0 ?_
  refine v_getIv hX g_X12_156 (Or.inr rfl) (hm.kd 38 rfl) hb qX12_isWord_1 ?_
  first | refine v_if_neB hX 112 qX12_isWord_4 rfl (fun q4 => ?_) (fun q4 => ?_) | refine v_if_ne hX 112 qX12_isWord_4 rfl (fun q4 => ?_) (fun q4 => ?_)
  · skip
    refine v_iconst hX li_0 qX12_isWord_112 ?_
    refine v_zreturn hX (by first | exact Or.inl rfl | exact Or.inr rfl | exact bz01 _) qX12_isWord_113 (hP _ _ ?_)
    exact ⟨rfl, rfl⟩
  · exact absurd q4 (by decide)
