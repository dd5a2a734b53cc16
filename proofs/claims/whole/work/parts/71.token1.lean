/-! the tokens of the class -/
/-- the tape holds sz bytes -/
def TpB (by' : Nat → Int32) (sz : Nat) (h : AHp) : Prop := hpI h 11 1 = nI sz ∧ sz ≤ 160 ∧ ∀ k, k < sz → hpI h 12 k = by' k
theorem sLen_b : ∀ i, i < 13 → sLen.getD i 0 = (sByt.getD i []).length := by decide
/-- a token more -/
def tokH (h : AHp) (m p : Nat) (t : Int32 × Int32) : AHp := stI (stI (stI (stI h 13 m t.1) 14 m t.2) 15 m (nI p)) 11 6 (nI (m + 1))
theorem qX10_byteAt_0 : Dq cX10_byteAt 0 (.iload_n 1) 1 1 := ⟨by decide +kernel, rfl⟩
theorem qX10_byteAt_1 : Dq cX10_byteAt 1 (.ifCond .lt 27) 3 4 := ⟨by decide +kernel, rfl⟩
theorem qX10_byteAt_4 : Dq cX10_byteAt 4 (.iload_n 1) 1 5 := ⟨by decide +kernel, rfl⟩
theorem qX10_byteAt_5 : Dq cX10_byteAt 5 (.aload_n 0) 1 6 := ⟨by decide +kernel, rfl⟩
theorem qX10_byteAt_6 : Dq cX10_byteAt 6 (.getfield 27) 3 9 := ⟨by decide +kernel, rfl⟩
theorem qX10_byteAt_9 : Dq cX10_byteAt 9 (.if_icmp .ge 19) 3 12 := ⟨by decide +kernel, rfl⟩
theorem qX10_byteAt_12 : Dq cX10_byteAt 12 (.iload_n 1) 1 13 := ⟨by decide +kernel, rfl⟩
theorem qX10_byteAt_13 : Dq cX10_byteAt 13 (.sipush 160) 3 16 := ⟨by decide +kernel, rfl⟩
theorem qX10_byteAt_16 : Dq cX10_byteAt 16 (.if_icmp .ge 12) 3 19 := ⟨by decide +kernel, rfl⟩
theorem qX10_byteAt_19 : Dq cX10_byteAt 19 (.aload_n 0) 1 20 := ⟨by decide +kernel, rfl⟩
theorem qX10_byteAt_20 : Dq cX10_byteAt 20 (.getfield 9) 3 23 := ⟨by decide +kernel, rfl⟩
theorem qX10_byteAt_23 : Dq cX10_byteAt 23 (.iload_n 1) 1 24 := ⟨by decide +kernel, rfl⟩
theorem qX10_byteAt_24 : Dq cX10_byteAt 24 (.iaload) 1 25 := ⟨by decide +kernel, rfl⟩
theorem qX10_byteAt_25 : Dq cX10_byteAt 25 (.goto 4) 3 28 := ⟨by decide +kernel, rfl⟩
theorem qX10_byteAt_28 : Dq cX10_byteAt 28 (.iconst (-1)) 1 29 := ⟨by decide +kernel, rfl⟩
theorem qX10_byteAt_29 : Dq cX10_byteAt 29 (.ireturn) 1 30 := ⟨by decide +kernel, rfl⟩
set_option maxRecDepth 100000 in
set_option maxHeartbeats 4000000 in
theorem c_byteAt {G : Glb} {h : AHp} (hs : ShC h) {by' : Nat → Int32} {sz : Nat} (hb : TpB by' sz h) {i : Nat} (hi : i < 2000000) : CP G m_X10_byteAt 1 0 0 [.ref 11, .int (nI i)] h (fun r h' => r = some (.int (btA by' sz i)) ∧ h = h') := by
  suffices key : ∀ P : Option Value → AHp → Prop, (∀ r h', (r = some (.int (btA by' sz i)) ∧ h = h') → P r h') → CP G m_X10_byteAt 1 0 0 [.ref 11, .int (nI i)] h P from key _ (fun _ _ z => z)
  intro P hP
  refine CP.of (by decide +kernel) (Nat.le_of_ble_eq_true rfl) fun X hX hR hnm => ?_
  show V X G 2 0 0 _ 0 [some (.ref 11), some (.int (nI i))] [] h
  obtain ⟨h1, hs160, h2⟩ := hb
  refine v_iload_n hX rfl qX10_byteAt_0 ?_
  refine v_if_ltS hX 28 qX10_byteAt_1 rfl (fun q1 => ?_) (fun q1 => ?_)
  · exact absurd q1 (nI_pos (by omega))
  · skip
    refine v_iload_n hX rfl qX10_byteAt_4 ?_
    refine v_aload_n hX rfl qX10_byteAt_5 ?_
    refine v_getIv hX g_X10_27 (Or.inl rfl) (hs.kd 11 rfl) h1 qX10_byteAt_6 ?_
    refine v_icmp_geS hX 28 qX10_byteAt_9 rfl (fun q9 => ?_) (fun q9 => ?_)
    · have hno := nI_le' (i := sz) (s := i) (by omega) (by omega) q9
      refine v_iconst hX li_n1 qX10_byteAt_28 ?_
      refine v_ireturn hX qX10_byteAt_29 (hP _ _ ?_)
      first | exact ⟨congrArg (fun z => some (Value.int z)) (btA_in hin).symm, rfl⟩ | exact ⟨congrArg (fun z => some (Value.int z)) (btA_no hno).symm, rfl⟩
    · have hin := nI_lt' (i := i) (s := sz) (by omega) (by omega) q9
      refine v_iload_n hX rfl qX10_byteAt_12 ?_
      refine v_sipush hX ls_160 qX10_byteAt_13 ?_
      refine v_icmp_geS hX 28 qX10_byteAt_16 rfl (fun q16 => ?_) (fun q16 => ?_)
      · exact absurd q16 (nI_ge (a := i) (b := 160) (by omega) (by omega))
      · skip
        refine v_aload_n hX rfl qX10_byteAt_19 ?_
        refine v_getR hX g_X10_9 (hs.kd 11 rfl) (hs.rf 14 rfl) qX10_byteAt_20 ?_
        refine v_iload_n hX rfl qX10_byteAt_23 ?_
        refine v_ialdV hX (hs.kd 12 rfl) (hs.ln 12 rfl) (by exact ix_n (n := i) (by omega) rfl) (h2 i hin) qX10_byteAt_24 ?_
        refine v_goto hX 29 qX10_byteAt_25 rfl ?_
        refine v_ireturn hX qX10_byteAt_29 (hP _ _ ?_)
        first | exact ⟨congrArg (fun z => some (Value.int z)) (btA_in hin).symm, rfl⟩ | exact ⟨congrArg (fun z => some (Value.int z)) (btA_no hno).symm, rfl⟩
theorem qX10_isLetter_0 : Dq cX10_isLetter 0 (.bipush 97) 2 2 := ⟨by decide +kernel, rfl⟩
theorem qX10_isLetter_2 : Dq cX10_isLetter 2 (.iload_n 0) 1 3 := ⟨by decide +kernel, rfl⟩
theorem qX10_isLetter_3 : Dq cX10_isLetter 3 (.if_icmp .gt 13) 3 6 := ⟨by decide +kernel, rfl⟩
theorem qX10_isLetter_6 : Dq cX10_isLetter 6 (.iload_n 0) 1 7 := ⟨by decide +kernel, rfl⟩
theorem qX10_isLetter_7 : Dq cX10_isLetter 7 (.bipush 122) 2 9 := ⟨by decide +kernel, rfl⟩
theorem qX10_isLetter_9 : Dq cX10_isLetter 9 (.if_icmp .gt 7) 3 12 := ⟨by decide +kernel, rfl⟩
theorem qX10_isLetter_12 : Dq cX10_isLetter 12 (.iconst 1) 1 13 := ⟨by decide +kernel, rfl⟩
theorem qX10_isLetter_13 : Dq cX10_isLetter 13 (.goto 4) 3 16 := ⟨by decide +kernel, rfl⟩
theorem qX10_isLetter_16 : Dq cX10_isLetter 16 (.iconst 0) 1 17 := ⟨by decide +kernel, rfl⟩
theorem qX10_isLetter_17 : Dq cX10_isLetter 17 (.ireturn) 1 18 := ⟨by decide +kernel, rfl⟩
set_option maxRecDepth 100000 in
set_option maxHeartbeats 4000000 in
theorem c_isLetter {G : Glb} {h : AHp} (b : Int32) : CP G m_X10_isLetter 1 0 0 [.int b] h (fun r h' => r = some (.int (bz (ltB b = true))) ∧ h = h') := by
  suffices key : ∀ P : Option Value → AHp → Prop, (∀ r h', (r = some (.int (bz (ltB b = true))) ∧ h = h') → P r h') → CP G m_X10_isLetter 1 0 0 [.int b] h P from key _ (fun _ _ z => z)
  intro P hP
  refine CP.of (by decide +kernel) (Nat.le_of_ble_eq_true rfl) fun X hX hR hnm => ?_
  show V X G 1 0 0 _ 0 [some (.int b)] [] h
  refine v_bipush hX lb_97 qX10_isLetter_0 ?_
  refine v_iload_n hX rfl qX10_isLetter_2 ?_
  refine v_icmp_gtS hX 16 qX10_isLetter_3 rfl (fun q3 => ?_) (fun q3 => ?_)
  · skip
    refine v_iconst hX li_0 qX10_isLetter_16 ?_
    refine v_zreturn hX (by first | exact Or.inl rfl | exact Or.inr rfl | exact bz01 _) qX10_isLetter_17 (hP _ _ ?_)
    first | exact ⟨rz (bz_f (fun z => absurd q3 (Int32.not_lt.mpr (of_decide_eq_true z).1))), rfl⟩ | exact ⟨rz (bz_f (fun z => absurd q9 (Int32.not_lt.mpr (of_decide_eq_true z).2))), rfl⟩ | exact ⟨rz (bz_t (decide_eq_true ⟨q3, q9⟩)), rfl⟩
  · skip
    refine v_iload_n hX rfl qX10_isLetter_6 ?_
    refine v_bipush hX lb_122 qX10_isLetter_7 ?_
    refine v_icmp_gtS hX 16 qX10_isLetter_9 rfl (fun q9 => ?_) (fun q9 => ?_)
    · skip
      refine v_iconst hX li_0 qX10_isLetter_16 ?_
      refine v_zreturn hX (by first | exact Or.inl rfl | exact Or.inr rfl | exact bz01 _) qX10_isLetter_17 (hP _ _ ?_)
      first | exact ⟨rz (bz_f (fun z => absurd q3 (Int32.not_lt.mpr (of_decide_eq_true z).1))), rfl⟩ | exact ⟨rz (bz_f (fun z => absurd q9 (Int32.not_lt.mpr (of_decide_eq_true z).2))), rfl⟩ | exact ⟨rz (bz_t (decide_eq_true ⟨q3, q9⟩)), rfl⟩
    · skip
      refine v_iconst hX li_1 qX10_isLetter_12 ?_
      refine v_goto hX 17 qX10_isLetter_13 rfl ?_
      refine v_zreturn hX (by first | exact Or.inl rfl | exact Or.inr rfl | exact bz01 _) qX10_isLetter_17 (hP _ _ ?_)
      first | exact ⟨rz (bz_f (fun z => absurd q3 (Int32.not_lt.mpr (of_decide_eq_true z).1))), rfl⟩ | exact ⟨rz (bz_f (fun z => absurd q9 (Int32.not_lt.mpr (of_decide_eq_true z).2))), rfl⟩ | exact ⟨rz (bz_t (decide_eq_true ⟨q3, q9⟩)), rfl⟩
theorem qX10_isDigit_0 : Dq cX10_isDigit 0 (.bipush 48) 2 2 := ⟨by decide +kernel, rfl⟩
theorem qX10_isDigit_2 : Dq cX10_isDigit 2 (.iload_n 0) 1 3 := ⟨by decide +kernel, rfl⟩
theorem qX10_isDigit_3 : Dq cX10_isDigit 3 (.if_icmp .gt 13) 3 6 := ⟨by decide +kernel, rfl⟩
theorem qX10_isDigit_6 : Dq cX10_isDigit 6 (.iload_n 0) 1 7 := ⟨by decide +kernel, rfl⟩
theorem qX10_isDigit_7 : Dq cX10_isDigit 7 (.bipush 57) 2 9 := ⟨by decide +kernel, rfl⟩
theorem qX10_isDigit_9 : Dq cX10_isDigit 9 (.if_icmp .gt 7) 3 12 := ⟨by decide +kernel, rfl⟩
theorem qX10_isDigit_12 : Dq cX10_isDigit 12 (.iconst 1) 1 13 := ⟨by decide +kernel, rfl⟩
theorem qX10_isDigit_13 : Dq cX10_isDigit 13 (.goto 4) 3 16 := ⟨by decide +kernel, rfl⟩
theorem qX10_isDigit_16 : Dq cX10_isDigit 16 (.iconst 0) 1 17 := ⟨by decide +kernel, rfl⟩
theorem qX10_isDigit_17 : Dq cX10_isDigit 17 (.ireturn) 1 18 := ⟨by decide +kernel, rfl⟩
set_option maxRecDepth 100000 in
set_option maxHeartbeats 4000000 in
theorem c_isDigit {G : Glb} {h : AHp} (b : Int32) : CP G m_X10_isDigit 1 0 0 [.int b] h (fun r h' => r = some (.int (bz (dgB b = true))) ∧ h = h') := by
  suffices key : ∀ P : Option Value → AHp → Prop, (∀ r h', (r = some (.int (bz (dgB b = true))) ∧ h = h') → P r h') → CP G m_X10_isDigit 1 0 0 [.int b] h P from key _ (fun _ _ z => z)
  intro P hP
  refine CP.of (by decide +kernel) (Nat.le_of_ble_eq_true rfl) fun X hX hR hnm => ?_
  show V X G 1 0 0 _ 0 [some (.int b)] [] h
  refine v_bipush hX lb_48 qX10_isDigit_0 ?_
  refine v_iload_n hX rfl qX10_isDigit_2 ?_
  refine v_icmp_gtS hX 16 qX10_isDigit_3 rfl (fun q3 => ?_) (fun q3 => ?_)
  · skip
    refine v_iconst hX li_0 qX10_isDigit_16 ?_
    refine v_zreturn hX (by first | exact Or.inl rfl | exact Or.inr rfl | exact bz01 _) qX10_isDigit_17 (hP _ _ ?_)
    first | exact ⟨rz (bz_f (fun z => absurd q3 (Int32.not_lt.mpr (of_decide_eq_true z).1))), rfl⟩ | exact ⟨rz (bz_f (fun z => absurd q9 (Int32.not_lt.mpr (of_decide_eq_true z).2))), rfl⟩ | exact ⟨rz (bz_t (decide_eq_true ⟨q3, q9⟩)), rfl⟩
  · skip
    refine v_iload_n hX rfl qX10_isDigit_6 ?_
    refine v_bipush hX lb_57 qX10_isDigit_7 ?_
    refine v_icmp_gtS hX 16 qX10_isDigit_9 rfl (fun q9 => ?_) (fun q9 => ?_)
    · skip
      refine v_iconst hX li_0 qX10_isDigit_16 ?_
      refine v_zreturn hX (by first | exact Or.inl rfl | exact Or.inr rfl | exact bz01 _) qX10_isDigit_17 (hP _ _ ?_)
      first | exact ⟨rz (bz_f (fun z => absurd q3 (Int32.not_lt.mpr (of_decide_eq_true z).1))), rfl⟩ | exact ⟨rz (bz_f (fun z => absurd q9 (Int32.not_lt.mpr (of_decide_eq_true z).2))), rfl⟩ | exact ⟨rz (bz_t (decide_eq_true ⟨q3, q9⟩)), rfl⟩
    · skip
      refine v_iconst hX li_1 qX10_isDigit_12 ?_
      refine v_goto hX 17 qX10_isDigit_13 rfl ?_
      refine v_zreturn hX (by first | exact Or.inl rfl | exact Or.inr rfl | exact bz01 _) qX10_isDigit_17 (hP _ _ ?_)
      first | exact ⟨rz (bz_f (fun z => absurd q3 (Int32.not_lt.mpr (of_decide_eq_true z).1))), rfl⟩ | exact ⟨rz (bz_f (fun z => absurd q9 (Int32.not_lt.mpr (of_decide_eq_true z).2))), rfl⟩ | exact ⟨rz (bz_t (decide_eq_true ⟨q3, q9⟩)), rfl⟩
theorem qX10_isSign_0 : Dq cX10_isSign 0 (.iload_n 0) 1 1 := ⟨by decide +kernel, rfl⟩
theorem qX10_isSign_1 : Dq cX10_isSign 1 (.tableswitch 105 40 61 #[103, 103, 103, 103, 105, 103, 105, 105, 105, 105, 105, 105, 105, 105, 105, 105, 105, 105, 105, 103, 103, 103]) 103 104 := ⟨by decide +kernel, rfl⟩
theorem qX10_isSign_104 : Dq cX10_isSign 104 (.iconst 1) 1 105 := ⟨by decide +kernel, rfl⟩
theorem qX10_isSign_105 : Dq cX10_isSign 105 (.ireturn) 1 106 := ⟨by decide +kernel, rfl⟩
theorem qX10_isSign_106 : Dq cX10_isSign 106 (.iconst 0) 1 107 := ⟨by decide +kernel, rfl⟩
theorem qX10_isSign_107 : Dq cX10_isSign 107 (.ireturn) 1 108 := ⟨by decide +kernel, rfl⟩
set_option maxRecDepth 100000 in
set_option maxHeartbeats 4000000 in
theorem c_isSign {G : Glb} {h : AHp} (b : Int32) : CP G m_X10_isSign 1 0 0 [.int b] h (fun r h' => r = some (.int (bz (isSg b = true))) ∧ h = h') := by
  suffices key : ∀ P : Option Value → AHp → Prop, (∀ r h', (r = some (.int (bz (isSg b = true))) ∧ h = h') → P r h') → CP G m_X10_isSign 1 0 0 [.int b] h P from key _ (fun _ _ z => z)
  intro P hP
  refine CP.of (by decide +kernel) (Nat.le_of_ble_eq_true rfl) fun X hX hR hnm => ?_
  show V X G 1 0 0 _ 0 [some (.int b)] [] h
  refine v_iload_n hX rfl qX10_isSign_0 ?_
  refine v_case (40 : Int32) (fun q1 => ?_) (fun q1_40 => ?_)
  · skip
    refine v_tableIn (off := 103) hX 104 qX10_isSign_1 (by first | exact (by rw [q1]; decide) | decide) (by first | exact (by rw [q1]; decide) | decide) (by first | exact (by rw [q1]; rfl) | rfl) rfl ?_
    refine v_iconst hX li_1 qX10_isSign_104 ?_
    refine v_zreturn hX (by first | exact Or.inl rfl | exact Or.inr rfl | exact bz01 _) qX10_isSign_105 (hP _ _ ?_)
    exact ⟨by rw [q1]; rfl, rfl⟩
  refine v_case (41 : Int32) (fun q1 => ?_) (fun q1_41 => ?_)
  · skip
    refine v_tableIn (off := 103) hX 104 qX10_isSign_1 (by first | exact (by rw [q1]; decide) | decide) (by first | exact (by rw [q1]; decide) | decide) (by first | exact (by rw [q1]; rfl) | rfl) rfl ?_
    refine v_iconst hX li_1 qX10_isSign_104 ?_
    refine v_zreturn hX (by first | exact Or.inl rfl | exact Or.inr rfl | exact bz01 _) qX10_isSign_105 (hP _ _ ?_)
    exact ⟨by rw [q1]; rfl, rfl⟩
  refine v_case (42 : Int32) (fun q1 => ?_) (fun q1_42 => ?_)
  · skip
    refine v_tableIn (off := 103) hX 104 qX10_isSign_1 (by first | exact (by rw [q1]; decide) | decide) (by first | exact (by rw [q1]; decide) | decide) (by first | exact (by rw [q1]; rfl) | rfl) rfl ?_
    refine v_iconst hX li_1 qX10_isSign_104 ?_
    refine v_zreturn hX (by first | exact Or.inl rfl | exact Or.inr rfl | exact bz01 _) qX10_isSign_105 (hP _ _ ?_)
    exact ⟨by rw [q1]; rfl, rfl⟩
  refine v_case (43 : Int32) (fun q1 => ?_) (fun q1_43 => ?_)
  · skip
    refine v_tableIn (off := 103) hX 104 qX10_isSign_1 (by first | exact (by rw [q1]; decide) | decide) (by first | exact (by rw [q1]; decide) | decide) (by first | exact (by rw [q1]; rfl) | rfl) rfl ?_
    refine v_iconst hX li_1 qX10_isSign_104 ?_
    refine v_zreturn hX (by first | exact Or.inl rfl | exact Or.inr rfl | exact bz01 _) qX10_isSign_105 (hP _ _ ?_)
    exact ⟨by rw [q1]; rfl, rfl⟩
  refine v_case (44 : Int32) (fun q1 => ?_) (fun q1_44 => ?_)
  · skip
    refine v_tableIn (off := 105) hX 106 qX10_isSign_1 (by first | exact (by rw [q1]; decide) | decide) (by first | exact (by rw [q1]; decide) | decide) (by first | exact (by rw [q1]; rfl) | rfl) rfl ?_
    refine v_iconst hX li_0 qX10_isSign_106 ?_
    refine v_zreturn hX (by first | exact Or.inl rfl | exact Or.inr rfl | exact bz01 _) qX10_isSign_107 (hP _ _ ?_)
    first | exact ⟨by rw [q1]; rfl, rfl⟩ | exact ⟨rz (bz_f (by unfold isSg; simp [q1_40, q1_41, q1_42, q1_43, q1_45, q1_59, q1_60, q1_61])), rfl⟩
  refine v_case (45 : Int32) (fun q1 => ?_) (fun q1_45 => ?_)
  · skip
    refine v_tableIn (off := 103) hX 104 qX10_isSign_1 (by first | exact (by rw [q1]; decide) | decide) (by first | exact (by rw [q1]; decide) | decide) (by first | exact (by rw [q1]; rfl) | rfl) rfl ?_
    refine v_iconst hX li_1 qX10_isSign_104 ?_
    refine v_zreturn hX (by first | exact Or.inl rfl | exact Or.inr rfl | exact bz01 _) qX10_isSign_105 (hP _ _ ?_)
    exact ⟨by rw [q1]; rfl, rfl⟩
  refine v_case (46 : Int32) (fun q1 => ?_) (fun q1_46 => ?_)
  · skip
    refine v_tableIn (off := 105) hX 106 qX10_isSign_1 (by first | exact (by rw [q1]; decide) | decide) (by first | exact (by rw [q1]; decide) | decide) (by first | exact (by rw [q1]; rfl) | rfl) rfl ?_
    refine v_iconst hX li_0 qX10_isSign_106 ?_
    refine v_zreturn hX (by first | exact Or.inl rfl | exact Or.inr rfl | exact bz01 _) qX10_isSign_107 (hP _ _ ?_)
    first | exact ⟨by rw [q1]; rfl, rfl⟩ | exact ⟨rz (bz_f (by unfold isSg; simp [q1_40, q1_41, q1_42, q1_43, q1_45, q1_59, q1_60, q1_61])), rfl⟩
  refine v_case (47 : Int32) (fun q1 => ?_) (fun q1_47 => ?_)
  · skip
    refine v_tableIn (off := 105) hX 106 qX10_isSign_1 (by first | exact (by rw [q1]; decide) | decide) (by first | exact (by rw [q1]; decide) | decide) (by first | exact (by rw [q1]; rfl) | rfl) rfl ?_
    refine v_iconst hX li_0 qX10_isSign_106 ?_
    refine v_zreturn hX (by first | exact Or.inl rfl | exact Or.inr rfl | exact bz01 _) qX10_isSign_107 (hP _ _ ?_)
    first | exact ⟨by rw [q1]; rfl, rfl⟩ | exact ⟨rz (bz_f (by unfold isSg; simp [q1_40, q1_41, q1_42, q1_43, q1_45, q1_59, q1_60, q1_61])), rfl⟩
  refine v_case (48 : Int32) (fun q1 => ?_) (fun q1_48 => ?_)
  · skip
    refine v_tableIn (off := 105) hX 106 qX10_isSign_1 (by first | exact (by rw [q1]; decide) | decide) (by first | exact (by rw [q1]; decide) | decide) (by first | exact (by rw [q1]; rfl) | rfl) rfl ?_
    refine v_iconst hX li_0 qX10_isSign_106 ?_
    refine v_zreturn hX (by first | exact Or.inl rfl | exact Or.inr rfl | exact bz01 _) qX10_isSign_107 (hP _ _ ?_)
    first | exact ⟨by rw [q1]; rfl, rfl⟩ | exact ⟨rz (bz_f (by unfold isSg; simp [q1_40, q1_41, q1_42, q1_43, q1_45, q1_59, q1_60, q1_61])), rfl⟩
  refine v_case (49 : Int32) (fun q1 => ?_) (fun q1_49 => ?_)
  · skip
    refine v_tableIn (off := 105) hX 106 qX10_isSign_1 (by first | exact (by rw [q1]; decide) | decide) (by first | exact (by rw [q1]; decide) | decide) (by first | exact (by rw [q1]; rfl) | rfl) rfl ?_
    refine v_iconst hX li_0 qX10_isSign_106 ?_
    refine v_zreturn hX (by first | exact Or.inl rfl | exact Or.inr rfl | exact bz01 _) qX10_isSign_107 (hP _ _ ?_)
    first | exact ⟨by rw [q1]; rfl, rfl⟩ | exact ⟨rz (bz_f (by unfold isSg; simp [q1_40, q1_41, q1_42, q1_43, q1_45, q1_59, q1_60, q1_61])), rfl⟩
  refine v_case (50 : Int32) (fun q1 => ?_) (fun q1_50 => ?_)
  · skip
    refine v_tableIn (off := 105) hX 106 qX10_isSign_1 (by first | exact (by rw [q1]; decide) | decide) (by first | exact (by rw [q1]; decide) | decide) (by first | exact (by rw [q1]; rfl) | rfl) rfl ?_
    refine v_iconst hX li_0 qX10_isSign_106 ?_
    refine v_zreturn hX (by first | exact Or.inl rfl | exact Or.inr rfl | exact bz01 _) qX10_isSign_107 (hP _ _ ?_)
    first | exact ⟨by rw [q1]; rfl, rfl⟩ | exact ⟨rz (bz_f (by unfold isSg; simp [q1_40, q1_41, q1_42, q1_43, q1_45, q1_59, q1_60, q1_61])), rfl⟩
  refine v_case (51 : Int32) (fun q1 => ?_) (fun q1_51 => ?_)
  · skip
    refine v_tableIn (off := 105) hX 106 qX10_isSign_1 (by first | exact (by rw [q1]; decide) | decide) (by first | exact (by rw [q1]; decide) | decide) (by first | exact (by rw [q1]; rfl) | rfl) rfl ?_
    refine v_iconst hX li_0 qX10_isSign_106 ?_
    refine v_zreturn hX (by first | exact Or.inl rfl | exact Or.inr rfl | exact bz01 _) qX10_isSign_107 (hP _ _ ?_)
    first | exact ⟨by rw [q1]; rfl, rfl⟩ | exact ⟨rz (bz_f (by unfold isSg; simp [q1_40, q1_41, q1_42, q1_43, q1_45, q1_59, q1_60, q1_61])), rfl⟩
  refine v_case (52 : Int32) (fun q1 => ?_) (fun q1_52 => ?_)
  · skip
    refine v_tableIn (off := 105) hX 106 qX10_isSign_1 (by first | exact (by rw [q1]; decide) | decide) (by first | exact (by rw [q1]; decide) | decide) (by first | exact (by rw [q1]; rfl) | rfl) rfl ?_
    refine v_iconst hX li_0 qX10_isSign_106 ?_
    refine v_zreturn hX (by first | exact Or.inl rfl | exact Or.inr rfl | exact bz01 _) qX10_isSign_107 (hP _ _ ?_)
    first | exact ⟨by rw [q1]; rfl, rfl⟩ | exact ⟨rz (bz_f (by unfold isSg; simp [q1_40, q1_41, q1_42, q1_43, q1_45, q1_59, q1_60, q1_61])), rfl⟩
  refine v_case (53 : Int32) (fun q1 => ?_) (fun q1_53 => ?_)
  · skip
    refine v_tableIn (off := 105) hX 106 qX10_isSign_1 (by first | exact (by rw [q1]; decide) | decide) (by first | exact (by rw [q1]; decide) | decide) (by first | exact (by rw [q1]; rfl) | rfl) rfl ?_
    refine v_iconst hX li_0 qX10_isSign_106 ?_
    refine v_zreturn hX (by first | exact Or.inl rfl | exact Or.inr rfl | exact bz01 _) qX10_isSign_107 (hP _ _ ?_)
    first | exact ⟨by rw [q1]; rfl, rfl⟩ | exact ⟨rz (bz_f (by unfold isSg; simp [q1_40, q1_41, q1_42, q1_43, q1_45, q1_59, q1_60, q1_61])), rfl⟩
  refine v_case (54 : Int32) (fun q1 => ?_) (fun q1_54 => ?_)
  · skip
    refine v_tableIn (off := 105) hX 106 qX10_isSign_1 (by first | exact (by rw [q1]; decide) | decide) (by first | exact (by rw [q1]; decide) | decide) (by first | exact (by rw [q1]; rfl) | rfl) rfl ?_
    refine v_iconst hX li_0 qX10_isSign_106 ?_
    refine v_zreturn hX (by first | exact Or.inl rfl | exact Or.inr rfl | exact bz01 _) qX10_isSign_107 (hP _ _ ?_)
    first | exact ⟨by rw [q1]; rfl, rfl⟩ | exact ⟨rz (bz_f (by unfold isSg; simp [q1_40, q1_41, q1_42, q1_43, q1_45, q1_59, q1_60, q1_61])), rfl⟩
  refine v_case (55 : Int32) (fun q1 => ?_) (fun q1_55 => ?_)
  · skip
    refine v_tableIn (off := 105) hX 106 qX10_isSign_1 (by first | exact (by rw [q1]; decide) | decide) (by first | exact (by rw [q1]; decide) | decide) (by first | exact (by rw [q1]; rfl) | rfl) rfl ?_
    refine v_iconst hX li_0 qX10_isSign_106 ?_
    refine v_zreturn hX (by first | exact Or.inl rfl | exact Or.inr rfl | exact bz01 _) qX10_isSign_107 (hP _ _ ?_)
    first | exact ⟨by rw [q1]; rfl, rfl⟩ | exact ⟨rz (bz_f (by unfold isSg; simp [q1_40, q1_41, q1_42, q1_43, q1_45, q1_59, q1_60, q1_61])), rfl⟩
  refine v_case (56 : Int32) (fun q1 => ?_) (fun q1_56 => ?_)
  · skip
    refine v_tableIn (off := 105) hX 106 qX10_isSign_1 (by first | exact (by rw [q1]; decide) | decide) (by first | exact (by rw [q1]; decide) | decide) (by first | exact (by rw [q1]; rfl) | rfl) rfl ?_
    refine v_iconst hX li_0 qX10_isSign_106 ?_
    refine v_zreturn hX (by first | exact Or.inl rfl | exact Or.inr rfl | exact bz01 _) qX10_isSign_107 (hP _ _ ?_)
    first | exact ⟨by rw [q1]; rfl, rfl⟩ | exact ⟨rz (bz_f (by unfold isSg; simp [q1_40, q1_41, q1_42, q1_43, q1_45, q1_59, q1_60, q1_61])), rfl⟩
  refine v_case (57 : Int32) (fun q1 => ?_) (fun q1_57 => ?_)
  · skip
    refine v_tableIn (off := 105) hX 106 qX10_isSign_1 (by first | exact (by rw [q1]; decide) | decide) (by first | exact (by rw [q1]; decide) | decide) (by first | exact (by rw [q1]; rfl) | rfl) rfl ?_
    refine v_iconst hX li_0 qX10_isSign_106 ?_
    refine v_zreturn hX (by first | exact Or.inl rfl | exact Or.inr rfl | exact bz01 _) qX10_isSign_107 (hP _ _ ?_)
    first | exact ⟨by rw [q1]; rfl, rfl⟩ | exact ⟨rz (bz_f (by unfold isSg; simp [q1_40, q1_41, q1_42, q1_43, q1_45, q1_59, q1_60, q1_61])), rfl⟩
  refine v_case (58 : Int32) (fun q1 => ?_) (fun q1_58 => ?_)
  · skip
    refine v_tableIn (off := 105) hX 106 qX10_isSign_1 (by first | exact (by rw [q1]; decide) | decide) (by first | exact (by rw [q1]; decide) | decide) (by first | exact (by rw [q1]; rfl) | rfl) rfl ?_
    refine v_iconst hX li_0 qX10_isSign_106 ?_
    refine v_zreturn hX (by first | exact Or.inl rfl | exact Or.inr rfl | exact bz01 _) qX10_isSign_107 (hP _ _ ?_)
    first | exact ⟨by rw [q1]; rfl, rfl⟩ | exact ⟨rz (bz_f (by unfold isSg; simp [q1_40, q1_41, q1_42, q1_43, q1_45, q1_59, q1_60, q1_61])), rfl⟩
  refine v_case (59 : Int32) (fun q1 => ?_) (fun q1_59 => ?_)
  · skip
    refine v_tableIn (off := 103) hX 104 qX10_isSign_1 (by first | exact (by rw [q1]; decide) | decide) (by first | exact (by rw [q1]; decide) | decide) (by first | exact (by rw [q1]; rfl) | rfl) rfl ?_
    refine v_iconst hX li_1 qX10_isSign_104 ?_
    refine v_zreturn hX (by first | exact Or.inl rfl | exact Or.inr rfl | exact bz01 _) qX10_isSign_105 (hP _ _ ?_)
    exact ⟨by rw [q1]; rfl, rfl⟩
  refine v_case (60 : Int32) (fun q1 => ?_) (fun q1_60 => ?_)
  · skip
    refine v_tableIn (off := 103) hX 104 qX10_isSign_1 (by first | exact (by rw [q1]; decide) | decide) (by first | exact (by rw [q1]; decide) | decide) (by first | exact (by rw [q1]; rfl) | rfl) rfl ?_
    refine v_iconst hX li_1 qX10_isSign_104 ?_
    refine v_zreturn hX (by first | exact Or.inl rfl | exact Or.inr rfl | exact bz01 _) qX10_isSign_105 (hP _ _ ?_)
    exact ⟨by rw [q1]; rfl, rfl⟩
  refine v_case (61 : Int32) (fun q1 => ?_) (fun q1_61 => ?_)
  · skip
    refine v_tableIn (off := 103) hX 104 qX10_isSign_1 (by first | exact (by rw [q1]; decide) | decide) (by first | exact (by rw [q1]; decide) | decide) (by first | exact (by rw [q1]; rfl) | rfl) rfl ?_
    refine v_iconst hX li_1 qX10_isSign_104 ?_
    refine v_zreturn hX (by first | exact Or.inl rfl | exact Or.inr rfl | exact bz01 _) qX10_isSign_105 (hP _ _ ?_)
    exact ⟨by rw [q1]; rfl, rfl⟩
  refine v_tableOut hX 106 qX10_isSign_1 ?_ rfl ?_
  · have z40 := ne_i (40) (by decide) q1_40; have z41 := ne_i (41) (by decide) q1_41; have z42 := ne_i (42) (by decide) q1_42; have z43 := ne_i (43) (by decide) q1_43; have z44 := ne_i (44) (by decide) q1_44; have z45 := ne_i (45) (by decide) q1_45; have z46 := ne_i (46) (by decide) q1_46; have z47 := ne_i (47) (by decide) q1_47; have z48 := ne_i (48) (by decide) q1_48; have z49 := ne_i (49) (by decide) q1_49; have z50 := ne_i (50) (by decide) q1_50; have z51 := ne_i (51) (by decide) q1_51; have z52 := ne_i (52) (by decide) q1_52; have z53 := ne_i (53) (by decide) q1_53; have z54 := ne_i (54) (by decide) q1_54; have z55 := ne_i (55) (by decide) q1_55; have z56 := ne_i (56) (by decide) q1_56; have z57 := ne_i (57) (by decide) q1_57; have z58 := ne_i (58) (by decide) q1_58; have z59 := ne_i (59) (by decide) q1_59; have z60 := ne_i (60) (by decide) q1_60; have z61 := ne_i (61) (by decide) q1_61; omega
  refine v_iconst hX li_0 qX10_isSign_106 ?_
  refine v_zreturn hX (by first | exact Or.inl rfl | exact Or.inr rfl | exact bz01 _) qX10_isSign_107 (hP _ _ ?_)
  first | exact ⟨by rw [q1]; rfl, rfl⟩ | exact ⟨rz (bz_f (by unfold isSg; simp [q1_40, q1_41, q1_42, q1_43, q1_45, q1_59, q1_60, q1_61])), rfl⟩
theorem qX10_endOfWord_0 : Dq cX10_endOfWord 0 (.iload_n 1) 1 1 := ⟨by decide +kernel, rfl⟩
theorem qX10_endOfWord_1 : Dq cX10_endOfWord 1 (.istore_n 2) 1 2 := ⟨by decide +kernel, rfl⟩
theorem qX10_endOfWord_2 : Dq cX10_endOfWord 2 (.iconst 0) 1 3 := ⟨by decide +kernel, rfl⟩
theorem qX10_endOfWord_3 : Dq cX10_endOfWord 3 (.istore_n 3) 1 4 := ⟨by decide +kernel, rfl⟩
theorem qX10_endOfWord_4 : Dq cX10_endOfWord 4 (.iload_n 3) 1 5 := ⟨by decide +kernel, rfl⟩
theorem qX10_endOfWord_5 : Dq cX10_endOfWord 5 (.sipush 160) 3 8 := ⟨by decide +kernel, rfl⟩
theorem qX10_endOfWord_8 : Dq cX10_endOfWord 8 (.if_icmp .ge 23) 3 11 := ⟨by decide +kernel, rfl⟩
theorem qX10_endOfWord_11 : Dq cX10_endOfWord 11 (.aload_n 0) 1 12 := ⟨by decide +kernel, rfl⟩
theorem qX10_endOfWord_12 : Dq cX10_endOfWord 12 (.iload_n 2) 1 13 := ⟨by decide +kernel, rfl⟩
theorem qX10_endOfWord_13 : Dq cX10_endOfWord 13 (.invokevirtual 116) 3 16 := ⟨by decide +kernel, rfl⟩
theorem qX10_endOfWord_16 : Dq cX10_endOfWord 16 (.invokestatic 120) 3 19 := ⟨by decide +kernel, rfl⟩
theorem qX10_endOfWord_19 : Dq cX10_endOfWord 19 (.ifCond .eq 12) 3 22 := ⟨by decide +kernel, rfl⟩
theorem qX10_endOfWord_22 : Dq cX10_endOfWord 22 (.iinc 2 1) 3 25 := ⟨by decide +kernel, rfl⟩
theorem qX10_endOfWord_25 : Dq cX10_endOfWord 25 (.iinc 3 1) 3 28 := ⟨by decide +kernel, rfl⟩
theorem qX10_endOfWord_28 : Dq cX10_endOfWord 28 (.goto (-24)) 3 31 := ⟨by decide +kernel, rfl⟩
theorem qX10_endOfWord_31 : Dq cX10_endOfWord 31 (.iload_n 2) 1 32 := ⟨by decide +kernel, rfl⟩
theorem qX10_endOfWord_32 : Dq cX10_endOfWord 32 (.ireturn) 1 33 := ⟨by decide +kernel, rfl⟩
set_option maxRecDepth 100000 in
set_option maxHeartbeats 4000000 in
theorem c_endOfWord {G : Glb} {h : AHp} (hs : ShC h) {by' : Nat → Int32} {sz : Nat} (hb : TpB by' sz h) {p : Nat} (hp : p ≤ sz) : CP G m_X10_endOfWord 2 0 0 [.ref 11, .int (nI p)] h (fun r h' => r = some (.int (nI (wnd by' sz p))) ∧ h = h') := by
  suffices key : ∀ P : Option Value → AHp → Prop, (∀ r h', (r = some (.int (nI (wnd by' sz p))) ∧ h = h') → P r h') → CP G m_X10_endOfWord 2 0 0 [.ref 11, .int (nI p)] h P from key _ (fun _ _ z => z)
  intro P hP
  refine CP.of (by decide +kernel) (Nat.le_of_ble_eq_true rfl) fun X hX hR hnm => ?_
  show V X G 4 0 0 _ 0 [some (.ref 11), some (.int (nI p)), none, none] [] h
  have hs160 := hb.2.1
  refine v_iload_n hX rfl qX10_endOfWord_0 ?_
  refine v_istore_n hX (Nat.le_of_ble_eq_true rfl) rfl (ls' := [some _, some _, some _, none]) rfl qX10_endOfWord_1 ?_
  refine v_iconst hX li_0 qX10_endOfWord_2 ?_
  refine v_istore_n hX (Nat.le_of_ble_eq_true rfl) rfl (ls' := [some _, some _, some _, some _]) rfl qX10_endOfWord_3 ?_
  have L4 : ∀ (mz : Nat) (m : Nat), sz - (p + m) = mz → (p + m ≤ sz) → (∀ k, p ≤ k → k < p + m → ltB (btA by' sz k) = true) → V X G 4 0 0 (QM X G P 0 0) 4 [some (.ref 11), some (.int (nI p)), some (.int (nI (p + m))), some (.int (nI m))] [] h := by
    intro mz
    induction mz using Nat.strongRecOn with
    | _ mz ih =>
    intro m hmz hm hall
    refine v_iload_n hX rfl qX10_endOfWord_4 ?_
    refine v_sipush hX ls_160 qX10_endOfWord_5 ?_
    refine v_icmp_geS hX 31 qX10_endOfWord_8 rfl (fun q8 => ?_) (fun q8 => ?_)
    · have hx : ltB (btA by' sz (p + m)) = false := ltB_no _ (by have := nI_le' (i := 160) (s := m) (by omega) (by omega) q8; omega)
      refine v_iload_n hX rfl qX10_endOfWord_31 ?_
      refine v_ireturn hX qX10_endOfWord_32 (hP _ _ ?_)
      exact ⟨by rw [show wnd by' sz p = p + m from (wnd_is p).uniq ⟨by omega, hall, hx⟩], rfl⟩
    · skip
      refine v_aload_n hX rfl qX10_endOfWord_11 ?_
      refine v_iload_n hX rfl qX10_endOfWord_12 ?_
      refine v_callVq hX hR k_X10_116 (hs.kd 11 rfl) (c_byteAt (by exact hs) (by exact hb) (i := p + m) (by omega)) rfl (Nat.le_of_ble_eq_true rfl) rfl (Nat.le_of_ble_eq_true rfl) ⟨Nat.le_of_ble_eq_true rfl, Nat.le_of_ble_eq_true rfl⟩ qX10_endOfWord_13 ?_
      rintro _ _ ⟨rfl, rfl⟩
      refine v_callSq hX hR k_X10_120 (c_isLetter _) rfl (Nat.le_of_ble_eq_true rfl) rfl (Nat.le_of_ble_eq_true rfl) ⟨Nat.le_of_ble_eq_true rfl, Nat.le_of_ble_eq_true rfl⟩ qX10_endOfWord_16 ?_
      rintro _ _ ⟨rfl, rfl⟩
      first | refine v_if_eqB hX 31 qX10_endOfWord_19 rfl (fun q19 => ?_) (fun q19 => ?_) | refine v_if_eq hX 31 qX10_endOfWord_19 rfl (fun q19 => ?_) (fun q19 => ?_)
      · have hx : ltB (btA by' sz (p + m)) = false := Bool.eq_false_iff.mpr q19
        refine v_iload_n hX rfl qX10_endOfWord_31 ?_
        refine v_ireturn hX qX10_endOfWord_32 (hP _ _ ?_)
        exact ⟨by rw [show wnd by' sz p = p + m from (wnd_is p).uniq ⟨by omega, hall, hx⟩], rfl⟩
      · skip
        refine v_iinc hX rfl (ii_nI (p + m)) (Nat.le_of_ble_eq_true rfl) rfl (ls' := [some _, some _, some _, some _]) rfl qX10_endOfWord_22 ?_
        refine v_iinc hX rfl (by first | exact ii_nI _ | exact ii_1 _) (Nat.le_of_ble_eq_true rfl) rfl (ls' := [some _, some _, some _, some _]) rfl qX10_endOfWord_25 ?_
        refine v_goto hX 4 qX10_endOfWord_28 rfl ?_
        have hql : p + m < sz := Nat.lt_of_not_le fun z => by
          rw [ltB_no (by' := by') _ z] at q19
          exact absurd q19 (by decide)
        exact ih _ (by omega) (m + 1) rfl (by omega) (fun k h1 h2 => by
          by_cases e : k = p + m
          · subst e; exact q19
          · exact hall k h1 (by omega))
  exact L4 _ 0 rfl (by omega) (fun k h1 h2 => absurd h2 (by omega))
theorem qX10_endOfNumber_0 : Dq cX10_endOfNumber 0 (.iload_n 1) 1 1 := ⟨by decide +kernel, rfl⟩
theorem qX10_endOfNumber_1 : Dq cX10_endOfNumber 1 (.istore_n 2) 1 2 := ⟨by decide +kernel, rfl⟩
theorem qX10_endOfNumber_2 : Dq cX10_endOfNumber 2 (.iconst 0) 1 3 := ⟨by decide +kernel, rfl⟩
theorem qX10_endOfNumber_3 : Dq cX10_endOfNumber 3 (.istore_n 3) 1 4 := ⟨by decide +kernel, rfl⟩
theorem qX10_endOfNumber_4 : Dq cX10_endOfNumber 4 (.iload_n 3) 1 5 := ⟨by decide +kernel, rfl⟩
theorem qX10_endOfNumber_5 : Dq cX10_endOfNumber 5 (.sipush 160) 3 8 := ⟨by decide +kernel, rfl⟩
theorem qX10_endOfNumber_8 : Dq cX10_endOfNumber 8 (.if_icmp .ge 23) 3 11 := ⟨by decide +kernel, rfl⟩
theorem qX10_endOfNumber_11 : Dq cX10_endOfNumber 11 (.aload_n 0) 1 12 := ⟨by decide +kernel, rfl⟩
theorem qX10_endOfNumber_12 : Dq cX10_endOfNumber 12 (.iload_n 2) 1 13 := ⟨by decide +kernel, rfl⟩
theorem qX10_endOfNumber_13 : Dq cX10_endOfNumber 13 (.invokevirtual 116) 3 16 := ⟨by decide +kernel, rfl⟩
theorem qX10_endOfNumber_16 : Dq cX10_endOfNumber 16 (.invokestatic 130) 3 19 := ⟨by decide +kernel, rfl⟩
theorem qX10_endOfNumber_19 : Dq cX10_endOfNumber 19 (.ifCond .eq 12) 3 22 := ⟨by decide +kernel, rfl⟩
theorem qX10_endOfNumber_22 : Dq cX10_endOfNumber 22 (.iinc 2 1) 3 25 := ⟨by decide +kernel, rfl⟩
theorem qX10_endOfNumber_25 : Dq cX10_endOfNumber 25 (.iinc 3 1) 3 28 := ⟨by decide +kernel, rfl⟩
theorem qX10_endOfNumber_28 : Dq cX10_endOfNumber 28 (.goto (-24)) 3 31 := ⟨by decide +kernel, rfl⟩
theorem qX10_endOfNumber_31 : Dq cX10_endOfNumber 31 (.iload_n 2) 1 32 := ⟨by decide +kernel, rfl⟩
theorem qX10_endOfNumber_32 : Dq cX10_endOfNumber 32 (.ireturn) 1 33 := ⟨by decide +kernel, rfl⟩
set_option maxRecDepth 100000 in
set_option maxHeartbeats 4000000 in
theorem c_endOfNumber {G : Glb} {h : AHp} (hs : ShC h) {by' : Nat → Int32} {sz : Nat} (hb : TpB by' sz h) {p : Nat} (hp : p ≤ sz) : CP G m_X10_endOfNumber 2 0 0 [.ref 11, .int (nI p)] h (fun r h' => r = some (.int (nI (nnd by' sz p))) ∧ h = h') := by
  suffices key : ∀ P : Option Value → AHp → Prop, (∀ r h', (r = some (.int (nI (nnd by' sz p))) ∧ h = h') → P r h') → CP G m_X10_endOfNumber 2 0 0 [.ref 11, .int (nI p)] h P from key _ (fun _ _ z => z)
  intro P hP
  refine CP.of (by decide +kernel) (Nat.le_of_ble_eq_true rfl) fun X hX hR hnm => ?_
  show V X G 4 0 0 _ 0 [some (.ref 11), some (.int (nI p)), none, none] [] h
  have hs160 := hb.2.1
  refine v_iload_n hX rfl qX10_endOfNumber_0 ?_
  refine v_istore_n hX (Nat.le_of_ble_eq_true rfl) rfl (ls' := [some _, some _, some _, none]) rfl qX10_endOfNumber_1 ?_
  refine v_iconst hX li_0 qX10_endOfNumber_2 ?_
  refine v_istore_n hX (Nat.le_of_ble_eq_true rfl) rfl (ls' := [some _, some _, some _, some _]) rfl qX10_endOfNumber_3 ?_
  have L4 : ∀ (mz : Nat) (m : Nat), sz - (p + m) = mz → (p + m ≤ sz) → (∀ k, p ≤ k → k < p + m → dgB (btA by' sz k) = true) → V X G 4 0 0 (QM X G P 0 0) 4 [some (.ref 11), some (.int (nI p)), some (.int (nI (p + m))), some (.int (nI m))] [] h := by
    intro mz
    induction mz using Nat.strongRecOn with
    | _ mz ih =>
    intro m hmz hm hall
    refine v_iload_n hX rfl qX10_endOfNumber_4 ?_
    refine v_sipush hX ls_160 qX10_endOfNumber_5 ?_
    refine v_icmp_geS hX 31 qX10_endOfNumber_8 rfl (fun q8 => ?_) (fun q8 => ?_)
    · have hx : dgB (btA by' sz (p + m)) = false := dgB_no _ (by have := nI_le' (i := 160) (s := m) (by omega) (by omega) q8; omega)
      refine v_iload_n hX rfl qX10_endOfNumber_31 ?_
      refine v_ireturn hX qX10_endOfNumber_32 (hP _ _ ?_)
      exact ⟨by rw [show nnd by' sz p = p + m from (nnd_is p).uniq ⟨by omega, hall, hx⟩], rfl⟩
    · skip
      refine v_aload_n hX rfl qX10_endOfNumber_11 ?_
      refine v_iload_n hX rfl qX10_endOfNumber_12 ?_
      refine v_callVq hX hR k_X10_116 (hs.kd 11 rfl) (c_byteAt (by exact hs) (by exact hb) (i := p + m) (by omega)) rfl (Nat.le_of_ble_eq_true rfl) rfl (Nat.le_of_ble_eq_true rfl) ⟨Nat.le_of_ble_eq_true rfl, Nat.le_of_ble_eq_true rfl⟩ qX10_endOfNumber_13 ?_
      rintro _ _ ⟨rfl, rfl⟩
      refine v_callSq hX hR k_X10_130 (c_isDigit _) rfl (Nat.le_of_ble_eq_true rfl) rfl (Nat.le_of_ble_eq_true rfl) ⟨Nat.le_of_ble_eq_true rfl, Nat.le_of_ble_eq_true rfl⟩ qX10_endOfNumber_16 ?_
      rintro _ _ ⟨rfl, rfl⟩
      first | refine v_if_eqB hX 31 qX10_endOfNumber_19 rfl (fun q19 => ?_) (fun q19 => ?_) | refine v_if_eq hX 31 qX10_endOfNumber_19 rfl (fun q19 => ?_) (fun q19 => ?_)
      · have hx : dgB (btA by' sz (p + m)) = false := Bool.eq_false_iff.mpr q19
        refine v_iload_n hX rfl qX10_endOfNumber_31 ?_
        refine v_ireturn hX qX10_endOfNumber_32 (hP _ _ ?_)
        exact ⟨by rw [show nnd by' sz p = p + m from (nnd_is p).uniq ⟨by omega, hall, hx⟩], rfl⟩
      · skip
        refine v_iinc hX rfl (ii_nI (p + m)) (Nat.le_of_ble_eq_true rfl) rfl (ls' := [some _, some _, some _, some _]) rfl qX10_endOfNumber_22 ?_
        refine v_iinc hX rfl (by first | exact ii_nI _ | exact ii_1 _) (Nat.le_of_ble_eq_true rfl) rfl (ls' := [some _, some _, some _, some _]) rfl qX10_endOfNumber_25 ?_
        refine v_goto hX 4 qX10_endOfNumber_28 rfl ?_
        have hql : p + m < sz := Nat.lt_of_not_le fun z => by
          rw [dgB_no (by' := by') _ z] at q19
          exact absurd q19 (by decide)
        exact ih _ (by omega) (m + 1) rfl (by omega) (fun k h1 h2 => by
          by_cases e : k = p + m
          · subst e; exact q19
          · exact hall k h1 (by omega))
  exact L4 _ 0 rfl (by omega) (fun k h1 h2 => absurd h2 (by omega))
theorem qX10_isWord_0 : Dq cX10_isWord 0 (.aload_n 1) 1 1 := ⟨by decide +kernel, rfl⟩
theorem qX10_isWord_1 : Dq cX10_isWord 1 (.invokevirtual 181) 3 4 := ⟨by decide +kernel, rfl⟩
theorem qX10_isWord_4 : Dq cX10_isWord 4 (.iload_n 3) 1 5 := ⟨by decide +kernel, rfl⟩
theorem qX10_isWord_5 : Dq cX10_isWord 5 (.iload_n 2) 1 6 := ⟨by decide +kernel, rfl⟩
theorem qX10_isWord_6 : Dq cX10_isWord 6 (.isub) 1 7 := ⟨by decide +kernel, rfl⟩
theorem qX10_isWord_7 : Dq cX10_isWord 7 (.if_icmp .eq 5) 3 10 := ⟨by decide +kernel, rfl⟩
theorem qX10_isWord_10 : Dq cX10_isWord 10 (.iconst 0) 1 11 := ⟨by decide +kernel, rfl⟩
theorem qX10_isWord_11 : Dq cX10_isWord 11 (.ireturn) 1 12 := ⟨by decide +kernel, rfl⟩
theorem qX10_isWord_12 : Dq cX10_isWord 12 (.iconst 0) 1 13 := ⟨by decide +kernel, rfl⟩
theorem qX10_isWord_13 : Dq cX10_isWord 13 (.istore 4) 2 15 := ⟨by decide +kernel, rfl⟩
theorem qX10_isWord_15 : Dq cX10_isWord 15 (.iload 4) 2 17 := ⟨by decide +kernel, rfl⟩
theorem qX10_isWord_17 : Dq cX10_isWord 17 (.aload_n 1) 1 18 := ⟨by decide +kernel, rfl⟩
theorem qX10_isWord_18 : Dq cX10_isWord 18 (.invokevirtual 181) 3 21 := ⟨by decide +kernel, rfl⟩
theorem qX10_isWord_21 : Dq cX10_isWord 21 (.if_icmp .ge 28) 3 24 := ⟨by decide +kernel, rfl⟩
theorem qX10_isWord_24 : Dq cX10_isWord 24 (.aload_n 1) 1 25 := ⟨by decide +kernel, rfl⟩
theorem qX10_isWord_25 : Dq cX10_isWord 25 (.iload 4) 2 27 := ⟨by decide +kernel, rfl⟩
theorem qX10_isWord_27 : Dq cX10_isWord 27 (.invokevirtual 186) 3 30 := ⟨by decide +kernel, rfl⟩
theorem qX10_isWord_30 : Dq cX10_isWord 30 (.aload_n 0) 1 31 := ⟨by decide +kernel, rfl⟩
theorem qX10_isWord_31 : Dq cX10_isWord 31 (.iload_n 2) 1 32 := ⟨by decide +kernel, rfl⟩
theorem qX10_isWord_32 : Dq cX10_isWord 32 (.iload 4) 2 34 := ⟨by decide +kernel, rfl⟩
theorem qX10_isWord_34 : Dq cX10_isWord 34 (.iadd) 1 35 := ⟨by decide +kernel, rfl⟩
theorem qX10_isWord_35 : Dq cX10_isWord 35 (.invokevirtual 116) 3 38 := ⟨by decide +kernel, rfl⟩
theorem qX10_isWord_38 : Dq cX10_isWord 38 (.if_icmp .eq 5) 3 41 := ⟨by decide +kernel, rfl⟩
theorem qX10_isWord_41 : Dq cX10_isWord 41 (.iconst 0) 1 42 := ⟨by decide +kernel, rfl⟩
theorem qX10_isWord_42 : Dq cX10_isWord 42 (.ireturn) 1 43 := ⟨by decide +kernel, rfl⟩
theorem qX10_isWord_43 : Dq cX10_isWord 43 (.iinc 4 1) 3 46 := ⟨by decide +kernel, rfl⟩
theorem qX10_isWord_46 : Dq cX10_isWord 46 (.goto (-31)) 3 49 := ⟨by decide +kernel, rfl⟩
theorem qX10_isWord_49 : Dq cX10_isWord 49 (.iconst 1) 1 50 := ⟨by decide +kernel, rfl⟩
theorem qX10_isWord_50 : Dq cX10_isWord 50 (.ireturn) 1 51 := ⟨by decide +kernel, rfl⟩
set_option maxRecDepth 100000 in
set_option maxHeartbeats 4000000 in
theorem c_isWord {G : Glb} {h : AHp} (hs : ShC h) {by' : Nat → Int32} {sz : Nat} (hb : TpB by' sz h) (hG : HST G) {i : Nat} (hi : i < 13) {p : Nat} (hp : p ≤ sz) : CP G m_X10_isWord 5 0 0 [.ref 11, .ref (1000000 + (2 + i)), .int (nI p), .int (nI (wnd by' sz p))] h (fun r h' => r = some (.int (bz (wordIs by' sz p (sByt.getD i []) = true))) ∧ h = h') := by
  suffices key : ∀ P : Option Value → AHp → Prop, (∀ r h', (r = some (.int (bz (wordIs by' sz p (sByt.getD i []) = true))) ∧ h = h') → P r h') → CP G m_X10_isWord 5 0 0 [.ref 11, .ref (1000000 + (2 + i)), .int (nI p), .int (nI (wnd by' sz p))] h P from key _ (fun _ _ z => z)
  intro P hP
  refine CP.of (by decide +kernel) (Nat.le_of_ble_eq_true rfl) fun X hX hR hnm => ?_
  show V X G 5 0 0 _ 0 [some (.ref 11), some (.ref (1000000 + (2 + i))), some (.int (nI p)), some (.int (nI (wnd by' sz p))), none] [] h
  have hs160 := hb.2.1
  have hlb := sLen_b i hi
  have hl100 := sLen_in i hi
  have hw1 := (wnd_is (by' := by') (sz := sz) p).1
  have hw2 := (wnd_is (by' := by') (sz := sz) p).le ltB_no hp
  refine v_aload_n hX rfl qX10_isWord_0 ?_
  refine v_callStr hX (hG X _ _ _ _ hX) hR hi k_X10_181 (c_strlen hG hi) rfl (Nat.le_of_ble_eq_true rfl) rfl (Nat.le_of_ble_eq_true rfl) ⟨Nat.le_of_ble_eq_true rfl, Nat.le_of_ble_eq_true rfl⟩ qX10_isWord_1 ?_
  rintro _ _ ⟨rfl, rfl⟩
  refine v_iload_n hX rfl qX10_isWord_4 ?_
  refine v_iload_n hX rfl qX10_isWord_5 ?_
  refine v_isub hX qX10_isWord_6 ?_
  refine v_eqI (show _ = nI (wnd by' sz p - p) from pk_sub hw1) ?_
  refine v_icmp_eq hX 12 qX10_isWord_7 rfl (fun q7 => ?_) (fun q7 => ?_)
  · have hlen : wnd by' sz p = p + (sByt.getD i []).length := by have := (nI_eq (by omega) (by omega)).mp q7; omega
    refine v_iconst hX li_0 qX10_isWord_12 ?_
    refine v_istore hX (Nat.le_of_ble_eq_true rfl) rfl (ls' := [some _, some _, some _, some _, some _]) rfl qX10_isWord_13 ?_
    have L15 : ∀ (mz : Nat) (k : Nat), sLen.getD i 0 - k = mz → (k ≤ sLen.getD i 0) → (∀ j, j < k → btA by' sz (p + j) = (sByt.getD i []).getD j 0) → V X G 5 0 0 (QM X G P 0 0) 15 [some (.ref 11), some (.ref (1000000 + (2 + i))), some (.int (nI p)), some (.int (nI (wnd by' sz p))), some (.int (nI k))] [] h := by
      intro mz
      induction mz using Nat.strongRecOn with
      | _ mz ih =>
      intro k hmz hk hall
      refine v_iload hX rfl qX10_isWord_15 ?_
      refine v_aload_n hX rfl qX10_isWord_17 ?_
      refine v_callStr hX (hG X _ _ _ _ hX) hR hi k_X10_181 (c_strlen hG hi) rfl (Nat.le_of_ble_eq_true rfl) rfl (Nat.le_of_ble_eq_true rfl) ⟨Nat.le_of_ble_eq_true rfl, Nat.le_of_ble_eq_true rfl⟩ qX10_isWord_18 ?_
      rintro _ _ ⟨rfl, rfl⟩
      refine v_icmp_geS hX 49 qX10_isWord_21 rfl (fun q21 => ?_) (fun q21 => ?_)
      · have e1 : k = sLen.getD i 0 := Nat.le_antisymm hk (nI_le' (by omega) (by omega) q21)
        refine v_iconst hX li_1 qX10_isWord_49 ?_
        refine v_zreturn hX (by first | exact Or.inl rfl | exact Or.inr rfl | exact bz01 _) qX10_isWord_50 (hP _ _ ?_)
        exact ⟨rz (bz_t (by
          unfold wordIs
          rw [Bool.and_eq_true, decide_eq_true_eq, matchW_get]
          exact ⟨hlen, fun j hj => hall j (by omega)⟩)), rfl⟩
      · have hl := nI_lt' (i := k) (s := sLen.getD i 0) (by omega) (by omega) q21
        refine v_aload_n hX rfl qX10_isWord_24 ?_
        refine v_iload hX rfl qX10_isWord_25 ?_
        refine v_callStr hX (hG X _ _ _ _ hX) hR hi k_X10_186 (c_charAt hG hi hl) rfl (Nat.le_of_ble_eq_true rfl) rfl (Nat.le_of_ble_eq_true rfl) ⟨Nat.le_of_ble_eq_true rfl, Nat.le_of_ble_eq_true rfl⟩ qX10_isWord_27 ?_
        rintro _ _ ⟨rfl, rfl⟩
        refine v_aload_n hX rfl qX10_isWord_30 ?_
        refine v_iload_n hX rfl qX10_isWord_31 ?_
        refine v_iload hX rfl qX10_isWord_32 ?_
        refine v_iadd hX qX10_isWord_34 ?_
        refine v_eqI (nI_add p k) ?_
        refine v_callVq hX hR k_X10_116 (hs.kd 11 rfl) (c_byteAt (by exact hs) (by exact hb) (i := p + k) (by omega)) rfl (Nat.le_of_ble_eq_true rfl) rfl (Nat.le_of_ble_eq_true rfl) ⟨Nat.le_of_ble_eq_true rfl, Nat.le_of_ble_eq_true rfl⟩ qX10_isWord_35 ?_
        rintro _ _ ⟨rfl, rfl⟩
        refine v_icmp_eq hX 43 qX10_isWord_38 rfl (fun q38 => ?_) (fun q38 => ?_)
        · skip
          refine v_iinc hX rfl (by first | exact ii_nI _ | exact ii_1 _) (Nat.le_of_ble_eq_true rfl) rfl (ls' := [some _, some _, some _, some _, some _]) rfl qX10_isWord_43 ?_
          refine v_goto hX 15 qX10_isWord_46 rfl ?_
          exact ih _ (by omega) (k + 1) rfl (by omega) (fun j hj => by
            by_cases e : j = k
            · subst e; exact q38.symm
            · exact hall j (by omega))
        · skip
          refine v_iconst hX li_0 qX10_isWord_41 ?_
          refine v_zreturn hX (by first | exact Or.inl rfl | exact Or.inr rfl | exact bz01 _) qX10_isWord_42 (hP _ _ ?_)
          exact ⟨rz (bz_f (fun z => by
            unfold wordIs at z
            rw [Bool.and_eq_true, matchW_get] at z
            exact q38 (z.2 k (by omega)).symm)), rfl⟩
    exact L15 _ 0 rfl (by omega) (fun j hj => absurd hj (by omega))
  · have hlen : ¬ wnd by' sz p = p + (sByt.getD i []).length := fun z => q7 (congrArg nI (by omega))
    refine v_iconst hX li_0 qX10_isWord_10 ?_
    refine v_zreturn hX (by first | exact Or.inl rfl | exact Or.inr rfl | exact bz01 _) qX10_isWord_11 (hP _ _ ?_)
    exact ⟨rz (bz_f (fun z => by unfold wordIs at z; rw [Bool.and_eq_true, decide_eq_true_eq] at z; exact hlen z.1)), rfl⟩
theorem qX10_nameOf_0 : Dq cX10_nameOf 0 (.aload_n 0) 1 1 := ⟨by decide +kernel, rfl⟩
theorem qX10_nameOf_1 : Dq cX10_nameOf 1 (.ldc 153) 2 3 := ⟨by decide +kernel, rfl⟩
theorem qX10_nameOf_3 : Dq cX10_nameOf 3 (.iload_n 1) 1 4 := ⟨by decide +kernel, rfl⟩
theorem qX10_nameOf_4 : Dq cX10_nameOf 4 (.iload_n 2) 1 5 := ⟨by decide +kernel, rfl⟩
theorem qX10_nameOf_5 : Dq cX10_nameOf 5 (.invokevirtual 155) 3 8 := ⟨by decide +kernel, rfl⟩
theorem qX10_nameOf_8 : Dq cX10_nameOf 8 (.ifCond .eq 5) 3 11 := ⟨by decide +kernel, rfl⟩
theorem qX10_nameOf_11 : Dq cX10_nameOf 11 (.iconst (-1)) 1 12 := ⟨by decide +kernel, rfl⟩
theorem qX10_nameOf_12 : Dq cX10_nameOf 12 (.ireturn) 1 13 := ⟨by decide +kernel, rfl⟩
theorem qX10_nameOf_13 : Dq cX10_nameOf 13 (.aload_n 0) 1 14 := ⟨by decide +kernel, rfl⟩
theorem qX10_nameOf_14 : Dq cX10_nameOf 14 (.ldc 159) 2 16 := ⟨by decide +kernel, rfl⟩
theorem qX10_nameOf_16 : Dq cX10_nameOf 16 (.iload_n 1) 1 17 := ⟨by decide +kernel, rfl⟩
theorem qX10_nameOf_17 : Dq cX10_nameOf 17 (.iload_n 2) 1 18 := ⟨by decide +kernel, rfl⟩
theorem qX10_nameOf_18 : Dq cX10_nameOf 18 (.invokevirtual 155) 3 21 := ⟨by decide +kernel, rfl⟩
theorem qX10_nameOf_21 : Dq cX10_nameOf 21 (.ifCond .eq 6) 3 24 := ⟨by decide +kernel, rfl⟩
theorem qX10_nameOf_24 : Dq cX10_nameOf 24 (.bipush (-2)) 2 26 := ⟨by decide +kernel, rfl⟩
theorem qX10_nameOf_26 : Dq cX10_nameOf 26 (.ireturn) 1 27 := ⟨by decide +kernel, rfl⟩
theorem qX10_nameOf_27 : Dq cX10_nameOf 27 (.aload_n 0) 1 28 := ⟨by decide +kernel, rfl⟩
theorem qX10_nameOf_28 : Dq cX10_nameOf 28 (.ldc 161) 2 30 := ⟨by decide +kernel, rfl⟩
theorem qX10_nameOf_30 : Dq cX10_nameOf 30 (.iload_n 1) 1 31 := ⟨by decide +kernel, rfl⟩
theorem qX10_nameOf_31 : Dq cX10_nameOf 31 (.iload_n 2) 1 32 := ⟨by decide +kernel, rfl⟩
theorem qX10_nameOf_32 : Dq cX10_nameOf 32 (.invokevirtual 155) 3 35 := ⟨by decide +kernel, rfl⟩
theorem qX10_nameOf_35 : Dq cX10_nameOf 35 (.ifCond .eq 6) 3 38 := ⟨by decide +kernel, rfl⟩
theorem qX10_nameOf_38 : Dq cX10_nameOf 38 (.bipush (-3)) 2 40 := ⟨by decide +kernel, rfl⟩
theorem qX10_nameOf_40 : Dq cX10_nameOf 40 (.ireturn) 1 41 := ⟨by decide +kernel, rfl⟩
theorem qX10_nameOf_41 : Dq cX10_nameOf 41 (.aload_n 0) 1 42 := ⟨by decide +kernel, rfl⟩
theorem qX10_nameOf_42 : Dq cX10_nameOf 42 (.ldc 163) 2 44 := ⟨by decide +kernel, rfl⟩
theorem qX10_nameOf_44 : Dq cX10_nameOf 44 (.iload_n 1) 1 45 := ⟨by decide +kernel, rfl⟩
theorem qX10_nameOf_45 : Dq cX10_nameOf 45 (.iload_n 2) 1 46 := ⟨by decide +kernel, rfl⟩
theorem qX10_nameOf_46 : Dq cX10_nameOf 46 (.invokevirtual 155) 3 49 := ⟨by decide +kernel, rfl⟩
theorem qX10_nameOf_49 : Dq cX10_nameOf 49 (.ifCond .eq 6) 3 52 := ⟨by decide +kernel, rfl⟩
theorem qX10_nameOf_52 : Dq cX10_nameOf 52 (.bipush (-4)) 2 54 := ⟨by decide +kernel, rfl⟩
theorem qX10_nameOf_54 : Dq cX10_nameOf 54 (.ireturn) 1 55 := ⟨by decide +kernel, rfl⟩
theorem qX10_nameOf_55 : Dq cX10_nameOf 55 (.aload_n 0) 1 56 := ⟨by decide +kernel, rfl⟩
theorem qX10_nameOf_56 : Dq cX10_nameOf 56 (.ldc 165) 2 58 := ⟨by decide +kernel, rfl⟩
theorem qX10_nameOf_58 : Dq cX10_nameOf 58 (.iload_n 1) 1 59 := ⟨by decide +kernel, rfl⟩
theorem qX10_nameOf_59 : Dq cX10_nameOf 59 (.iload_n 2) 1 60 := ⟨by decide +kernel, rfl⟩
theorem qX10_nameOf_60 : Dq cX10_nameOf 60 (.invokevirtual 155) 3 63 := ⟨by decide +kernel, rfl⟩
theorem qX10_nameOf_63 : Dq cX10_nameOf 63 (.ifCond .eq 6) 3 66 := ⟨by decide +kernel, rfl⟩
theorem qX10_nameOf_66 : Dq cX10_nameOf 66 (.bipush (-5)) 2 68 := ⟨by decide +kernel, rfl⟩
theorem qX10_nameOf_68 : Dq cX10_nameOf 68 (.ireturn) 1 69 := ⟨by decide +kernel, rfl⟩
theorem qX10_nameOf_69 : Dq cX10_nameOf 69 (.aload_n 0) 1 70 := ⟨by decide +kernel, rfl⟩
theorem qX10_nameOf_70 : Dq cX10_nameOf 70 (.ldc 167) 2 72 := ⟨by decide +kernel, rfl⟩
theorem qX10_nameOf_72 : Dq cX10_nameOf 72 (.iload_n 1) 1 73 := ⟨by decide +kernel, rfl⟩
theorem qX10_nameOf_73 : Dq cX10_nameOf 73 (.iload_n 2) 1 74 := ⟨by decide +kernel, rfl⟩
theorem qX10_nameOf_74 : Dq cX10_nameOf 74 (.invokevirtual 155) 3 77 := ⟨by decide +kernel, rfl⟩
theorem qX10_nameOf_77 : Dq cX10_nameOf 77 (.ifCond .eq 8) 3 80 := ⟨by decide +kernel, rfl⟩
theorem qX10_nameOf_80 : Dq cX10_nameOf 80 (.bipush (-6)) 2 82 := ⟨by decide +kernel, rfl⟩
theorem qX10_nameOf_82 : Dq cX10_nameOf 82 (.goto 4) 3 85 := ⟨by decide +kernel, rfl⟩
theorem qX10_nameOf_85 : Dq cX10_nameOf 85 (.iconst 0) 1 86 := ⟨by decide +kernel, rfl⟩
theorem qX10_nameOf_86 : Dq cX10_nameOf 86 (.ireturn) 1 87 := ⟨by decide +kernel, rfl⟩
set_option maxRecDepth 100000 in
set_option maxHeartbeats 4000000 in
theorem c_nameOf {G : Glb} {h : AHp} (hs : ShC h) {by' : Nat → Int32} {sz : Nat} (hb : TpB by' sz h) (hG : HST G) {p : Nat} (hp : p ≤ sz) : CP G m_X10_nameOf 6 0 0 [.ref 11, .int (nI p), .int (nI (wnd by' sz p))] h (fun r h' => r = some (.int (nameK by' sz p)) ∧ h = h') := by
  suffices key : ∀ P : Option Value → AHp → Prop, (∀ r h', (r = some (.int (nameK by' sz p)) ∧ h = h') → P r h') → CP G m_X10_nameOf 6 0 0 [.ref 11, .int (nI p), .int (nI (wnd by' sz p))] h P from key _ (fun _ _ z => z)
  intro P hP
  refine CP.of (by decide +kernel) (Nat.le_of_ble_eq_true rfl) fun X hX hR hnm => ?_
  show V X G 3 0 0 _ 0 [some (.ref 11), some (.int (nI p)), some (.int (nI (wnd by' sz p)))] [] h
  refine v_aload_n hX rfl qX10_nameOf_0 ?_
  refine v_ldcS hX (hG X _ _ _ _ hX) 0 rfl qX10_nameOf_1 ?_
  refine v_iload_n hX rfl qX10_nameOf_3 ?_
  refine v_iload_n hX rfl qX10_nameOf_4 ?_
  refine v_callVq hX hR k_X10_155 (hs.kd 11 rfl) (c_isWord (by exact hs) (by exact hb) (by exact hG) (i := 0) (by omega) (by exact hp)) rfl (Nat.le_of_ble_eq_true rfl) rfl (Nat.le_of_ble_eq_true rfl) ⟨Nat.le_of_ble_eq_true rfl, Nat.le_of_ble_eq_true rfl⟩ qX10_nameOf_5 ?_
  rintro _ _ ⟨rfl, rfl⟩
  first | refine v_if_eqB hX 13 qX10_nameOf_8 rfl (fun q8 => ?_) (fun q8 => ?_) | refine v_if_eq hX 13 qX10_nameOf_8 rfl (fun q8 => ?_) (fun q8 => ?_)
  · skip
    refine v_aload_n hX rfl qX10_nameOf_13 ?_
    refine v_ldcS hX (hG X _ _ _ _ hX) 1 rfl qX10_nameOf_14 ?_
    refine v_iload_n hX rfl qX10_nameOf_16 ?_
    refine v_iload_n hX rfl qX10_nameOf_17 ?_
    refine v_callVq hX hR k_X10_155 (hs.kd 11 rfl) (c_isWord (by exact hs) (by exact hb) (by exact hG) (i := 1) (by omega) (by exact hp)) rfl (Nat.le_of_ble_eq_true rfl) rfl (Nat.le_of_ble_eq_true rfl) ⟨Nat.le_of_ble_eq_true rfl, Nat.le_of_ble_eq_true rfl⟩ qX10_nameOf_18 ?_
    rintro _ _ ⟨rfl, rfl⟩
    first | refine v_if_eqB hX 27 qX10_nameOf_21 rfl (fun q21 => ?_) (fun q21 => ?_) | refine v_if_eq hX 27 qX10_nameOf_21 rfl (fun q21 => ?_) (fun q21 => ?_)
    · skip
      refine v_aload_n hX rfl qX10_nameOf_27 ?_
      refine v_ldcS hX (hG X _ _ _ _ hX) 2 rfl qX10_nameOf_28 ?_
      refine v_iload_n hX rfl qX10_nameOf_30 ?_
      refine v_iload_n hX rfl qX10_nameOf_31 ?_
      refine v_callVq hX hR k_X10_155 (hs.kd 11 rfl) (c_isWord (by exact hs) (by exact hb) (by exact hG) (i := 2) (by omega) (by exact hp)) rfl (Nat.le_of_ble_eq_true rfl) rfl (Nat.le_of_ble_eq_true rfl) ⟨Nat.le_of_ble_eq_true rfl, Nat.le_of_ble_eq_true rfl⟩ qX10_nameOf_32 ?_
      rintro _ _ ⟨rfl, rfl⟩
      first | refine v_if_eqB hX 41 qX10_nameOf_35 rfl (fun q35 => ?_) (fun q35 => ?_) | refine v_if_eq hX 41 qX10_nameOf_35 rfl (fun q35 => ?_) (fun q35 => ?_)
      · skip
        refine v_aload_n hX rfl qX10_nameOf_41 ?_
        refine v_ldcS hX (hG X _ _ _ _ hX) 3 rfl qX10_nameOf_42 ?_
        refine v_iload_n hX rfl qX10_nameOf_44 ?_
        refine v_iload_n hX rfl qX10_nameOf_45 ?_
        refine v_callVq hX hR k_X10_155 (hs.kd 11 rfl) (c_isWord (by exact hs) (by exact hb) (by exact hG) (i := 3) (by omega) (by exact hp)) rfl (Nat.le_of_ble_eq_true rfl) rfl (Nat.le_of_ble_eq_true rfl) ⟨Nat.le_of_ble_eq_true rfl, Nat.le_of_ble_eq_true rfl⟩ qX10_nameOf_46 ?_
        rintro _ _ ⟨rfl, rfl⟩
        first | refine v_if_eqB hX 55 qX10_nameOf_49 rfl (fun q49 => ?_) (fun q49 => ?_) | refine v_if_eq hX 55 qX10_nameOf_49 rfl (fun q49 => ?_) (fun q49 => ?_)
        · skip
          refine v_aload_n hX rfl qX10_nameOf_55 ?_
          refine v_ldcS hX (hG X _ _ _ _ hX) 4 rfl qX10_nameOf_56 ?_
          refine v_iload_n hX rfl qX10_nameOf_58 ?_
          refine v_iload_n hX rfl qX10_nameOf_59 ?_
          refine v_callVq hX hR k_X10_155 (hs.kd 11 rfl) (c_isWord (by exact hs) (by exact hb) (by exact hG) (i := 4) (by omega) (by exact hp)) rfl (Nat.le_of_ble_eq_true rfl) rfl (Nat.le_of_ble_eq_true rfl) ⟨Nat.le_of_ble_eq_true rfl, Nat.le_of_ble_eq_true rfl⟩ qX10_nameOf_60 ?_
          rintro _ _ ⟨rfl, rfl⟩
          first | refine v_if_eqB hX 69 qX10_nameOf_63 rfl (fun q63 => ?_) (fun q63 => ?_) | refine v_if_eq hX 69 qX10_nameOf_63 rfl (fun q63 => ?_) (fun q63 => ?_)
          · skip
            refine v_aload_n hX rfl qX10_nameOf_69 ?_
            refine v_ldcS hX (hG X _ _ _ _ hX) 5 rfl qX10_nameOf_70 ?_
            refine v_iload_n hX rfl qX10_nameOf_72 ?_
            refine v_iload_n hX rfl qX10_nameOf_73 ?_
            refine v_callVq hX hR k_X10_155 (hs.kd 11 rfl) (c_isWord (by exact hs) (by exact hb) (by exact hG) (i := 5) (by omega) (by exact hp)) rfl (Nat.le_of_ble_eq_true rfl) rfl (Nat.le_of_ble_eq_true rfl) ⟨Nat.le_of_ble_eq_true rfl, Nat.le_of_ble_eq_true rfl⟩ qX10_nameOf_74 ?_
            rintro _ _ ⟨rfl, rfl⟩
            first | refine v_if_eqB hX 85 qX10_nameOf_77 rfl (fun q77 => ?_) (fun q77 => ?_) | refine v_if_eq hX 85 qX10_nameOf_77 rfl (fun q77 => ?_) (fun q77 => ?_)
            · skip
              refine v_iconst hX li_0 qX10_nameOf_85 ?_
              refine v_ireturn hX qX10_nameOf_86 (hP _ _ ?_)
              first | exact ⟨by unfold nameK; rw [if_neg (show ¬ wordIs by' sz p w_y = true from q8), if_neg (show ¬ wordIs by' sz p w_x = true from q21), if_neg (show ¬ wordIs by' sz p w_depth = true from q35), if_neg (show ¬ wordIs by' sz p w_trod = true from q49), if_neg (show ¬ wordIs by' sz p w_hour = true from q63), if_pos (show wordIs by' sz p w_sun = true from q77)], rfl⟩ | exact ⟨by unfold nameK; rw [if_neg (show ¬ wordIs by' sz p w_y = true from q8), if_neg (show ¬ wordIs by' sz p w_x = true from q21), if_neg (show ¬ wordIs by' sz p w_depth = true from q35), if_neg (show ¬ wordIs by' sz p w_trod = true from q49), if_neg (show ¬ wordIs by' sz p w_hour = true from q63), if_neg (show ¬ wordIs by' sz p w_sun = true from q77)], rfl⟩
            · skip
              refine v_bipush hX lb_n6 qX10_nameOf_80 ?_
              refine v_goto hX 86 qX10_nameOf_82 rfl ?_
              refine v_ireturn hX qX10_nameOf_86 (hP _ _ ?_)
              first | exact ⟨by unfold nameK; rw [if_neg (show ¬ wordIs by' sz p w_y = true from q8), if_neg (show ¬ wordIs by' sz p w_x = true from q21), if_neg (show ¬ wordIs by' sz p w_depth = true from q35), if_neg (show ¬ wordIs by' sz p w_trod = true from q49), if_neg (show ¬ wordIs by' sz p w_hour = true from q63), if_pos (show wordIs by' sz p w_sun = true from q77)], rfl⟩ | exact ⟨by unfold nameK; rw [if_neg (show ¬ wordIs by' sz p w_y = true from q8), if_neg (show ¬ wordIs by' sz p w_x = true from q21), if_neg (show ¬ wordIs by' sz p w_depth = true from q35), if_neg (show ¬ wordIs by' sz p w_trod = true from q49), if_neg (show ¬ wordIs by' sz p w_hour = true from q63), if_neg (show ¬ wordIs by' sz p w_sun = true from q77)], rfl⟩
          · skip
            refine v_bipush hX lb_n5 qX10_nameOf_66 ?_
            refine v_ireturn hX qX10_nameOf_68 (hP _ _ ?_)
            exact ⟨by unfold nameK; rw [if_neg (show ¬ wordIs by' sz p w_y = true from q8), if_neg (show ¬ wordIs by' sz p w_x = true from q21), if_neg (show ¬ wordIs by' sz p w_depth = true from q35), if_neg (show ¬ wordIs by' sz p w_trod = true from q49), if_pos (show wordIs by' sz p w_hour = true from q63)], rfl⟩
        · skip
          refine v_bipush hX lb_n4 qX10_nameOf_52 ?_
          refine v_ireturn hX qX10_nameOf_54 (hP _ _ ?_)
          exact ⟨by unfold nameK; rw [if_neg (show ¬ wordIs by' sz p w_y = true from q8), if_neg (show ¬ wordIs by' sz p w_x = true from q21), if_neg (show ¬ wordIs by' sz p w_depth = true from q35), if_pos (show wordIs by' sz p w_trod = true from q49)], rfl⟩
      · skip
        refine v_bipush hX lb_n3 qX10_nameOf_38 ?_
        refine v_ireturn hX qX10_nameOf_40 (hP _ _ ?_)
        exact ⟨by unfold nameK; rw [if_neg (show ¬ wordIs by' sz p w_y = true from q8), if_neg (show ¬ wordIs by' sz p w_x = true from q21), if_pos (show wordIs by' sz p w_depth = true from q35)], rfl⟩
    · skip
      refine v_bipush hX lb_n2 qX10_nameOf_24 ?_
      refine v_ireturn hX qX10_nameOf_26 (hP _ _ ?_)
      exact ⟨by unfold nameK; rw [if_neg (show ¬ wordIs by' sz p w_y = true from q8), if_pos (show wordIs by' sz p w_x = true from q21)], rfl⟩
  · skip
    refine v_iconst hX li_n1 qX10_nameOf_11 ?_
    refine v_ireturn hX qX10_nameOf_12 (hP _ _ ?_)
    exact ⟨by unfold nameK; rw [if_pos (show wordIs by' sz p w_y = true from q8)], rfl⟩
theorem qX10_keyOf_0 : Dq cX10_keyOf 0 (.aload_n 0) 1 1 := ⟨by decide +kernel, rfl⟩
theorem qX10_keyOf_1 : Dq cX10_keyOf 1 (.ldc 169) 2 3 := ⟨by decide +kernel, rfl⟩
theorem qX10_keyOf_3 : Dq cX10_keyOf 3 (.iload_n 1) 1 4 := ⟨by decide +kernel, rfl⟩
theorem qX10_keyOf_4 : Dq cX10_keyOf 4 (.iload_n 2) 1 5 := ⟨by decide +kernel, rfl⟩
theorem qX10_keyOf_5 : Dq cX10_keyOf 5 (.invokevirtual 155) 3 8 := ⟨by decide +kernel, rfl⟩
theorem qX10_keyOf_8 : Dq cX10_keyOf 8 (.ifCond .eq 5) 3 11 := ⟨by decide +kernel, rfl⟩
theorem qX10_keyOf_11 : Dq cX10_keyOf 11 (.iconst 4) 1 12 := ⟨by decide +kernel, rfl⟩
theorem qX10_keyOf_12 : Dq cX10_keyOf 12 (.ireturn) 1 13 := ⟨by decide +kernel, rfl⟩
theorem qX10_keyOf_13 : Dq cX10_keyOf 13 (.aload_n 0) 1 14 := ⟨by decide +kernel, rfl⟩
theorem qX10_keyOf_14 : Dq cX10_keyOf 14 (.ldc 171) 2 16 := ⟨by decide +kernel, rfl⟩
theorem qX10_keyOf_16 : Dq cX10_keyOf 16 (.iload_n 1) 1 17 := ⟨by decide +kernel, rfl⟩
theorem qX10_keyOf_17 : Dq cX10_keyOf 17 (.iload_n 2) 1 18 := ⟨by decide +kernel, rfl⟩
theorem qX10_keyOf_18 : Dq cX10_keyOf 18 (.invokevirtual 155) 3 21 := ⟨by decide +kernel, rfl⟩
theorem qX10_keyOf_21 : Dq cX10_keyOf 21 (.ifCond .eq 5) 3 24 := ⟨by decide +kernel, rfl⟩
theorem qX10_keyOf_24 : Dq cX10_keyOf 24 (.iconst 5) 1 25 := ⟨by decide +kernel, rfl⟩
theorem qX10_keyOf_25 : Dq cX10_keyOf 25 (.ireturn) 1 26 := ⟨by decide +kernel, rfl⟩
theorem qX10_keyOf_26 : Dq cX10_keyOf 26 (.aload_n 0) 1 27 := ⟨by decide +kernel, rfl⟩
theorem qX10_keyOf_27 : Dq cX10_keyOf 27 (.ldc 173) 2 29 := ⟨by decide +kernel, rfl⟩
theorem qX10_keyOf_29 : Dq cX10_keyOf 29 (.iload_n 1) 1 30 := ⟨by decide +kernel, rfl⟩
theorem qX10_keyOf_30 : Dq cX10_keyOf 30 (.iload_n 2) 1 31 := ⟨by decide +kernel, rfl⟩
theorem qX10_keyOf_31 : Dq cX10_keyOf 31 (.invokevirtual 155) 3 34 := ⟨by decide +kernel, rfl⟩
theorem qX10_keyOf_34 : Dq cX10_keyOf 34 (.ifCond .eq 6) 3 37 := ⟨by decide +kernel, rfl⟩
theorem qX10_keyOf_37 : Dq cX10_keyOf 37 (.bipush 6) 2 39 := ⟨by decide +kernel, rfl⟩
theorem qX10_keyOf_39 : Dq cX10_keyOf 39 (.ireturn) 1 40 := ⟨by decide +kernel, rfl⟩
theorem qX10_keyOf_40 : Dq cX10_keyOf 40 (.aload_n 0) 1 41 := ⟨by decide +kernel, rfl⟩
theorem qX10_keyOf_41 : Dq cX10_keyOf 41 (.ldc 175) 2 43 := ⟨by decide +kernel, rfl⟩
theorem qX10_keyOf_43 : Dq cX10_keyOf 43 (.iload_n 1) 1 44 := ⟨by decide +kernel, rfl⟩
theorem qX10_keyOf_44 : Dq cX10_keyOf 44 (.iload_n 2) 1 45 := ⟨by decide +kernel, rfl⟩
theorem qX10_keyOf_45 : Dq cX10_keyOf 45 (.invokevirtual 155) 3 48 := ⟨by decide +kernel, rfl⟩
theorem qX10_keyOf_48 : Dq cX10_keyOf 48 (.ifCond .eq 6) 3 51 := ⟨by decide +kernel, rfl⟩
theorem qX10_keyOf_51 : Dq cX10_keyOf 51 (.bipush 7) 2 53 := ⟨by decide +kernel, rfl⟩
theorem qX10_keyOf_53 : Dq cX10_keyOf 53 (.ireturn) 1 54 := ⟨by decide +kernel, rfl⟩
theorem qX10_keyOf_54 : Dq cX10_keyOf 54 (.aload_n 0) 1 55 := ⟨by decide +kernel, rfl⟩
theorem qX10_keyOf_55 : Dq cX10_keyOf 55 (.ldc 177) 2 57 := ⟨by decide +kernel, rfl⟩
theorem qX10_keyOf_57 : Dq cX10_keyOf 57 (.iload_n 1) 1 58 := ⟨by decide +kernel, rfl⟩
theorem qX10_keyOf_58 : Dq cX10_keyOf 58 (.iload_n 2) 1 59 := ⟨by decide +kernel, rfl⟩
theorem qX10_keyOf_59 : Dq cX10_keyOf 59 (.invokevirtual 155) 3 62 := ⟨by decide +kernel, rfl⟩
theorem qX10_keyOf_62 : Dq cX10_keyOf 62 (.ifCond .eq 6) 3 65 := ⟨by decide +kernel, rfl⟩
theorem qX10_keyOf_65 : Dq cX10_keyOf 65 (.bipush 8) 2 67 := ⟨by decide +kernel, rfl⟩
theorem qX10_keyOf_67 : Dq cX10_keyOf 67 (.ireturn) 1 68 := ⟨by decide +kernel, rfl⟩
theorem qX10_keyOf_68 : Dq cX10_keyOf 68 (.aload_n 0) 1 69 := ⟨by decide +kernel, rfl⟩
theorem qX10_keyOf_69 : Dq cX10_keyOf 69 (.ldc 179) 2 71 := ⟨by decide +kernel, rfl⟩
theorem qX10_keyOf_71 : Dq cX10_keyOf 71 (.iload_n 1) 1 72 := ⟨by decide +kernel, rfl⟩
theorem qX10_keyOf_72 : Dq cX10_keyOf 72 (.iload_n 2) 1 73 := ⟨by decide +kernel, rfl⟩
theorem qX10_keyOf_73 : Dq cX10_keyOf 73 (.invokevirtual 155) 3 76 := ⟨by decide +kernel, rfl⟩
theorem qX10_keyOf_76 : Dq cX10_keyOf 76 (.ifCond .eq 8) 3 79 := ⟨by decide +kernel, rfl⟩
theorem qX10_keyOf_79 : Dq cX10_keyOf 79 (.bipush 9) 2 81 := ⟨by decide +kernel, rfl⟩
theorem qX10_keyOf_81 : Dq cX10_keyOf 81 (.goto 4) 3 84 := ⟨by decide +kernel, rfl⟩
theorem qX10_keyOf_84 : Dq cX10_keyOf 84 (.iconst 1) 1 85 := ⟨by decide +kernel, rfl⟩
theorem qX10_keyOf_85 : Dq cX10_keyOf 85 (.ireturn) 1 86 := ⟨by decide +kernel, rfl⟩
set_option maxRecDepth 100000 in
set_option maxHeartbeats 4000000 in
theorem c_keyOf {G : Glb} {h : AHp} (hs : ShC h) {by' : Nat → Int32} {sz : Nat} (hb : TpB by' sz h) (hG : HST G) {p : Nat} (hp : p ≤ sz) : CP G m_X10_keyOf 6 0 0 [.ref 11, .int (nI p), .int (nI (wnd by' sz p))] h (fun r h' => r = some (.int (keyK by' sz p)) ∧ h = h') := by
  suffices key : ∀ P : Option Value → AHp → Prop, (∀ r h', (r = some (.int (keyK by' sz p)) ∧ h = h') → P r h') → CP G m_X10_keyOf 6 0 0 [.ref 11, .int (nI p), .int (nI (wnd by' sz p))] h P from key _ (fun _ _ z => z)
  intro P hP
  refine CP.of (by decide +kernel) (Nat.le_of_ble_eq_true rfl) fun X hX hR hnm => ?_
  show V X G 3 0 0 _ 0 [some (.ref 11), some (.int (nI p)), some (.int (nI (wnd by' sz p)))] [] h
  refine v_aload_n hX rfl qX10_keyOf_0 ?_
  refine v_ldcS hX (hG X _ _ _ _ hX) 6 rfl qX10_keyOf_1 ?_
  refine v_iload_n hX rfl qX10_keyOf_3 ?_
  refine v_iload_n hX rfl qX10_keyOf_4 ?_
  refine v_callVq hX hR k_X10_155 (hs.kd 11 rfl) (c_isWord (by exact hs) (by exact hb) (by exact hG) (i := 6) (by omega) (by exact hp)) rfl (Nat.le_of_ble_eq_true rfl) rfl (Nat.le_of_ble_eq_true rfl) ⟨Nat.le_of_ble_eq_true rfl, Nat.le_of_ble_eq_true rfl⟩ qX10_keyOf_5 ?_
  rintro _ _ ⟨rfl, rfl⟩
  first | refine v_if_eqB hX 13 qX10_keyOf_8 rfl (fun q8 => ?_) (fun q8 => ?_) | refine v_if_eq hX 13 qX10_keyOf_8 rfl (fun q8 => ?_) (fun q8 => ?_)
  · skip
    refine v_aload_n hX rfl qX10_keyOf_13 ?_
    refine v_ldcS hX (hG X _ _ _ _ hX) 7 rfl qX10_keyOf_14 ?_
    refine v_iload_n hX rfl qX10_keyOf_16 ?_
    refine v_iload_n hX rfl qX10_keyOf_17 ?_
    refine v_callVq hX hR k_X10_155 (hs.kd 11 rfl) (c_isWord (by exact hs) (by exact hb) (by exact hG) (i := 7) (by omega) (by exact hp)) rfl (Nat.le_of_ble_eq_true rfl) rfl (Nat.le_of_ble_eq_true rfl) ⟨Nat.le_of_ble_eq_true rfl, Nat.le_of_ble_eq_true rfl⟩ qX10_keyOf_18 ?_
    rintro _ _ ⟨rfl, rfl⟩
    first | refine v_if_eqB hX 26 qX10_keyOf_21 rfl (fun q21 => ?_) (fun q21 => ?_) | refine v_if_eq hX 26 qX10_keyOf_21 rfl (fun q21 => ?_) (fun q21 => ?_)
    · skip
      refine v_aload_n hX rfl qX10_keyOf_26 ?_
      refine v_ldcS hX (hG X _ _ _ _ hX) 8 rfl qX10_keyOf_27 ?_
      refine v_iload_n hX rfl qX10_keyOf_29 ?_
      refine v_iload_n hX rfl qX10_keyOf_30 ?_
      refine v_callVq hX hR k_X10_155 (hs.kd 11 rfl) (c_isWord (by exact hs) (by exact hb) (by exact hG) (i := 8) (by omega) (by exact hp)) rfl (Nat.le_of_ble_eq_true rfl) rfl (Nat.le_of_ble_eq_true rfl) ⟨Nat.le_of_ble_eq_true rfl, Nat.le_of_ble_eq_true rfl⟩ qX10_keyOf_31 ?_
      rintro _ _ ⟨rfl, rfl⟩
      first | refine v_if_eqB hX 40 qX10_keyOf_34 rfl (fun q34 => ?_) (fun q34 => ?_) | refine v_if_eq hX 40 qX10_keyOf_34 rfl (fun q34 => ?_) (fun q34 => ?_)
      · skip
        refine v_aload_n hX rfl qX10_keyOf_40 ?_
        refine v_ldcS hX (hG X _ _ _ _ hX) 9 rfl qX10_keyOf_41 ?_
        refine v_iload_n hX rfl qX10_keyOf_43 ?_
        refine v_iload_n hX rfl qX10_keyOf_44 ?_
        refine v_callVq hX hR k_X10_155 (hs.kd 11 rfl) (c_isWord (by exact hs) (by exact hb) (by exact hG) (i := 9) (by omega) (by exact hp)) rfl (Nat.le_of_ble_eq_true rfl) rfl (Nat.le_of_ble_eq_true rfl) ⟨Nat.le_of_ble_eq_true rfl, Nat.le_of_ble_eq_true rfl⟩ qX10_keyOf_45 ?_
        rintro _ _ ⟨rfl, rfl⟩
        first | refine v_if_eqB hX 54 qX10_keyOf_48 rfl (fun q48 => ?_) (fun q48 => ?_) | refine v_if_eq hX 54 qX10_keyOf_48 rfl (fun q48 => ?_) (fun q48 => ?_)
        · skip
          refine v_aload_n hX rfl qX10_keyOf_54 ?_
          refine v_ldcS hX (hG X _ _ _ _ hX) 10 rfl qX10_keyOf_55 ?_
          refine v_iload_n hX rfl qX10_keyOf_57 ?_
          refine v_iload_n hX rfl qX10_keyOf_58 ?_
          refine v_callVq hX hR k_X10_155 (hs.kd 11 rfl) (c_isWord (by exact hs) (by exact hb) (by exact hG) (i := 10) (by omega) (by exact hp)) rfl (Nat.le_of_ble_eq_true rfl) rfl (Nat.le_of_ble_eq_true rfl) ⟨Nat.le_of_ble_eq_true rfl, Nat.le_of_ble_eq_true rfl⟩ qX10_keyOf_59 ?_
          rintro _ _ ⟨rfl, rfl⟩
          first | refine v_if_eqB hX 68 qX10_keyOf_62 rfl (fun q62 => ?_) (fun q62 => ?_) | refine v_if_eq hX 68 qX10_keyOf_62 rfl (fun q62 => ?_) (fun q62 => ?_)
          · skip
            refine v_aload_n hX rfl qX10_keyOf_68 ?_
            refine v_ldcS hX (hG X _ _ _ _ hX) 11 rfl qX10_keyOf_69 ?_
            refine v_iload_n hX rfl qX10_keyOf_71 ?_
            refine v_iload_n hX rfl qX10_keyOf_72 ?_
            refine v_callVq hX hR k_X10_155 (hs.kd 11 rfl) (c_isWord (by exact hs) (by exact hb) (by exact hG) (i := 11) (by omega) (by exact hp)) rfl (Nat.le_of_ble_eq_true rfl) rfl (Nat.le_of_ble_eq_true rfl) ⟨Nat.le_of_ble_eq_true rfl, Nat.le_of_ble_eq_true rfl⟩ qX10_keyOf_73 ?_
            rintro _ _ ⟨rfl, rfl⟩
            first | refine v_if_eqB hX 84 qX10_keyOf_76 rfl (fun q76 => ?_) (fun q76 => ?_) | refine v_if_eq hX 84 qX10_keyOf_76 rfl (fun q76 => ?_) (fun q76 => ?_)
            · skip
              refine v_iconst hX li_1 qX10_keyOf_84 ?_
              refine v_ireturn hX qX10_keyOf_85 (hP _ _ ?_)
              first | exact ⟨by unfold keyK; rw [if_neg (show ¬ wordIs by' sz p w_deep = true from q8), if_neg (show ¬ wordIs by' sz p w_sea = true from q21), if_neg (show ¬ wordIs by' sz p w_shine = true from q34), if_neg (show ¬ wordIs by' sz p w_or = true from q48), if_neg (show ¬ wordIs by' sz p w_and = true from q62), if_pos (show wordIs by' sz p w_not = true from q76)], rfl⟩ | exact ⟨by unfold keyK; rw [if_neg (show ¬ wordIs by' sz p w_deep = true from q8), if_neg (show ¬ wordIs by' sz p w_sea = true from q21), if_neg (show ¬ wordIs by' sz p w_shine = true from q34), if_neg (show ¬ wordIs by' sz p w_or = true from q48), if_neg (show ¬ wordIs by' sz p w_and = true from q62), if_neg (show ¬ wordIs by' sz p w_not = true from q76)], rfl⟩
            · skip
              refine v_bipush hX lb_9 qX10_keyOf_79 ?_
              refine v_goto hX 85 qX10_keyOf_81 rfl ?_
              refine v_ireturn hX qX10_keyOf_85 (hP _ _ ?_)
              first | exact ⟨by unfold keyK; rw [if_neg (show ¬ wordIs by' sz p w_deep = true from q8), if_neg (show ¬ wordIs by' sz p w_sea = true from q21), if_neg (show ¬ wordIs by' sz p w_shine = true from q34), if_neg (show ¬ wordIs by' sz p w_or = true from q48), if_neg (show ¬ wordIs by' sz p w_and = true from q62), if_pos (show wordIs by' sz p w_not = true from q76)], rfl⟩ | exact ⟨by unfold keyK; rw [if_neg (show ¬ wordIs by' sz p w_deep = true from q8), if_neg (show ¬ wordIs by' sz p w_sea = true from q21), if_neg (show ¬ wordIs by' sz p w_shine = true from q34), if_neg (show ¬ wordIs by' sz p w_or = true from q48), if_neg (show ¬ wordIs by' sz p w_and = true from q62), if_neg (show ¬ wordIs by' sz p w_not = true from q76)], rfl⟩
          · skip
            refine v_bipush hX lb_8 qX10_keyOf_65 ?_
            refine v_ireturn hX qX10_keyOf_67 (hP _ _ ?_)
            exact ⟨by unfold keyK; rw [if_neg (show ¬ wordIs by' sz p w_deep = true from q8), if_neg (show ¬ wordIs by' sz p w_sea = true from q21), if_neg (show ¬ wordIs by' sz p w_shine = true from q34), if_neg (show ¬ wordIs by' sz p w_or = true from q48), if_pos (show wordIs by' sz p w_and = true from q62)], rfl⟩
        · skip
          refine v_bipush hX lb_7 qX10_keyOf_51 ?_
          refine v_ireturn hX qX10_keyOf_53 (hP _ _ ?_)
          exact ⟨by unfold keyK; rw [if_neg (show ¬ wordIs by' sz p w_deep = true from q8), if_neg (show ¬ wordIs by' sz p w_sea = true from q21), if_neg (show ¬ wordIs by' sz p w_shine = true from q34), if_pos (show wordIs by' sz p w_or = true from q48)], rfl⟩
      · skip
        refine v_bipush hX lb_6 qX10_keyOf_37 ?_
        refine v_ireturn hX qX10_keyOf_39 (hP _ _ ?_)
        exact ⟨by unfold keyK; rw [if_neg (show ¬ wordIs by' sz p w_deep = true from q8), if_neg (show ¬ wordIs by' sz p w_sea = true from q21), if_pos (show wordIs by' sz p w_shine = true from q34)], rfl⟩
    · skip
      refine v_iconst hX li_5 qX10_keyOf_24 ?_
      refine v_ireturn hX qX10_keyOf_25 (hP _ _ ?_)
      exact ⟨by unfold keyK; rw [if_neg (show ¬ wordIs by' sz p w_deep = true from q8), if_pos (show wordIs by' sz p w_sea = true from q21)], rfl⟩
  · skip
    refine v_iconst hX li_4 qX10_keyOf_11 ?_
    refine v_ireturn hX qX10_keyOf_12 (hP _ _ ?_)
    exact ⟨by unfold keyK; rw [if_pos (show wordIs by' sz p w_deep = true from q8)], rfl⟩
theorem qX10_addToken_0 : Dq cX10_addToken 0 (.aload_n 0) 1 1 := ⟨by decide +kernel, rfl⟩
theorem qX10_addToken_1 : Dq cX10_addToken 1 (.getfield 113) 3 4 := ⟨by decide +kernel, rfl⟩
theorem qX10_addToken_4 : Dq cX10_addToken 4 (.sipush 160) 3 7 := ⟨by decide +kernel, rfl⟩
theorem qX10_addToken_7 : Dq cX10_addToken 7 (.if_icmp .ge 43) 3 10 := ⟨by decide +kernel, rfl⟩
theorem qX10_addToken_10 : Dq cX10_addToken 10 (.aload_n 0) 1 11 := ⟨by decide +kernel, rfl⟩
theorem qX10_addToken_11 : Dq cX10_addToken 11 (.getfield 15) 3 14 := ⟨by decide +kernel, rfl⟩
theorem qX10_addToken_14 : Dq cX10_addToken 14 (.aload_n 0) 1 15 := ⟨by decide +kernel, rfl⟩
theorem qX10_addToken_15 : Dq cX10_addToken 15 (.getfield 113) 3 18 := ⟨by decide +kernel, rfl⟩
theorem qX10_addToken_18 : Dq cX10_addToken 18 (.iload_n 1) 1 19 := ⟨by decide +kernel, rfl⟩
theorem qX10_addToken_19 : Dq cX10_addToken 19 (.iastore) 1 20 := ⟨by decide +kernel, rfl⟩
theorem qX10_addToken_20 : Dq cX10_addToken 20 (.aload_n 0) 1 21 := ⟨by decide +kernel, rfl⟩
theorem qX10_addToken_21 : Dq cX10_addToken 21 (.getfield 18) 3 24 := ⟨by decide +kernel, rfl⟩
theorem qX10_addToken_24 : Dq cX10_addToken 24 (.aload_n 0) 1 25 := ⟨by decide +kernel, rfl⟩
theorem qX10_addToken_25 : Dq cX10_addToken 25 (.getfield 113) 3 28 := ⟨by decide +kernel, rfl⟩
theorem qX10_addToken_28 : Dq cX10_addToken 28 (.iload_n 2) 1 29 := ⟨by decide +kernel, rfl⟩
theorem qX10_addToken_29 : Dq cX10_addToken 29 (.iastore) 1 30 := ⟨by decide +kernel, rfl⟩
theorem qX10_addToken_30 : Dq cX10_addToken 30 (.aload_n 0) 1 31 := ⟨by decide +kernel, rfl⟩
theorem qX10_addToken_31 : Dq cX10_addToken 31 (.getfield 21) 3 34 := ⟨by decide +kernel, rfl⟩
theorem qX10_addToken_34 : Dq cX10_addToken 34 (.aload_n 0) 1 35 := ⟨by decide +kernel, rfl⟩
theorem qX10_addToken_35 : Dq cX10_addToken 35 (.getfield 113) 3 38 := ⟨by decide +kernel, rfl⟩
theorem qX10_addToken_38 : Dq cX10_addToken 38 (.iload_n 3) 1 39 := ⟨by decide +kernel, rfl⟩
theorem qX10_addToken_39 : Dq cX10_addToken 39 (.iastore) 1 40 := ⟨by decide +kernel, rfl⟩
theorem qX10_addToken_40 : Dq cX10_addToken 40 (.aload_n 0) 1 41 := ⟨by decide +kernel, rfl⟩
theorem qX10_addToken_41 : Dq cX10_addToken 41 (.dup) 1 42 := ⟨by decide +kernel, rfl⟩
theorem qX10_addToken_42 : Dq cX10_addToken 42 (.getfield 113) 3 45 := ⟨by decide +kernel, rfl⟩
theorem qX10_addToken_45 : Dq cX10_addToken 45 (.iconst 1) 1 46 := ⟨by decide +kernel, rfl⟩
theorem qX10_addToken_46 : Dq cX10_addToken 46 (.iadd) 1 47 := ⟨by decide +kernel, rfl⟩
theorem qX10_addToken_47 : Dq cX10_addToken 47 (.putfield 113) 3 50 := ⟨by decide +kernel, rfl⟩
theorem qX10_addToken_50 : Dq cX10_addToken 50 (.return_) 1 51 := ⟨by decide +kernel, rfl⟩
set_option maxRecDepth 100000 in
set_option maxHeartbeats 4000000 in
theorem c_addToken {G : Glb} {h : AHp} (hs : ShC h) {m : Nat} (hm : m < 160) (h6 : hpI h 11 6 = nI m) (kd wo : Int32) {p : Nat} : CP G m_X10_addToken 1 0 0 [.ref 11, .int kd, .int wo, .int (nI p)] h (fun r h' => r = none ∧ tokH h m p (kd, wo) = h') := by
  suffices key : ∀ P : Option Value → AHp → Prop, (∀ r h', (r = none ∧ tokH h m p (kd, wo) = h') → P r h') → CP G m_X10_addToken 1 0 0 [.ref 11, .int kd, .int wo, .int (nI p)] h P from key _ (fun _ _ z => z)
  intro P hP
  refine CP.of (by decide +kernel) (Nat.le_of_ble_eq_true rfl) fun X hX hR hnm => ?_
  show V X G 4 0 0 _ 0 [some (.ref 11), some (.int kd), some (.int wo), some (.int (nI p))] [] h
  refine v_aload_n hX rfl qX10_addToken_0 ?_
  refine v_getIv hX g_X10_113 (Or.inl rfl) (hs.kd 11 rfl) h6 qX10_addToken_1 ?_
  refine v_sipush hX ls_160 qX10_addToken_4 ?_
  refine v_icmp_geS hX 50 qX10_addToken_7 rfl (fun q7 => ?_) (fun q7 => ?_)
  · exact absurd q7 (nI_ge (a := m) (b := 160) hm (by omega))
  · skip
    refine v_aload_n hX rfl qX10_addToken_10 ?_
    refine v_getR hX g_X10_15 (hs.kd 11 rfl) (hs.rf 15 rfl) qX10_addToken_11 ?_
    refine v_aload_n hX rfl qX10_addToken_14 ?_
    refine v_getIv hX g_X10_113 (Or.inl rfl) (hs.kd 11 rfl) h6 qX10_addToken_15 ?_
    refine v_iload_n hX rfl qX10_addToken_18 ?_
    refine v_iastJ hX (hs.kd 13 rfl) (hs.ln 13 rfl) (by exact ix_n (n := m) (by omega) rfl) qX10_addToken_19 ?_
    refine v_aload_n hX rfl qX10_addToken_20 ?_
    refine v_getR hX g_X10_18 (hs.kd 11 rfl) (hs.rf 16 rfl) qX10_addToken_21 ?_
    refine v_aload_n hX rfl qX10_addToken_24 ?_
    refine v_getIv hX g_X10_113 (Or.inl rfl) (hs.kd 11 rfl) (show _ = nI m from h6) qX10_addToken_25 ?_
    refine v_iload_n hX rfl qX10_addToken_28 ?_
    refine v_iastJ hX (hs.kd 14 rfl) (hs.ln 14 rfl) (by exact ix_n (n := m) (by omega) rfl) qX10_addToken_29 ?_
    refine v_aload_n hX rfl qX10_addToken_30 ?_
    refine v_getR hX g_X10_21 (hs.kd 11 rfl) (hs.rf 17 rfl) qX10_addToken_31 ?_
    refine v_aload_n hX rfl qX10_addToken_34 ?_
    refine v_getIv hX g_X10_113 (Or.inl rfl) (hs.kd 11 rfl) (show _ = nI m from h6) qX10_addToken_35 ?_
    refine v_iload_n hX rfl qX10_addToken_38 ?_
    refine v_iastJ hX (hs.kd 15 rfl) (hs.ln 15 rfl) (by exact ix_n (n := m) (by omega) rfl) qX10_addToken_39 ?_
    refine v_aload_n hX rfl qX10_addToken_40 ?_
    refine v_dup hX rfl qX10_addToken_41 ?_
    refine v_getIv hX g_X10_113 (Or.inl rfl) (hs.kd 11 rfl) (show _ = nI m from h6) qX10_addToken_42 ?_
    refine v_iconst hX li_1 qX10_addToken_45 ?_
    refine v_iadd hX qX10_addToken_46 ?_
    refine v_eqI (nI_1 _) ?_
    refine v_putI hX p_X10_113 (hs.kd 11 rfl) (Or.inl rfl) qX10_addToken_47 ?_
    refine v_return hX qX10_addToken_50 (hP _ _ ?_)
    exact ⟨rfl, rfl⟩
theorem qX10_addWord_0 : Dq cX10_addWord 0 (.aload_n 0) 1 1 := ⟨by decide +kernel, rfl⟩
theorem qX10_addWord_1 : Dq cX10_addWord 1 (.iload_n 1) 1 2 := ⟨by decide +kernel, rfl⟩
theorem qX10_addWord_2 : Dq cX10_addWord 2 (.iload_n 2) 1 3 := ⟨by decide +kernel, rfl⟩
theorem qX10_addWord_3 : Dq cX10_addWord 3 (.invokevirtual 146) 3 6 := ⟨by decide +kernel, rfl⟩
theorem qX10_addWord_6 : Dq cX10_addWord 6 (.istore_n 3) 1 7 := ⟨by decide +kernel, rfl⟩
theorem qX10_addWord_7 : Dq cX10_addWord 7 (.iload_n 3) 1 8 := ⟨by decide +kernel, rfl⟩
theorem qX10_addWord_8 : Dq cX10_addWord 8 (.ifCond .eq 13) 3 11 := ⟨by decide +kernel, rfl⟩
theorem qX10_addWord_11 : Dq cX10_addWord 11 (.aload_n 0) 1 12 := ⟨by decide +kernel, rfl⟩
theorem qX10_addWord_12 : Dq cX10_addWord 12 (.iconst 3) 1 13 := ⟨by decide +kernel, rfl⟩
theorem qX10_addWord_13 : Dq cX10_addWord 13 (.iload_n 3) 1 14 := ⟨by decide +kernel, rfl⟩
theorem qX10_addWord_14 : Dq cX10_addWord 14 (.iload_n 1) 1 15 := ⟨by decide +kernel, rfl⟩
theorem qX10_addWord_15 : Dq cX10_addWord 15 (.invokevirtual 142) 3 18 := ⟨by decide +kernel, rfl⟩
theorem qX10_addWord_18 : Dq cX10_addWord 18 (.goto 15) 3 21 := ⟨by decide +kernel, rfl⟩
theorem qX10_addWord_21 : Dq cX10_addWord 21 (.aload_n 0) 1 22 := ⟨by decide +kernel, rfl⟩
theorem qX10_addWord_22 : Dq cX10_addWord 22 (.aload_n 0) 1 23 := ⟨by decide +kernel, rfl⟩
theorem qX10_addWord_23 : Dq cX10_addWord 23 (.iload_n 1) 1 24 := ⟨by decide +kernel, rfl⟩
theorem qX10_addWord_24 : Dq cX10_addWord 24 (.iload_n 2) 1 25 := ⟨by decide +kernel, rfl⟩
theorem qX10_addWord_25 : Dq cX10_addWord 25 (.invokevirtual 150) 3 28 := ⟨by decide +kernel, rfl⟩
theorem qX10_addWord_28 : Dq cX10_addWord 28 (.iconst 0) 1 29 := ⟨by decide +kernel, rfl⟩
theorem qX10_addWord_29 : Dq cX10_addWord 29 (.iload_n 1) 1 30 := ⟨by decide +kernel, rfl⟩
theorem qX10_addWord_30 : Dq cX10_addWord 30 (.invokevirtual 142) 3 33 := ⟨by decide +kernel, rfl⟩
theorem qX10_addWord_33 : Dq cX10_addWord 33 (.return_) 1 34 := ⟨by decide +kernel, rfl⟩
set_option maxRecDepth 100000 in
set_option maxHeartbeats 4000000 in
theorem c_addWord {G : Glb} {h : AHp} (hs : ShC h) {by' : Nat → Int32} {sz : Nat} (hb : TpB by' sz h) {m : Nat} (hm : m < 160) (h6 : hpI h 11 6 = nI m) {p : Nat} (hp : p < sz) (hG : HST G) (hw : ltB (btA by' sz p) = true) : CP G m_X10_addWord 7 0 0 [.ref 11, .int (nI p), .int (nI (wnd by' sz p))] h (fun r h' => r = none ∧ tokH h m p (tK by' sz p) = h') := by
  suffices key : ∀ P : Option Value → AHp → Prop, (∀ r h', (r = none ∧ tokH h m p (tK by' sz p) = h') → P r h') → CP G m_X10_addWord 7 0 0 [.ref 11, .int (nI p), .int (nI (wnd by' sz p))] h P from key _ (fun _ _ z => z)
  intro P hP
  refine CP.of (by decide +kernel) (Nat.le_of_ble_eq_true rfl) fun X hX hR hnm => ?_
  show V X G 4 0 0 _ 0 [some (.ref 11), some (.int (nI p)), some (.int (nI (wnd by' sz p))), none] [] h
  have etk : tK by' sz p = if nameK by' sz p = 0 then (keyK by' sz p, 0) else (3, nameK by' sz p) := by unfold tK; rw [if_neg (by omega), if_pos hw]
  have hp := Nat.le_of_lt hp
  refine v_aload_n hX rfl qX10_addWord_0 ?_
  refine v_iload_n hX rfl qX10_addWord_1 ?_
  refine v_iload_n hX rfl qX10_addWord_2 ?_
  refine v_callVq hX hR k_X10_146 (hs.kd 11 rfl) (c_nameOf (by exact hs) (by exact hb) (by exact hG) (by exact hp)) rfl (Nat.le_of_ble_eq_true rfl) rfl (Nat.le_of_ble_eq_true rfl) ⟨Nat.le_of_ble_eq_true rfl, Nat.le_of_ble_eq_true rfl⟩ qX10_addWord_3 ?_
  rintro _ _ ⟨rfl, rfl⟩
  refine v_istore_n hX (Nat.le_of_ble_eq_true rfl) rfl (ls' := [some _, some _, some _, some _]) rfl qX10_addWord_6 ?_
  refine v_iload_n hX rfl qX10_addWord_7 ?_
  first | refine v_if_eqB hX 21 qX10_addWord_8 rfl (fun q8 => ?_) (fun q8 => ?_) | refine v_if_eq hX 21 qX10_addWord_8 rfl (fun q8 => ?_) (fun q8 => ?_)
  · skip
    refine v_aload_n hX rfl qX10_addWord_21 ?_
    refine v_aload_n hX rfl qX10_addWord_22 ?_
    refine v_iload_n hX rfl qX10_addWord_23 ?_
    refine v_iload_n hX rfl qX10_addWord_24 ?_
    refine v_callVq hX hR k_X10_150 (hs.kd 11 rfl) (c_keyOf (by exact hs) (by exact hb) (by exact hG) (by exact hp)) rfl (Nat.le_of_ble_eq_true rfl) rfl (Nat.le_of_ble_eq_true rfl) ⟨Nat.le_of_ble_eq_true rfl, Nat.le_of_ble_eq_true rfl⟩ qX10_addWord_25 ?_
    rintro _ _ ⟨rfl, rfl⟩
    refine v_iconst hX li_0 qX10_addWord_28 ?_
    refine v_iload_n hX rfl qX10_addWord_29 ?_
    refine v_callVq hX hR k_X10_142 (hs.kd 11 rfl) (c_addToken (by exact hs) (by exact hm) (by exact h6) _ _) rfl (Nat.le_of_ble_eq_true rfl) rfl (Nat.le_of_ble_eq_true rfl) ⟨Nat.le_of_ble_eq_true rfl, Nat.le_of_ble_eq_true rfl⟩ qX10_addWord_30 ?_
    rintro _ _ ⟨rfl, rfl⟩
    refine v_return hX qX10_addWord_33 (hP _ _ ?_)
    first | (rw [etk, if_neg q8]; exact ⟨rfl, rfl⟩) | (rw [etk, if_pos q8]; exact ⟨rfl, rfl⟩)
  · skip
    refine v_aload_n hX rfl qX10_addWord_11 ?_
    refine v_iconst hX li_3 qX10_addWord_12 ?_
    refine v_iload_n hX rfl qX10_addWord_13 ?_
    refine v_iload_n hX rfl qX10_addWord_14 ?_
    refine v_callVq hX hR k_X10_142 (hs.kd 11 rfl) (c_addToken (by exact hs) (by exact hm) (by exact h6) _ _) rfl (Nat.le_of_ble_eq_true rfl) rfl (Nat.le_of_ble_eq_true rfl) ⟨Nat.le_of_ble_eq_true rfl, Nat.le_of_ble_eq_true rfl⟩ qX10_addWord_15 ?_
    rintro _ _ ⟨rfl, rfl⟩
    refine v_goto hX 33 qX10_addWord_18 rfl ?_
    refine v_return hX qX10_addWord_33 (hP _ _ ?_)
    first | (rw [etk, if_neg q8]; exact ⟨rfl, rfl⟩) | (rw [etk, if_pos q8]; exact ⟨rfl, rfl⟩)
theorem qX10_addNumber_0 : Dq cX10_addNumber 0 (.iload_n 2) 1 1 := ⟨by decide +kernel, rfl⟩
theorem qX10_addNumber_1 : Dq cX10_addNumber 1 (.iload_n 1) 1 2 := ⟨by decide +kernel, rfl⟩
theorem qX10_addNumber_2 : Dq cX10_addNumber 2 (.isub) 1 3 := ⟨by decide +kernel, rfl⟩
theorem qX10_addNumber_3 : Dq cX10_addNumber 3 (.iconst 4) 1 4 := ⟨by decide +kernel, rfl⟩
theorem qX10_addNumber_4 : Dq cX10_addNumber 4 (.if_icmp .le 11) 3 7 := ⟨by decide +kernel, rfl⟩
theorem qX10_addNumber_7 : Dq cX10_addNumber 7 (.aload_n 0) 1 8 := ⟨by decide +kernel, rfl⟩
theorem qX10_addNumber_8 : Dq cX10_addNumber 8 (.iconst 1) 1 9 := ⟨by decide +kernel, rfl⟩
theorem qX10_addNumber_9 : Dq cX10_addNumber 9 (.iconst 0) 1 10 := ⟨by decide +kernel, rfl⟩
theorem qX10_addNumber_10 : Dq cX10_addNumber 10 (.iload_n 1) 1 11 := ⟨by decide +kernel, rfl⟩
theorem qX10_addNumber_11 : Dq cX10_addNumber 11 (.invokevirtual 142) 3 14 := ⟨by decide +kernel, rfl⟩
theorem qX10_addNumber_14 : Dq cX10_addNumber 14 (.return_) 1 15 := ⟨by decide +kernel, rfl⟩
theorem qX10_addNumber_15 : Dq cX10_addNumber 15 (.iconst 0) 1 16 := ⟨by decide +kernel, rfl⟩
theorem qX10_addNumber_16 : Dq cX10_addNumber 16 (.istore_n 3) 1 17 := ⟨by decide +kernel, rfl⟩
theorem qX10_addNumber_17 : Dq cX10_addNumber 17 (.iload_n 1) 1 18 := ⟨by decide +kernel, rfl⟩
theorem qX10_addNumber_18 : Dq cX10_addNumber 18 (.istore 4) 2 20 := ⟨by decide +kernel, rfl⟩
theorem qX10_addNumber_20 : Dq cX10_addNumber 20 (.iload 4) 2 22 := ⟨by decide +kernel, rfl⟩
theorem qX10_addNumber_22 : Dq cX10_addNumber 22 (.iload_n 2) 1 23 := ⟨by decide +kernel, rfl⟩
theorem qX10_addNumber_23 : Dq cX10_addNumber 23 (.if_icmp .ge 24) 3 26 := ⟨by decide +kernel, rfl⟩
theorem qX10_addNumber_26 : Dq cX10_addNumber 26 (.iload_n 3) 1 27 := ⟨by decide +kernel, rfl⟩
theorem qX10_addNumber_27 : Dq cX10_addNumber 27 (.bipush 10) 2 29 := ⟨by decide +kernel, rfl⟩
theorem qX10_addNumber_29 : Dq cX10_addNumber 29 (.imul) 1 30 := ⟨by decide +kernel, rfl⟩
theorem qX10_addNumber_30 : Dq cX10_addNumber 30 (.aload_n 0) 1 31 := ⟨by decide +kernel, rfl⟩
theorem qX10_addNumber_31 : Dq cX10_addNumber 31 (.iload 4) 2 33 := ⟨by decide +kernel, rfl⟩
theorem qX10_addNumber_33 : Dq cX10_addNumber 33 (.invokevirtual 116) 3 36 := ⟨by decide +kernel, rfl⟩
theorem qX10_addNumber_36 : Dq cX10_addNumber 36 (.iadd) 1 37 := ⟨by decide +kernel, rfl⟩
theorem qX10_addNumber_37 : Dq cX10_addNumber 37 (.bipush 48) 2 39 := ⟨by decide +kernel, rfl⟩
theorem qX10_addNumber_39 : Dq cX10_addNumber 39 (.isub) 1 40 := ⟨by decide +kernel, rfl⟩
theorem qX10_addNumber_40 : Dq cX10_addNumber 40 (.istore_n 3) 1 41 := ⟨by decide +kernel, rfl⟩
theorem qX10_addNumber_41 : Dq cX10_addNumber 41 (.iinc 4 1) 3 44 := ⟨by decide +kernel, rfl⟩
theorem qX10_addNumber_44 : Dq cX10_addNumber 44 (.goto (-24)) 3 47 := ⟨by decide +kernel, rfl⟩
theorem qX10_addNumber_47 : Dq cX10_addNumber 47 (.aload_n 0) 1 48 := ⟨by decide +kernel, rfl⟩
theorem qX10_addNumber_48 : Dq cX10_addNumber 48 (.iconst 2) 1 49 := ⟨by decide +kernel, rfl⟩
theorem qX10_addNumber_49 : Dq cX10_addNumber 49 (.iload_n 3) 1 50 := ⟨by decide +kernel, rfl⟩
theorem qX10_addNumber_50 : Dq cX10_addNumber 50 (.iload_n 1) 1 51 := ⟨by decide +kernel, rfl⟩
theorem qX10_addNumber_51 : Dq cX10_addNumber 51 (.invokevirtual 142) 3 54 := ⟨by decide +kernel, rfl⟩
theorem qX10_addNumber_54 : Dq cX10_addNumber 54 (.return_) 1 55 := ⟨by decide +kernel, rfl⟩
set_option maxRecDepth 100000 in
set_option maxHeartbeats 4000000 in
theorem c_addNumber {G : Glb} {h : AHp} (hs : ShC h) {by' : Nat → Int32} {sz : Nat} (hb : TpB by' sz h) {m : Nat} (hm : m < 160) (h6 : hpI h 11 6 = nI m) {p : Nat} (hp : p < sz) (hd : dgB (btA by' sz p) = true) : CP G m_X10_addNumber 2 0 0 [.ref 11, .int (nI p), .int (nI (nnd by' sz p))] h (fun r h' => r = none ∧ tokH h m p (tK by' sz p) = h') := by
  suffices key : ∀ P : Option Value → AHp → Prop, (∀ r h', (r = none ∧ tokH h m p (tK by' sz p) = h') → P r h') → CP G m_X10_addNumber 2 0 0 [.ref 11, .int (nI p), .int (nI (nnd by' sz p))] h P from key _ (fun _ _ z => z)
  intro P hP
  refine CP.of (by decide +kernel) (Nat.le_of_ble_eq_true rfl) fun X hX hR hnm => ?_
  show V X G 5 0 0 _ 0 [some (.ref 11), some (.int (nI p)), some (.int (nI (nnd by' sz p))), none, none] [] h
  have hs160 := hb.2.1
  have hn := nnd_is (by' := by') (sz := sz) p
  have hn2 := hn.le dgB_no (Nat.le_of_lt hp)
  have hn1 := hn.1
  have hnl : ¬ ltB (btA by' sz p) = true := fun z => by
    have h2 := of_decide_eq_true hd
    have z := of_decide_eq_true z
    have a := leI.mp h2.2
    have b := leI.mp z.1
    have e1 : (57 : Int32).toInt = 57 := rfl
    have e2 : (97 : Int32).toInt = 97 := rfl
    omega
  have etk : tK by' sz p = if nnd by' sz p ≤ p + 4 then (2, nI (nvN by' sz p (nnd by' sz p - p))) else (1, 0) := by unfold tK; rw [if_neg (by omega), if_neg hnl, if_pos hd]
  refine v_iload_n hX rfl qX10_addNumber_0 ?_
  refine v_iload_n hX rfl qX10_addNumber_1 ?_
  refine v_isub hX qX10_addNumber_2 ?_
  refine v_eqI (show _ = nI (nnd by' sz p - p) from pk_sub hn1) ?_
  refine v_iconst hX li_4 qX10_addNumber_3 ?_
  refine v_icmp_leS hX 15 qX10_addNumber_4 rfl (fun q4 => ?_) (fun q4 => ?_)
  · have hle := nI_le' (i := nnd by' sz p - p) (s := 4) (by omega) (by omega) q4
    refine v_iconst hX li_0 qX10_addNumber_15 ?_
    refine v_istore_n hX (Nat.le_of_ble_eq_true rfl) rfl (ls' := [some _, some _, some _, some _, none]) rfl qX10_addNumber_16 ?_
    refine v_iload_n hX rfl qX10_addNumber_17 ?_
    refine v_istore hX (Nat.le_of_ble_eq_true rfl) rfl (ls' := [some _, some _, some _, some _, some _]) rfl qX10_addNumber_18 ?_
    have L20 : ∀ (mz : Nat) (k : Nat), nnd by' sz p - (p + k) = mz → (p + k ≤ nnd by' sz p) → V X G 5 0 0 (QM X G P 0 0) 20 [some (.ref 11), some (.int (nI p)), some (.int (nI (nnd by' sz p))), some (.int (nI (nvN by' sz p k))), some (.int (nI (p + k)))] [] h := by
      intro mz
      induction mz using Nat.strongRecOn with
      | _ mz ih =>
      intro k hmz hk
      refine v_iload hX rfl qX10_addNumber_20 ?_
      refine v_iload_n hX rfl qX10_addNumber_22 ?_
      refine v_icmp_geS hX 47 qX10_addNumber_23 rfl (fun q23 => ?_) (fun q23 => ?_)
      · have e1 : p + k = nnd by' sz p := Nat.le_antisymm hk (nI_le' (by omega) (by omega) q23)
        refine v_aload_n hX rfl qX10_addNumber_47 ?_
        refine v_iconst hX li_2 qX10_addNumber_48 ?_
        refine v_iload_n hX rfl qX10_addNumber_49 ?_
        refine v_iload_n hX rfl qX10_addNumber_50 ?_
        refine v_callVq hX hR k_X10_142 (hs.kd 11 rfl) (c_addToken (by exact hs) (by exact hm) (by exact h6) _ _) rfl (Nat.le_of_ble_eq_true rfl) rfl (Nat.le_of_ble_eq_true rfl) ⟨Nat.le_of_ble_eq_true rfl, Nat.le_of_ble_eq_true rfl⟩ qX10_addNumber_51 ?_
        rintro _ _ ⟨rfl, rfl⟩
        refine v_return hX qX10_addNumber_54 (hP _ _ ?_)
        rw [etk, if_pos (by omega), show nnd by' sz p - p = k by omega]; exact ⟨rfl, rfl⟩
      · have hl := nI_lt' (i := p + k) (s := nnd by' sz p) (by omega) (by omega) q23
        obtain ⟨hd1, hd2⟩ := dg_in (hn.2.1 (p + k) (by omega) hl)
        refine v_iload_n hX rfl qX10_addNumber_26 ?_
        refine v_bipush hX lb_10 qX10_addNumber_27 ?_
        refine v_imul hX qX10_addNumber_29 ?_
        refine v_aload_n hX rfl qX10_addNumber_30 ?_
        refine v_iload hX rfl qX10_addNumber_31 ?_
        refine v_callVq hX hR k_X10_116 (hs.kd 11 rfl) (c_byteAt (by exact hs) (by exact hb) (i := p + k) (by omega)) rfl (Nat.le_of_ble_eq_true rfl) rfl (Nat.le_of_ble_eq_true rfl) ⟨Nat.le_of_ble_eq_true rfl, Nat.le_of_ble_eq_true rfl⟩ qX10_addNumber_33 ?_
        rintro _ _ ⟨rfl, rfl⟩
        refine v_iadd hX qX10_addNumber_36 ?_
        refine v_bipush hX lb_48 qX10_addNumber_37 ?_
        refine v_isub hX qX10_addNumber_39 ?_
        refine v_eqI (show _ = nI (nvN by' sz p (k + 1)) by
          rw [hd2, show (10 : Int32) = nI 10 from rfl, show (48 : Int32) = nI 48 from rfl, pk_mul, nI_add, pk_sub (by omega)]
          refine congrArg nI ?_
          show _ = nvN by' sz p k * 10 + dgN by' sz (p + k)
          omega) ?_
        refine v_istore_n hX (Nat.le_of_ble_eq_true rfl) rfl (ls' := [some _, some _, some _, some _, some _]) rfl qX10_addNumber_40 ?_
        refine v_iinc hX rfl (ii_nI (p + k)) (Nat.le_of_ble_eq_true rfl) rfl (ls' := [some _, some _, some _, some _, some _]) rfl qX10_addNumber_41 ?_
        refine v_goto hX 20 qX10_addNumber_44 rfl ?_
        exact ih _ (by omega) (k + 1) rfl (by omega)
    exact L20 _ 0 rfl (by omega)
  · have hgt := nI_lt' (i := 4) (s := nnd by' sz p - p) (by omega) (by omega) q4
    refine v_aload_n hX rfl qX10_addNumber_7 ?_
    refine v_iconst hX li_1 qX10_addNumber_8 ?_
    refine v_iconst hX li_0 qX10_addNumber_9 ?_
    refine v_iload_n hX rfl qX10_addNumber_10 ?_
    refine v_callVq hX hR k_X10_142 (hs.kd 11 rfl) (c_addToken (by exact hs) (by exact hm) (by exact h6) _ _) rfl (Nat.le_of_ble_eq_true rfl) rfl (Nat.le_of_ble_eq_true rfl) ⟨Nat.le_of_ble_eq_true rfl, Nat.le_of_ble_eq_true rfl⟩ qX10_addNumber_11 ?_
    rintro _ _ ⟨rfl, rfl⟩
    refine v_return hX qX10_addNumber_14 (hP _ _ ?_)
    rw [etk, if_neg (by omega)]; exact ⟨rfl, rfl⟩
