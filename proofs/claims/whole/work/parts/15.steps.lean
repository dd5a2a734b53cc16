/-! steps and sheets -/
def anyB (p : Nat → Bool) : Nat → Bool
  | 0 => false
  | n + 1 => anyB p n || p n
theorem anyB_t {p : Nat → Bool} : ∀ {n k : Nat}, k < n → p k = true → anyB p n = true := by
  intro n
  induction n with
  | zero => intro k h; omega
  | succ n ih =>
    intro k h hp
    by_cases e : k = n
    · subst e; simp [anyB, hp]
    · simp [anyB, ih (show k < n by omega) hp]
theorem anyB_f {p : Nat → Bool} : ∀ {n : Nat}, (∀ k, k < n → p k = false) → anyB p n = false := by
  intro n
  induction n with
  | zero => intro _; rfl
  | succ n ih => intro h; simp [anyB, ih (fun k hk => h k (by omega)), h n (by omega)]
/-- the first place with p, or the end -/
def fc (p : Nat → Bool) : Nat → Nat → Nat
  | 0, i => i
  | n + 1, i => if p i then i else fc p n (i + 1)
theorem fc_hit {p : Nat → Bool} {k : Nat} (hk : p k = true) : ∀ (n i : Nat), i ≤ k → k < i + n → (∀ j, i ≤ j → j < k → p j = false) → fc p n i = k := by
  intro n
  induction n with
  | zero => intro i h1 h2; omega
  | succ n ih =>
    intro i h1 h2 h3
    by_cases e : i = k
    · subst e; simp [fc, hk]
    · have h4 : p i = false := h3 i (Nat.le_refl _) (by omega)
      simp only [fc, h4]
      exact ih (i + 1) (by omega) (by omega) (fun j hj => h3 j (by omega))
theorem fc_no {p : Nat → Bool} : ∀ (n i : Nat), (∀ j, i ≤ j → j < i + n → p j = false) → fc p n i = i + n := by
  intro n
  induction n with
  | zero => intro i _; rfl
  | succ n ih =>
    intro i h3
    have h4 : p i = false := h3 i (Nat.le_refl _) (by omega)
    simp only [fc, h4]
    rw [if_neg (by simp), ih (i + 1) (fun j hj hj2 => h3 j (by omega) (by omega))]
    omega
theorem nI_lt' {i s : Nat} (hi : i < 2000000) (hs : s < 2000000) (q : nI i < nI s) : i < s := (nI_ltI (by omega) (by omega)).mp q
theorem nI_le' {i s : Nat} (hi : i < 2000000) (hs : s < 2000000) (q : nI i ≤ nI s) : i ≤ s := (nI_leI (by omega) (by omega)).mp q
/-- an int between, as a number -/
theorem ofRange {i : Int32} {s : Nat} (h0 : 0 ≤ i) (h1 : i < nI s) (hs : s < 2 ^ 31) : ∃ k, k < s ∧ i = nI k := by
  obtain ⟨j, hj, rfl⟩ := nI_of (Int32.not_lt.mpr h0)
  exact ⟨j, (nI_ltI hj hs).mp h1, rfl⟩
theorem tn_nI {k : Nat} (h : k < 2000000) : tn (nI k) = k := nI_clamp (by omega)
theorem qX9_clear_0 : Dq cX9_clear 0 (.aload_n 0) 1 1 := ⟨by decide +kernel, rfl⟩
theorem qX9_clear_1 : Dq cX9_clear 1 (.iconst 0) 1 2 := ⟨by decide +kernel, rfl⟩
theorem qX9_clear_2 : Dq cX9_clear 2 (.putfield 18) 3 5 := ⟨by decide +kernel, rfl⟩
theorem qX9_clear_5 : Dq cX9_clear 5 (.aload_n 0) 1 6 := ⟨by decide +kernel, rfl⟩
theorem qX9_clear_6 : Dq cX9_clear 6 (.iconst 0) 1 7 := ⟨by decide +kernel, rfl⟩
theorem qX9_clear_7 : Dq cX9_clear 7 (.putfield 22) 3 10 := ⟨by decide +kernel, rfl⟩
theorem qX9_clear_10 : Dq cX9_clear 10 (.aload_n 0) 1 11 := ⟨by decide +kernel, rfl⟩
theorem qX9_clear_11 : Dq cX9_clear 11 (.iconst 0) 1 12 := ⟨by decide +kernel, rfl⟩
theorem qX9_clear_12 : Dq cX9_clear 12 (.putfield 25) 3 15 := ⟨by decide +kernel, rfl⟩
theorem qX9_clear_15 : Dq cX9_clear 15 (.return_) 1 16 := ⟨by decide +kernel, rfl⟩
set_option maxRecDepth 100000 in
set_option maxHeartbeats 4000000 in
theorem c_clear {G : Glb} {h : AHp} (hs : ShC h)  : CP G m_X9_clear 1 0 0 [.ref 26] h (fun r h' => r = none ∧ stI (stI (stI h 26 2 0) 26 3 0) 26 4 0 = h') := by
  suffices key : ∀ P : Option Value → AHp → Prop, (∀ r h', (r = none ∧ stI (stI (stI h 26 2 0) 26 3 0) 26 4 0 = h') → P r h') → CP G m_X9_clear 1 0 0 [.ref 26] h P from key _ (fun _ _ z => z)
  intro P hP
  refine CP.of (by decide +kernel) (Nat.le_of_ble_eq_true rfl) fun X hX hR hnm => ?_
  show V X G 1 0 0 _ 0 [some (.ref 26)] [] h
  refine v_aload_n hX rfl qX9_clear_0 ?_
  refine v_iconst hX li_0 qX9_clear_1 ?_
  refine v_putI hX p_X9_18 (hs.kd 26 rfl) (Or.inl rfl) qX9_clear_2 ?_
  refine v_aload_n hX rfl qX9_clear_5 ?_
  refine v_iconst hX li_0 qX9_clear_6 ?_
  refine v_putI hX p_X9_22 (hs.kd 26 rfl) (Or.inl rfl) qX9_clear_7 ?_
  refine v_aload_n hX rfl qX9_clear_10 ?_
  refine v_iconst hX li_0 qX9_clear_11 ?_
  refine v_putI hX p_X9_25 (hs.kd 26 rfl) (Or.inl rfl) qX9_clear_12 ?_
  refine v_return hX qX9_clear_15 (hP _ _ ?_)
  exact ⟨rfl, rfl⟩
theorem qX9_add_0 : Dq cX9_add 0 (.aload_n 0) 1 1 := ⟨by decide +kernel, rfl⟩
theorem qX9_add_1 : Dq cX9_add 1 (.getfield 18) 3 4 := ⟨by decide +kernel, rfl⟩
theorem qX9_add_4 : Dq cX9_add 4 (.bipush 20) 2 6 := ⟨by decide +kernel, rfl⟩
theorem qX9_add_6 : Dq cX9_add 6 (.if_icmp .ge 53) 3 9 := ⟨by decide +kernel, rfl⟩
theorem qX9_add_9 : Dq cX9_add 9 (.aload_n 0) 1 10 := ⟨by decide +kernel, rfl⟩
theorem qX9_add_10 : Dq cX9_add 10 (.getfield 9) 3 13 := ⟨by decide +kernel, rfl⟩
theorem qX9_add_13 : Dq cX9_add 13 (.aload_n 0) 1 14 := ⟨by decide +kernel, rfl⟩
theorem qX9_add_14 : Dq cX9_add 14 (.getfield 18) 3 17 := ⟨by decide +kernel, rfl⟩
theorem qX9_add_17 : Dq cX9_add 17 (.iload_n 1) 1 18 := ⟨by decide +kernel, rfl⟩
theorem qX9_add_18 : Dq cX9_add 18 (.iastore) 1 19 := ⟨by decide +kernel, rfl⟩
theorem qX9_add_19 : Dq cX9_add 19 (.aload_n 0) 1 20 := ⟨by decide +kernel, rfl⟩
theorem qX9_add_20 : Dq cX9_add 20 (.getfield 15) 3 23 := ⟨by decide +kernel, rfl⟩
theorem qX9_add_23 : Dq cX9_add 23 (.aload_n 0) 1 24 := ⟨by decide +kernel, rfl⟩
theorem qX9_add_24 : Dq cX9_add 24 (.getfield 18) 3 27 := ⟨by decide +kernel, rfl⟩
theorem qX9_add_27 : Dq cX9_add 27 (.iload_n 2) 1 28 := ⟨by decide +kernel, rfl⟩
theorem qX9_add_28 : Dq cX9_add 28 (.iastore) 1 29 := ⟨by decide +kernel, rfl⟩
theorem qX9_add_29 : Dq cX9_add 29 (.aload_n 0) 1 30 := ⟨by decide +kernel, rfl⟩
theorem qX9_add_30 : Dq cX9_add 30 (.dup) 1 31 := ⟨by decide +kernel, rfl⟩
theorem qX9_add_31 : Dq cX9_add 31 (.getfield 18) 3 34 := ⟨by decide +kernel, rfl⟩
theorem qX9_add_34 : Dq cX9_add 34 (.iconst 1) 1 35 := ⟨by decide +kernel, rfl⟩
theorem qX9_add_35 : Dq cX9_add 35 (.iadd) 1 36 := ⟨by decide +kernel, rfl⟩
theorem qX9_add_36 : Dq cX9_add 36 (.putfield 18) 3 39 := ⟨by decide +kernel, rfl⟩
theorem qX9_add_39 : Dq cX9_add 39 (.aload_n 0) 1 40 := ⟨by decide +kernel, rfl⟩
theorem qX9_add_40 : Dq cX9_add 40 (.dup) 1 41 := ⟨by decide +kernel, rfl⟩
theorem qX9_add_41 : Dq cX9_add 41 (.getfield 22) 3 44 := ⟨by decide +kernel, rfl⟩
theorem qX9_add_44 : Dq cX9_add 44 (.iload_n 2) 1 45 := ⟨by decide +kernel, rfl⟩
theorem qX9_add_45 : Dq cX9_add 45 (.iadd) 1 46 := ⟨by decide +kernel, rfl⟩
theorem qX9_add_46 : Dq cX9_add 46 (.putfield 22) 3 49 := ⟨by decide +kernel, rfl⟩
theorem qX9_add_49 : Dq cX9_add 49 (.aload_n 0) 1 50 := ⟨by decide +kernel, rfl⟩
theorem qX9_add_50 : Dq cX9_add 50 (.dup) 1 51 := ⟨by decide +kernel, rfl⟩
theorem qX9_add_51 : Dq cX9_add 51 (.getfield 25) 3 54 := ⟨by decide +kernel, rfl⟩
theorem qX9_add_54 : Dq cX9_add 54 (.iload_n 3) 1 55 := ⟨by decide +kernel, rfl⟩
theorem qX9_add_55 : Dq cX9_add 55 (.iadd) 1 56 := ⟨by decide +kernel, rfl⟩
theorem qX9_add_56 : Dq cX9_add 56 (.putfield 25) 3 59 := ⟨by decide +kernel, rfl⟩
theorem qX9_add_59 : Dq cX9_add 59 (.return_) 1 60 := ⟨by decide +kernel, rfl⟩
set_option maxRecDepth 100000 in
set_option maxHeartbeats 4000000 in
theorem c_add {G : Glb} {h : AHp} (hs : ShC h) {s : Nat} (hz : hpI h 26 2 = nI s) (hs20 : s < 20) (c g m : Int32) : CP G m_X9_add 1 0 0 [.ref 26, .int c, .int g, .int m] h (fun r h' => r = none ∧ stI (stI (stI (stI (stI h 27 s c) 28 s g) 26 2 (nI (s + 1))) 26 3 (hpI h 26 3 + g)) 26 4 (hpI h 26 4 + m) = h') := by
  suffices key : ∀ P : Option Value → AHp → Prop, (∀ r h', (r = none ∧ stI (stI (stI (stI (stI h 27 s c) 28 s g) 26 2 (nI (s + 1))) 26 3 (hpI h 26 3 + g)) 26 4 (hpI h 26 4 + m) = h') → P r h') → CP G m_X9_add 1 0 0 [.ref 26, .int c, .int g, .int m] h P from key _ (fun _ _ z => z)
  intro P hP
  refine CP.of (by decide +kernel) (Nat.le_of_ble_eq_true rfl) fun X hX hR hnm => ?_
  show V X G 4 0 0 _ 0 [some (.ref 26), some (.int c), some (.int g), some (.int m)] [] h
  refine v_aload_n hX rfl qX9_add_0 ?_
  refine v_getIv hX g_X9_18 (Or.inl rfl) (hs.kd 26 rfl) hz qX9_add_1 ?_
  refine v_bipush hX lb_20 qX9_add_4 ?_
  refine v_icmp_geS hX 59 qX9_add_6 rfl (fun q6 => ?_) (fun q6 => ?_)
  · exact absurd (nI_le' (i := 20) (by omega) (by omega) q6) (by omega)
  · skip
    refine v_aload_n hX rfl qX9_add_9 ?_
    refine v_getR hX g_X9_9 (hs.kd 26 rfl) (hs.rf 27 rfl) qX9_add_10 ?_
    refine v_aload_n hX rfl qX9_add_13 ?_
    refine v_getIv hX g_X9_18 (Or.inl rfl) (hs.kd 26 rfl) hz qX9_add_14 ?_
    refine v_iload_n hX rfl qX9_add_17 ?_
    refine v_iastJ hX (hs.kd 27 rfl) (hs.ln 27 rfl) (by exact ix_n hs20 rfl) qX9_add_18 ?_
    refine v_aload_n hX rfl qX9_add_19 ?_
    refine v_getR hX g_X9_15 (hs.kd 26 rfl) (hs.rf 28 rfl) qX9_add_20 ?_
    refine v_aload_n hX rfl qX9_add_23 ?_
    refine v_getIv hX g_X9_18 (Or.inl rfl) (hs.kd 26 rfl) hz qX9_add_24 ?_
    refine v_iload_n hX rfl qX9_add_27 ?_
    refine v_iastJ hX (hs.kd 28 rfl) (hs.ln 28 rfl) (by exact ix_n hs20 rfl) qX9_add_28 ?_
    refine v_aload_n hX rfl qX9_add_29 ?_
    refine v_dup hX rfl qX9_add_30 ?_
    refine v_getIv hX g_X9_18 (Or.inl rfl) (hs.kd 26 rfl) hz qX9_add_31 ?_
    refine v_iconst hX li_1 qX9_add_34 ?_
    refine v_iadd hX qX9_add_35 ?_
    refine v_eqI (nI_1 s) ?_
    refine v_putI hX p_X9_18 (hs.kd 26 rfl) (Or.inl rfl) qX9_add_36 ?_
    refine v_aload_n hX rfl qX9_add_39 ?_
    refine v_dup hX rfl qX9_add_40 ?_
    refine v_getI hX g_X9_22 (Or.inl rfl) (hs.kd 26 rfl) qX9_add_41 ?_
    refine v_iload_n hX rfl qX9_add_44 ?_
    refine v_iadd hX qX9_add_45 ?_
    refine v_putI hX p_X9_22 (hs.kd 26 rfl) (Or.inl rfl) qX9_add_46 ?_
    refine v_aload_n hX rfl qX9_add_49 ?_
    refine v_dup hX rfl qX9_add_50 ?_
    refine v_getI hX g_X9_25 (Or.inl rfl) (hs.kd 26 rfl) qX9_add_51 ?_
    refine v_iload_n hX rfl qX9_add_54 ?_
    refine v_iadd hX qX9_add_55 ?_
    refine v_putI hX p_X9_25 (hs.kd 26 rfl) (Or.inl rfl) qX9_add_56 ?_
    refine v_return hX qX9_add_59 (hP _ _ ?_)
    exact ⟨rfl, rfl⟩
theorem qX9_cellAt_0 : Dq cX9_cellAt 0 (.iload_n 1) 1 1 := ⟨by decide +kernel, rfl⟩
theorem qX9_cellAt_1 : Dq cX9_cellAt 1 (.iconst 0) 1 2 := ⟨by decide +kernel, rfl⟩
theorem qX9_cellAt_2 : Dq cX9_cellAt 2 (.aload_n 0) 1 3 := ⟨by decide +kernel, rfl⟩
theorem qX9_cellAt_3 : Dq cX9_cellAt 3 (.getfield 18) 3 6 := ⟨by decide +kernel, rfl⟩
theorem qX9_cellAt_6 : Dq cX9_cellAt 6 (.iconst 1) 1 7 := ⟨by decide +kernel, rfl⟩
theorem qX9_cellAt_7 : Dq cX9_cellAt 7 (.isub) 1 8 := ⟨by decide +kernel, rfl⟩
theorem qX9_cellAt_8 : Dq cX9_cellAt 8 (.invokestatic 28) 3 11 := ⟨by decide +kernel, rfl⟩
theorem qX9_cellAt_11 : Dq cX9_cellAt 11 (.ifCond .eq 18) 3 14 := ⟨by decide +kernel, rfl⟩
theorem qX9_cellAt_14 : Dq cX9_cellAt 14 (.iload_n 1) 1 15 := ⟨by decide +kernel, rfl⟩
theorem qX9_cellAt_15 : Dq cX9_cellAt 15 (.bipush 20) 2 17 := ⟨by decide +kernel, rfl⟩
theorem qX9_cellAt_17 : Dq cX9_cellAt 17 (.if_icmp .ge 12) 3 20 := ⟨by decide +kernel, rfl⟩
theorem qX9_cellAt_20 : Dq cX9_cellAt 20 (.aload_n 0) 1 21 := ⟨by decide +kernel, rfl⟩
theorem qX9_cellAt_21 : Dq cX9_cellAt 21 (.getfield 9) 3 24 := ⟨by decide +kernel, rfl⟩
theorem qX9_cellAt_24 : Dq cX9_cellAt 24 (.iload_n 1) 1 25 := ⟨by decide +kernel, rfl⟩
theorem qX9_cellAt_25 : Dq cX9_cellAt 25 (.iaload) 1 26 := ⟨by decide +kernel, rfl⟩
theorem qX9_cellAt_26 : Dq cX9_cellAt 26 (.goto 4) 3 29 := ⟨by decide +kernel, rfl⟩
theorem qX9_cellAt_29 : Dq cX9_cellAt 29 (.iconst (-1)) 1 30 := ⟨by decide +kernel, rfl⟩
theorem qX9_cellAt_30 : Dq cX9_cellAt 30 (.ireturn) 1 31 := ⟨by decide +kernel, rfl⟩
set_option maxRecDepth 100000 in
set_option maxHeartbeats 4000000 in
theorem c_cellAt {G : Glb} {h : AHp} (hs : ShC h) {s : Nat} (hz : hpI h 26 2 = nI s) (hs20 : s ≤ 20) (i : Int32) : CP G m_X9_cellAt 2 0 0 [.ref 26, .int i] h (fun r h' => r = some (.int (if 0 ≤ i ∧ i < nI s then hpI h 27 (tn i) else -1)) ∧ h = h') := by
  suffices key : ∀ P : Option Value → AHp → Prop, (∀ r h', (r = some (.int (if 0 ≤ i ∧ i < nI s then hpI h 27 (tn i) else -1)) ∧ h = h') → P r h') → CP G m_X9_cellAt 2 0 0 [.ref 26, .int i] h P from key _ (fun _ _ z => z)
  intro P hP
  refine CP.of (by decide +kernel) (Nat.le_of_ble_eq_true rfl) fun X hX hR hnm => ?_
  show V X G 2 0 0 _ 0 [some (.ref 26), some (.int i)] [] h
  refine v_iload_n hX rfl qX9_cellAt_0 ?_
  refine v_iconst hX li_0 qX9_cellAt_1 ?_
  refine v_aload_n hX rfl qX9_cellAt_2 ?_
  refine v_getIv hX g_X9_18 (Or.inl rfl) (hs.kd 26 rfl) hz qX9_cellAt_3 ?_
  refine v_iconst hX li_1 qX9_cellAt_6 ?_
  refine v_isub hX qX9_cellAt_7 ?_
  refine v_callNq hX hR k_X9_28 (c_isWithin _ _ _) rfl (Nat.le_of_ble_eq_true rfl) rfl (Nat.le_of_ble_eq_true rfl) ⟨Nat.le_of_ble_eq_true rfl, Nat.le_of_ble_eq_true rfl⟩ qX9_cellAt_8 ?_
  rintro _ _ ⟨rfl, rfl⟩
  first | refine v_if_eqB hX 29 qX9_cellAt_11 rfl (fun q11 => ?_) (fun q11 => ?_) | refine v_if_eq hX 29 qX9_cellAt_11 rfl (fun q11 => ?_) (fun q11 => ?_)
  · have q := fun z : 0 ≤ i ∧ i < nI s => q11 ⟨z.1, (leM1 (by omega)).mpr z.2⟩
    refine v_iconst hX li_n1 qX9_cellAt_29 ?_
    refine v_ireturn hX qX9_cellAt_30 (hP _ _ ?_)
    first | exact ⟨by rw [if_pos q, tn_nI (by omega)], rfl⟩ | exact ⟨by rw [if_neg q], rfl⟩
  · have q : 0 ≤ i ∧ i < nI s := ⟨q11.1, (leM1 (by omega)).mp q11.2⟩; obtain ⟨k, hk, rfl⟩ := ofRange q.1 q.2 (by omega)
    refine v_iload_n hX rfl qX9_cellAt_14 ?_
    refine v_bipush hX lb_20 qX9_cellAt_15 ?_
    refine v_icmp_geS hX 29 qX9_cellAt_17 rfl (fun q17 => ?_) (fun q17 => ?_)
    · exact absurd (nI_le' (i := 20) (by omega) (by omega) q17) (by omega)
    · skip
      refine v_aload_n hX rfl qX9_cellAt_20 ?_
      refine v_getR hX g_X9_9 (hs.kd 26 rfl) (hs.rf 27 rfl) qX9_cellAt_21 ?_
      refine v_iload_n hX rfl qX9_cellAt_24 ?_
      refine v_ialdJ hX (hs.kd 27 rfl) (hs.ln 27 rfl) (by exact ix_n (n := k) (by omega) rfl) qX9_cellAt_25 ?_
      refine v_goto hX 30 qX9_cellAt_26 rfl ?_
      refine v_ireturn hX qX9_cellAt_30 (hP _ _ ?_)
      first | exact ⟨by rw [if_pos q, tn_nI (by omega)], rfl⟩ | exact ⟨by rw [if_neg q], rfl⟩
theorem qX9_sizeAheadOf_0 : Dq cX9_sizeAheadOf 0 (.iconst 0) 1 1 := ⟨by decide +kernel, rfl⟩
theorem qX9_sizeAheadOf_1 : Dq cX9_sizeAheadOf 1 (.istore_n 2) 1 2 := ⟨by decide +kernel, rfl⟩
theorem qX9_sizeAheadOf_2 : Dq cX9_sizeAheadOf 2 (.iload_n 2) 1 3 := ⟨by decide +kernel, rfl⟩
theorem qX9_sizeAheadOf_3 : Dq cX9_sizeAheadOf 3 (.aload_n 0) 1 4 := ⟨by decide +kernel, rfl⟩
theorem qX9_sizeAheadOf_4 : Dq cX9_sizeAheadOf 4 (.getfield 18) 3 7 := ⟨by decide +kernel, rfl⟩
theorem qX9_sizeAheadOf_7 : Dq cX9_sizeAheadOf 7 (.if_icmp .ge 27) 3 10 := ⟨by decide +kernel, rfl⟩
theorem qX9_sizeAheadOf_10 : Dq cX9_sizeAheadOf 10 (.iload_n 2) 1 11 := ⟨by decide +kernel, rfl⟩
theorem qX9_sizeAheadOf_11 : Dq cX9_sizeAheadOf 11 (.bipush 20) 2 13 := ⟨by decide +kernel, rfl⟩
theorem qX9_sizeAheadOf_13 : Dq cX9_sizeAheadOf 13 (.if_icmp .ge 21) 3 16 := ⟨by decide +kernel, rfl⟩
theorem qX9_sizeAheadOf_16 : Dq cX9_sizeAheadOf 16 (.aload_n 0) 1 17 := ⟨by decide +kernel, rfl⟩
theorem qX9_sizeAheadOf_17 : Dq cX9_sizeAheadOf 17 (.getfield 15) 3 20 := ⟨by decide +kernel, rfl⟩
theorem qX9_sizeAheadOf_20 : Dq cX9_sizeAheadOf 20 (.iload_n 2) 1 21 := ⟨by decide +kernel, rfl⟩
theorem qX9_sizeAheadOf_21 : Dq cX9_sizeAheadOf 21 (.iaload) 1 22 := ⟨by decide +kernel, rfl⟩
theorem qX9_sizeAheadOf_22 : Dq cX9_sizeAheadOf 22 (.iload_n 1) 1 23 := ⟨by decide +kernel, rfl⟩
theorem qX9_sizeAheadOf_23 : Dq cX9_sizeAheadOf 23 (.if_icmp .ge 5) 3 26 := ⟨by decide +kernel, rfl⟩
theorem qX9_sizeAheadOf_26 : Dq cX9_sizeAheadOf 26 (.iload_n 2) 1 27 := ⟨by decide +kernel, rfl⟩
theorem qX9_sizeAheadOf_27 : Dq cX9_sizeAheadOf 27 (.ireturn) 1 28 := ⟨by decide +kernel, rfl⟩
theorem qX9_sizeAheadOf_28 : Dq cX9_sizeAheadOf 28 (.iinc 2 1) 3 31 := ⟨by decide +kernel, rfl⟩
theorem qX9_sizeAheadOf_31 : Dq cX9_sizeAheadOf 31 (.goto (-29)) 3 34 := ⟨by decide +kernel, rfl⟩
theorem qX9_sizeAheadOf_34 : Dq cX9_sizeAheadOf 34 (.aload_n 0) 1 35 := ⟨by decide +kernel, rfl⟩
theorem qX9_sizeAheadOf_35 : Dq cX9_sizeAheadOf 35 (.getfield 18) 3 38 := ⟨by decide +kernel, rfl⟩
theorem qX9_sizeAheadOf_38 : Dq cX9_sizeAheadOf 38 (.ireturn) 1 39 := ⟨by decide +kernel, rfl⟩
set_option maxRecDepth 100000 in
set_option maxHeartbeats 4000000 in
theorem c_sizeAheadOf {G : Glb} {h : AHp} (hs : ShC h) {s : Nat} (hz : hpI h 26 2 = nI s) (hs20 : s ≤ 20) (pr : Int32) : CP G m_X9_sizeAheadOf 1 0 0 [.ref 26, .int pr] h (fun r h' => r = some (.int (nI (fc (fun k => decide (hpI h 28 k < pr)) s 0))) ∧ h = h') := by
  suffices key : ∀ P : Option Value → AHp → Prop, (∀ r h', (r = some (.int (nI (fc (fun k => decide (hpI h 28 k < pr)) s 0))) ∧ h = h') → P r h') → CP G m_X9_sizeAheadOf 1 0 0 [.ref 26, .int pr] h P from key _ (fun _ _ z => z)
  intro P hP
  refine CP.of (by decide +kernel) (Nat.le_of_ble_eq_true rfl) fun X hX hR hnm => ?_
  show V X G 3 0 0 _ 0 [some (.ref 26), some (.int pr), none] [] h
  refine v_iconst hX li_0 qX9_sizeAheadOf_0 ?_
  refine v_istore_n hX (Nat.le_of_ble_eq_true rfl) rfl (ls' := [some _, some _, some _]) rfl qX9_sizeAheadOf_1 ?_
  have L2 : ∀ (m : Nat) (i : Nat), s - i = m → (i ≤ s) → (∀ j, j < i → pr ≤ hpI h 28 j) → V X G 3 0 0 (QM X G P 0 0) 2 [some (.ref 26), some (.int pr), some (.int (nI i))] [] h := by
    intro m
    induction m using Nat.strongRecOn with
    | _ m ih =>
    intro i hm hi hq
    refine v_iload_n hX rfl qX9_sizeAheadOf_2 ?_
    refine v_aload_n hX rfl qX9_sizeAheadOf_3 ?_
    refine v_getIv hX g_X9_18 (Or.inl rfl) (hs.kd 26 rfl) hz qX9_sizeAheadOf_4 ?_
    refine v_icmp_geS hX 34 qX9_sizeAheadOf_7 rfl (fun q7 => ?_) (fun q7 => ?_)
    · have e : i = s := Nat.le_antisymm hi (nI_le' (by omega) (by omega) q7); subst e
      refine v_aload_n hX rfl qX9_sizeAheadOf_34 ?_
      refine v_getIv hX g_X9_18 (Or.inl rfl) (hs.kd 26 rfl) hz qX9_sizeAheadOf_35 ?_
      refine v_ireturn hX qX9_sizeAheadOf_38 (hP _ _ ?_)
      exact ⟨congrArg (fun z => some (Value.int (nI z))) ((fc_no i 0 (fun j _ hj => decide_eq_false (Int32.not_lt.mpr (hq j (by omega))))).trans (Nat.zero_add i)).symm, rfl⟩
    · have hl := nI_lt' (by omega) (by omega) q7
      refine v_iload_n hX rfl qX9_sizeAheadOf_10 ?_
      refine v_bipush hX lb_20 qX9_sizeAheadOf_11 ?_
      refine v_icmp_geS hX 34 qX9_sizeAheadOf_13 rfl (fun q13 => ?_) (fun q13 => ?_)
      · exact absurd (nI_le' (i := 20) (by omega) (by omega) q13) (by omega)
      · skip
        refine v_aload_n hX rfl qX9_sizeAheadOf_16 ?_
        refine v_getR hX g_X9_15 (hs.kd 26 rfl) (hs.rf 28 rfl) qX9_sizeAheadOf_17 ?_
        refine v_iload_n hX rfl qX9_sizeAheadOf_20 ?_
        refine v_ialdJ hX (hs.kd 28 rfl) (hs.ln 28 rfl) (by first | exact isC.ix (by assumption) | exact ix_n (by omega) rfl) qX9_sizeAheadOf_21 ?_
        refine v_iload_n hX rfl qX9_sizeAheadOf_22 ?_
        refine v_icmp_geS hX 28 qX9_sizeAheadOf_23 rfl (fun q23 => ?_) (fun q23 => ?_)
        · skip
          refine v_iinc hX rfl (by first | exact ii_nI _ | exact ii_1 _) (Nat.le_of_ble_eq_true rfl) rfl (ls' := [some _, some _, some _]) rfl qX9_sizeAheadOf_28 ?_
          refine v_goto hX 2 qX9_sizeAheadOf_31 rfl ?_
          exact ih _ (by omega) (i + 1) rfl (by omega) (fun j hj => by rcases Nat.lt_succ_iff_lt_or_eq.mp hj with z | rfl; exact hq j z; exact q23)
        · skip
          refine v_iload_n hX rfl qX9_sizeAheadOf_26 ?_
          refine v_ireturn hX qX9_sizeAheadOf_27 (hP _ _ ?_)
          exact ⟨congrArg (fun z => some (Value.int (nI z))) (fc_hit (k := i) (decide_eq_true q23) s 0 (Nat.zero_le _) (by omega) (fun j _ hj => decide_eq_false (Int32.not_lt.mpr (hq j hj)))).symm, rfl⟩
  exact L2 _ 0 rfl (by omega) (fun j hj => absurd hj (Nat.not_lt_zero _))
theorem qX9_hasCell_0 : Dq cX9_hasCell 0 (.iconst 0) 1 1 := ⟨by decide +kernel, rfl⟩
theorem qX9_hasCell_1 : Dq cX9_hasCell 1 (.istore_n 2) 1 2 := ⟨by decide +kernel, rfl⟩
theorem qX9_hasCell_2 : Dq cX9_hasCell 2 (.iload_n 2) 1 3 := ⟨by decide +kernel, rfl⟩
theorem qX9_hasCell_3 : Dq cX9_hasCell 3 (.aload_n 0) 1 4 := ⟨by decide +kernel, rfl⟩
theorem qX9_hasCell_4 : Dq cX9_hasCell 4 (.getfield 18) 3 7 := ⟨by decide +kernel, rfl⟩
theorem qX9_hasCell_7 : Dq cX9_hasCell 7 (.if_icmp .ge 27) 3 10 := ⟨by decide +kernel, rfl⟩
theorem qX9_hasCell_10 : Dq cX9_hasCell 10 (.iload_n 2) 1 11 := ⟨by decide +kernel, rfl⟩
theorem qX9_hasCell_11 : Dq cX9_hasCell 11 (.bipush 20) 2 13 := ⟨by decide +kernel, rfl⟩
theorem qX9_hasCell_13 : Dq cX9_hasCell 13 (.if_icmp .ge 21) 3 16 := ⟨by decide +kernel, rfl⟩
theorem qX9_hasCell_16 : Dq cX9_hasCell 16 (.aload_n 0) 1 17 := ⟨by decide +kernel, rfl⟩
theorem qX9_hasCell_17 : Dq cX9_hasCell 17 (.getfield 9) 3 20 := ⟨by decide +kernel, rfl⟩
theorem qX9_hasCell_20 : Dq cX9_hasCell 20 (.iload_n 2) 1 21 := ⟨by decide +kernel, rfl⟩
theorem qX9_hasCell_21 : Dq cX9_hasCell 21 (.iaload) 1 22 := ⟨by decide +kernel, rfl⟩
theorem qX9_hasCell_22 : Dq cX9_hasCell 22 (.iload_n 1) 1 23 := ⟨by decide +kernel, rfl⟩
theorem qX9_hasCell_23 : Dq cX9_hasCell 23 (.if_icmp .ne 5) 3 26 := ⟨by decide +kernel, rfl⟩
theorem qX9_hasCell_26 : Dq cX9_hasCell 26 (.iconst 1) 1 27 := ⟨by decide +kernel, rfl⟩
theorem qX9_hasCell_27 : Dq cX9_hasCell 27 (.ireturn) 1 28 := ⟨by decide +kernel, rfl⟩
theorem qX9_hasCell_28 : Dq cX9_hasCell 28 (.iinc 2 1) 3 31 := ⟨by decide +kernel, rfl⟩
theorem qX9_hasCell_31 : Dq cX9_hasCell 31 (.goto (-29)) 3 34 := ⟨by decide +kernel, rfl⟩
theorem qX9_hasCell_34 : Dq cX9_hasCell 34 (.iconst 0) 1 35 := ⟨by decide +kernel, rfl⟩
theorem qX9_hasCell_35 : Dq cX9_hasCell 35 (.ireturn) 1 36 := ⟨by decide +kernel, rfl⟩
set_option maxRecDepth 100000 in
set_option maxHeartbeats 4000000 in
theorem c_hasCell {G : Glb} {h : AHp} (hs : ShC h) {s : Nat} (hz : hpI h 26 2 = nI s) (hs20 : s ≤ 20) (c : Int32) : CP G m_X9_hasCell 1 0 0 [.ref 26, .int c] h (fun r h' => r = some (.int (bz (anyB (fun k => decide (hpI h 27 k = c)) s = true))) ∧ h = h') := by
  suffices key : ∀ P : Option Value → AHp → Prop, (∀ r h', (r = some (.int (bz (anyB (fun k => decide (hpI h 27 k = c)) s = true))) ∧ h = h') → P r h') → CP G m_X9_hasCell 1 0 0 [.ref 26, .int c] h P from key _ (fun _ _ z => z)
  intro P hP
  refine CP.of (by decide +kernel) (Nat.le_of_ble_eq_true rfl) fun X hX hR hnm => ?_
  show V X G 3 0 0 _ 0 [some (.ref 26), some (.int c), none] [] h
  refine v_iconst hX li_0 qX9_hasCell_0 ?_
  refine v_istore_n hX (Nat.le_of_ble_eq_true rfl) rfl (ls' := [some _, some _, some _]) rfl qX9_hasCell_1 ?_
  have L2 : ∀ (m : Nat) (i : Nat), s - i = m → (i ≤ s) → (∀ j, j < i → ¬ hpI h 27 j = c) → V X G 3 0 0 (QM X G P 0 0) 2 [some (.ref 26), some (.int c), some (.int (nI i))] [] h := by
    intro m
    induction m using Nat.strongRecOn with
    | _ m ih =>
    intro i hm hi hq
    refine v_iload_n hX rfl qX9_hasCell_2 ?_
    refine v_aload_n hX rfl qX9_hasCell_3 ?_
    refine v_getIv hX g_X9_18 (Or.inl rfl) (hs.kd 26 rfl) hz qX9_hasCell_4 ?_
    refine v_icmp_geS hX 34 qX9_hasCell_7 rfl (fun q7 => ?_) (fun q7 => ?_)
    · have e : i = s := Nat.le_antisymm hi (nI_le' (by omega) (by omega) q7); subst e
      refine v_iconst hX li_0 qX9_hasCell_34 ?_
      refine v_zreturn hX (by first | exact Or.inl rfl | exact Or.inr rfl | exact bz01 _) qX9_hasCell_35 (hP _ _ ?_)
      exact ⟨congrArg (fun z => some (Value.int z)) (bz_f (fun z => Bool.noConfusion (z.symm.trans (anyB_f (fun k hk => decide_eq_false (hq k hk)))))).symm, rfl⟩
    · have hl := nI_lt' (by omega) (by omega) q7
      refine v_iload_n hX rfl qX9_hasCell_10 ?_
      refine v_bipush hX lb_20 qX9_hasCell_11 ?_
      refine v_icmp_geS hX 34 qX9_hasCell_13 rfl (fun q13 => ?_) (fun q13 => ?_)
      · exact absurd (nI_le' (i := 20) (by omega) (by omega) q13) (by omega)
      · skip
        refine v_aload_n hX rfl qX9_hasCell_16 ?_
        refine v_getR hX g_X9_9 (hs.kd 26 rfl) (hs.rf 27 rfl) qX9_hasCell_17 ?_
        refine v_iload_n hX rfl qX9_hasCell_20 ?_
        refine v_ialdJ hX (hs.kd 27 rfl) (hs.ln 27 rfl) (by first | exact isC.ix (by assumption) | exact ix_n (by omega) rfl) qX9_hasCell_21 ?_
        refine v_iload_n hX rfl qX9_hasCell_22 ?_
        refine v_icmp_ne hX 28 qX9_hasCell_23 rfl (fun q23 => ?_) (fun q23 => ?_)
        · skip
          refine v_iinc hX rfl (by first | exact ii_nI _ | exact ii_1 _) (Nat.le_of_ble_eq_true rfl) rfl (ls' := [some _, some _, some _]) rfl qX9_hasCell_28 ?_
          refine v_goto hX 2 qX9_hasCell_31 rfl ?_
          exact ih _ (by omega) (i + 1) rfl (by omega) (fun j hj => by rcases Nat.lt_succ_iff_lt_or_eq.mp hj with z | rfl; exact hq j z; exact q23)
        · skip
          refine v_iconst hX li_1 qX9_hasCell_26 ?_
          refine v_zreturn hX (by first | exact Or.inl rfl | exact Or.inr rfl | exact bz01 _) qX9_hasCell_27 (hP _ _ ?_)
          exact ⟨congrArg (fun z => some (Value.int z)) (bz_t (anyB_t hl (decide_eq_true q23))).symm, rfl⟩
  exact L2 _ 0 rfl (by omega) (fun j hj => absurd hj (Nat.not_lt_zero _))
theorem qX6_isMissing_0 : Dq cX6_isMissing 0 (.aload_n 0) 1 1 := ⟨by decide +kernel, rfl⟩
theorem qX6_isMissing_1 : Dq cX6_isMissing 1 (.getfield 15) 3 4 := ⟨by decide +kernel, rfl⟩
theorem qX6_isMissing_4 : Dq cX6_isMissing 4 (.iconst (-1)) 1 5 := ⟨by decide +kernel, rfl⟩
theorem qX6_isMissing_5 : Dq cX6_isMissing 5 (.if_icmp .ne 7) 3 8 := ⟨by decide +kernel, rfl⟩
theorem qX6_isMissing_8 : Dq cX6_isMissing 8 (.iconst 1) 1 9 := ⟨by decide +kernel, rfl⟩
theorem qX6_isMissing_9 : Dq cX6_isMissing 9 (.goto 4) 3 12 := ⟨by decide +kernel, rfl⟩
theorem qX6_isMissing_12 : Dq cX6_isMissing 12 (.iconst 0) 1 13 := ⟨by decide +kernel, rfl⟩
theorem qX6_isMissing_13 : Dq cX6_isMissing 13 (.ireturn) 1 14 := ⟨by decide +kernel, rfl⟩
set_option maxRecDepth 100000 in
set_option maxHeartbeats 4000000 in
theorem c_isMissing {G : Glb} {h : AHp} (hs : ShC h) {S : Nat} (hS : isS S)  : CP G m_X6_isMissing 1 0 0 [.ref S] h (fun r h' => r = some (.int (bz (hpI h S 1 = -1))) ∧ h = h') := by
  suffices key : ∀ P : Option Value → AHp → Prop, (∀ r h', (r = some (.int (bz (hpI h S 1 = -1))) ∧ h = h') → P r h') → CP G m_X6_isMissing 1 0 0 [.ref S] h P from key _ (fun _ _ z => z)
  intro P hP
  refine CP.of (by decide +kernel) (Nat.le_of_ble_eq_true rfl) fun X hX hR hnm => ?_
  show V X G 1 0 0 _ 0 [some (.ref S)] [] h
  refine v_aload_n hX rfl qX6_isMissing_0 ?_
  refine v_getI hX g_X6_15 (Or.inl rfl) (hs.sk hS) qX6_isMissing_1 ?_
  refine v_iconst hX li_n1 qX6_isMissing_4 ?_
  refine v_icmp_ne hX 12 qX6_isMissing_5 rfl (fun q5 => ?_) (fun q5 => ?_)
  · skip
    refine v_iconst hX li_0 qX6_isMissing_12 ?_
    refine v_zreturn hX (by first | exact Or.inl rfl | exact Or.inr rfl | exact bz01 _) qX6_isMissing_13 (hP _ _ ?_)
    first | exact ⟨congrArg (fun z => some (Value.int z)) (bz_t (by assumption)).symm, rfl⟩ | exact ⟨congrArg (fun z => some (Value.int z)) (bz_f (by assumption)).symm, rfl⟩
  · skip
    refine v_iconst hX li_1 qX6_isMissing_8 ?_
    refine v_goto hX 13 qX6_isMissing_9 rfl ?_
    refine v_zreturn hX (by first | exact Or.inl rfl | exact Or.inr rfl | exact bz01 _) qX6_isMissing_13 (hP _ _ ?_)
    first | exact ⟨congrArg (fun z => some (Value.int z)) (bz_t (by assumption)).symm, rfl⟩ | exact ⟨congrArg (fun z => some (Value.int z)) (bz_f (by assumption)).symm, rfl⟩
theorem qX6_isOdd_0 : Dq cX6_isOdd 0 (.aload_n 0) 1 1 := ⟨by decide +kernel, rfl⟩
theorem qX6_isOdd_1 : Dq cX6_isOdd 1 (.getfield 19) 3 4 := ⟨by decide +kernel, rfl⟩
theorem qX6_isOdd_4 : Dq cX6_isOdd 4 (.iconst 2) 1 5 := ⟨by decide +kernel, rfl⟩
theorem qX6_isOdd_5 : Dq cX6_isOdd 5 (.irem) 1 6 := ⟨by decide +kernel, rfl⟩
theorem qX6_isOdd_6 : Dq cX6_isOdd 6 (.ifCond .eq 7) 3 9 := ⟨by decide +kernel, rfl⟩
theorem qX6_isOdd_9 : Dq cX6_isOdd 9 (.iconst 1) 1 10 := ⟨by decide +kernel, rfl⟩
theorem qX6_isOdd_10 : Dq cX6_isOdd 10 (.goto 4) 3 13 := ⟨by decide +kernel, rfl⟩
theorem qX6_isOdd_13 : Dq cX6_isOdd 13 (.iconst 0) 1 14 := ⟨by decide +kernel, rfl⟩
theorem qX6_isOdd_14 : Dq cX6_isOdd 14 (.ireturn) 1 15 := ⟨by decide +kernel, rfl⟩
set_option maxRecDepth 100000 in
set_option maxHeartbeats 4000000 in
theorem c_isOdd {G : Glb} {h : AHp} (hs : ShC h) {S : Nat} (hS : isS S)  : CP G m_X6_isOdd 1 0 0 [.ref S] h (fun r h' => r = some (.int (bz (¬ rmI (hpI h S 2) 2 = 0))) ∧ h = h') := by
  suffices key : ∀ P : Option Value → AHp → Prop, (∀ r h', (r = some (.int (bz (¬ rmI (hpI h S 2) 2 = 0))) ∧ h = h') → P r h') → CP G m_X6_isOdd 1 0 0 [.ref S] h P from key _ (fun _ _ z => z)
  intro P hP
  refine CP.of (by decide +kernel) (Nat.le_of_ble_eq_true rfl) fun X hX hR hnm => ?_
  show V X G 1 0 0 _ 0 [some (.ref S)] [] h
  refine v_aload_n hX rfl qX6_isOdd_0 ?_
  refine v_getI hX g_X6_19 (Or.inl rfl) (hs.sk hS) qX6_isOdd_1 ?_
  refine v_iconst hX li_2 qX6_isOdd_4 ?_
  refine v_irem hX (by decide) qX6_isOdd_5 ?_
  first | refine v_if_eqB hX 13 qX6_isOdd_6 rfl (fun q6 => ?_) (fun q6 => ?_) | refine v_if_eq hX 13 qX6_isOdd_6 rfl (fun q6 => ?_) (fun q6 => ?_)
  · skip
    refine v_iconst hX li_0 qX6_isOdd_13 ?_
    refine v_zreturn hX (by first | exact Or.inl rfl | exact Or.inr rfl | exact bz01 _) qX6_isOdd_14 (hP _ _ ?_)
    first | exact ⟨congrArg (fun z => some (Value.int z)) (bz_t (by assumption)).symm, rfl⟩ | exact ⟨congrArg (fun z => some (Value.int z)) (bz_f (fun z => z (by assumption))).symm, rfl⟩
  · skip
    refine v_iconst hX li_1 qX6_isOdd_9 ?_
    refine v_goto hX 14 qX6_isOdd_10 rfl ?_
    refine v_zreturn hX (by first | exact Or.inl rfl | exact Or.inr rfl | exact bz01 _) qX6_isOdd_14 (hP _ _ ?_)
    first | exact ⟨congrArg (fun z => some (Value.int z)) (bz_t (by assumption)).symm, rfl⟩ | exact ⟨congrArg (fun z => some (Value.int z)) (bz_f (fun z => z (by assumption))).symm, rfl⟩
theorem qX6_remove_0 : Dq cX6_remove 0 (.aload_n 0) 1 1 := ⟨by decide +kernel, rfl⟩
theorem qX6_remove_1 : Dq cX6_remove 1 (.iconst (-1)) 1 2 := ⟨by decide +kernel, rfl⟩
theorem qX6_remove_2 : Dq cX6_remove 2 (.putfield 15) 3 5 := ⟨by decide +kernel, rfl⟩
theorem qX6_remove_5 : Dq cX6_remove 5 (.aload_n 0) 1 6 := ⟨by decide +kernel, rfl⟩
theorem qX6_remove_6 : Dq cX6_remove 6 (.iconst 0) 1 7 := ⟨by decide +kernel, rfl⟩
theorem qX6_remove_7 : Dq cX6_remove 7 (.putfield 19) 3 10 := ⟨by decide +kernel, rfl⟩
theorem qX6_remove_10 : Dq cX6_remove 10 (.return_) 1 11 := ⟨by decide +kernel, rfl⟩
set_option maxRecDepth 100000 in
set_option maxHeartbeats 4000000 in
theorem c_remove {G : Glb} {h : AHp} (hs : ShC h) {S : Nat} (hS : isS S)  : CP G m_X6_remove 1 0 0 [.ref S] h (fun r h' => r = none ∧ stI (stI h S 1 (-1)) S 2 0 = h') := by
  suffices key : ∀ P : Option Value → AHp → Prop, (∀ r h', (r = none ∧ stI (stI h S 1 (-1)) S 2 0 = h') → P r h') → CP G m_X6_remove 1 0 0 [.ref S] h P from key _ (fun _ _ z => z)
  intro P hP
  refine CP.of (by decide +kernel) (Nat.le_of_ble_eq_true rfl) fun X hX hR hnm => ?_
  show V X G 1 0 0 _ 0 [some (.ref S)] [] h
  refine v_aload_n hX rfl qX6_remove_0 ?_
  refine v_iconst hX li_n1 qX6_remove_1 ?_
  refine v_putI hX p_X6_15 (hs.sk hS) (Or.inl rfl) qX6_remove_2 ?_
  refine v_aload_n hX rfl qX6_remove_5 ?_
  refine v_iconst hX li_0 qX6_remove_6 ?_
  refine v_putI hX p_X6_19 (hs.sk hS) (Or.inl rfl) qX6_remove_7 ?_
  refine v_return hX qX6_remove_10 (hP _ _ ?_)
  exact ⟨rfl, rfl⟩
theorem qX6_hasItem_0 : Dq cX6_hasItem 0 (.iload_n 1) 1 1 := ⟨by decide +kernel, rfl⟩
theorem qX6_hasItem_1 : Dq cX6_hasItem 1 (.iconst 0) 1 2 := ⟨by decide +kernel, rfl⟩
theorem qX6_hasItem_2 : Dq cX6_hasItem 2 (.aload_n 0) 1 3 := ⟨by decide +kernel, rfl⟩
theorem qX6_hasItem_3 : Dq cX6_hasItem 3 (.getfield 19) 3 6 := ⟨by decide +kernel, rfl⟩
theorem qX6_hasItem_6 : Dq cX6_hasItem 6 (.iconst 1) 1 7 := ⟨by decide +kernel, rfl⟩
theorem qX6_hasItem_7 : Dq cX6_hasItem 7 (.isub) 1 8 := ⟨by decide +kernel, rfl⟩
theorem qX6_hasItem_8 : Dq cX6_hasItem 8 (.invokestatic 32) 3 11 := ⟨by decide +kernel, rfl⟩
theorem qX6_hasItem_11 : Dq cX6_hasItem 11 (.ireturn) 1 12 := ⟨by decide +kernel, rfl⟩
set_option maxRecDepth 100000 in
set_option maxHeartbeats 4000000 in
theorem c_hasItem {G : Glb} {h : AHp} (hs : ShC h) {S : Nat} (hS : isS S) {s : Nat} (hz : hpI h S 2 = nI s) (hs40 : s ≤ 40) (i : Int32) : CP G m_X6_hasItem 2 0 0 [.ref S, .int i] h (fun r h' => r = some (.int (bz (0 ≤ i ∧ i < nI s))) ∧ h = h') := by
  suffices key : ∀ P : Option Value → AHp → Prop, (∀ r h', (r = some (.int (bz (0 ≤ i ∧ i < nI s))) ∧ h = h') → P r h') → CP G m_X6_hasItem 2 0 0 [.ref S, .int i] h P from key _ (fun _ _ z => z)
  intro P hP
  refine CP.of (by decide +kernel) (Nat.le_of_ble_eq_true rfl) fun X hX hR hnm => ?_
  show V X G 2 0 0 _ 0 [some (.ref S), some (.int i)] [] h
  refine v_iload_n hX rfl qX6_hasItem_0 ?_
  refine v_iconst hX li_0 qX6_hasItem_1 ?_
  refine v_aload_n hX rfl qX6_hasItem_2 ?_
  refine v_getIv hX g_X6_19 (Or.inl rfl) (hs.sk hS) hz qX6_hasItem_3 ?_
  refine v_iconst hX li_1 qX6_hasItem_6 ?_
  refine v_isub hX qX6_hasItem_7 ?_
  refine v_callNq hX hR k_X6_32 (c_isWithin _ _ _) rfl (Nat.le_of_ble_eq_true rfl) rfl (Nat.le_of_ble_eq_true rfl) ⟨Nat.le_of_ble_eq_true rfl, Nat.le_of_ble_eq_true rfl⟩ qX6_hasItem_8 ?_
  rintro _ _ ⟨rfl, rfl⟩
  refine v_zreturn hX (by first | exact Or.inl rfl | exact Or.inr rfl | exact bz01 _) qX6_hasItem_11 (hP _ _ ?_)
  exact ⟨congrArg (fun z => some (Value.int z)) (bz_c (by rw [leM1 (by omega)])), rfl⟩
theorem qX6_hasRange_0 : Dq cX6_hasRange 0 (.iload_n 1) 1 1 := ⟨by decide +kernel, rfl⟩
theorem qX6_hasRange_1 : Dq cX6_hasRange 1 (.ifCond .lt 29) 3 4 := ⟨by decide +kernel, rfl⟩
theorem qX6_hasRange_4 : Dq cX6_hasRange 4 (.iload_n 2) 1 5 := ⟨by decide +kernel, rfl⟩
theorem qX6_hasRange_5 : Dq cX6_hasRange 5 (.ifCond .lt 25) 3 8 := ⟨by decide +kernel, rfl⟩
theorem qX6_hasRange_8 : Dq cX6_hasRange 8 (.iload_n 2) 1 9 := ⟨by decide +kernel, rfl⟩
theorem qX6_hasRange_9 : Dq cX6_hasRange 9 (.aload_n 0) 1 10 := ⟨by decide +kernel, rfl⟩
theorem qX6_hasRange_10 : Dq cX6_hasRange 10 (.getfield 19) 3 13 := ⟨by decide +kernel, rfl⟩
theorem qX6_hasRange_13 : Dq cX6_hasRange 13 (.if_icmp .gt 17) 3 16 := ⟨by decide +kernel, rfl⟩
theorem qX6_hasRange_16 : Dq cX6_hasRange 16 (.iload_n 1) 1 17 := ⟨by decide +kernel, rfl⟩
theorem qX6_hasRange_17 : Dq cX6_hasRange 17 (.aload_n 0) 1 18 := ⟨by decide +kernel, rfl⟩
theorem qX6_hasRange_18 : Dq cX6_hasRange 18 (.getfield 19) 3 21 := ⟨by decide +kernel, rfl⟩
theorem qX6_hasRange_21 : Dq cX6_hasRange 21 (.iload_n 2) 1 22 := ⟨by decide +kernel, rfl⟩
theorem qX6_hasRange_22 : Dq cX6_hasRange 22 (.isub) 1 23 := ⟨by decide +kernel, rfl⟩
theorem qX6_hasRange_23 : Dq cX6_hasRange 23 (.if_icmp .gt 7) 3 26 := ⟨by decide +kernel, rfl⟩
theorem qX6_hasRange_26 : Dq cX6_hasRange 26 (.iconst 1) 1 27 := ⟨by decide +kernel, rfl⟩
theorem qX6_hasRange_27 : Dq cX6_hasRange 27 (.goto 4) 3 30 := ⟨by decide +kernel, rfl⟩
theorem qX6_hasRange_30 : Dq cX6_hasRange 30 (.iconst 0) 1 31 := ⟨by decide +kernel, rfl⟩
theorem qX6_hasRange_31 : Dq cX6_hasRange 31 (.ireturn) 1 32 := ⟨by decide +kernel, rfl⟩
set_option maxRecDepth 100000 in
set_option maxHeartbeats 4000000 in
theorem c_hasRange {G : Glb} {h : AHp} (hs : ShC h) {S : Nat} (hS : isS S) {s : Nat} (hz : hpI h S 2 = nI s) (hs40 : s ≤ 40) (i n : Int32) : CP G m_X6_hasRange 1 0 0 [.ref S, .int i, .int n] h (fun r h' => r = some (.int (bz (0 ≤ i ∧ 0 ≤ n ∧ n ≤ nI s ∧ i ≤ nI s - n))) ∧ h = h') := by
  suffices key : ∀ P : Option Value → AHp → Prop, (∀ r h', (r = some (.int (bz (0 ≤ i ∧ 0 ≤ n ∧ n ≤ nI s ∧ i ≤ nI s - n))) ∧ h = h') → P r h') → CP G m_X6_hasRange 1 0 0 [.ref S, .int i, .int n] h P from key _ (fun _ _ z => z)
  intro P hP
  refine CP.of (by decide +kernel) (Nat.le_of_ble_eq_true rfl) fun X hX hR hnm => ?_
  show V X G 3 0 0 _ 0 [some (.ref S), some (.int i), some (.int n)] [] h
  refine v_iload_n hX rfl qX6_hasRange_0 ?_
  refine v_if_ltS hX 30 qX6_hasRange_1 rfl (fun q1 => ?_) (fun q1 => ?_)
  · skip
    refine v_iconst hX li_0 qX6_hasRange_30 ?_
    refine v_zreturn hX (by first | exact Or.inl rfl | exact Or.inr rfl | exact bz01 _) qX6_hasRange_31 (hP _ _ ?_)
    first | exact ⟨congrArg (fun z => some (Value.int z)) (bz_t ⟨by assumption, by assumption, by assumption, by assumption⟩).symm, rfl⟩ | exact ⟨congrArg (fun z => some (Value.int z)) (bz_f (fun z => by first | exact absurd z.1 (Int32.not_le.mpr (by assumption)) | exact absurd z.2.1 (Int32.not_le.mpr (by assumption)) | exact absurd z.2.2.1 (Int32.not_le.mpr (by assumption)) | exact absurd z.2.2.2 (Int32.not_le.mpr (by assumption)))).symm, rfl⟩
  · skip
    refine v_iload_n hX rfl qX6_hasRange_4 ?_
    refine v_if_ltS hX 30 qX6_hasRange_5 rfl (fun q5 => ?_) (fun q5 => ?_)
    · skip
      refine v_iconst hX li_0 qX6_hasRange_30 ?_
      refine v_zreturn hX (by first | exact Or.inl rfl | exact Or.inr rfl | exact bz01 _) qX6_hasRange_31 (hP _ _ ?_)
      first | exact ⟨congrArg (fun z => some (Value.int z)) (bz_t ⟨by assumption, by assumption, by assumption, by assumption⟩).symm, rfl⟩ | exact ⟨congrArg (fun z => some (Value.int z)) (bz_f (fun z => by first | exact absurd z.1 (Int32.not_le.mpr (by assumption)) | exact absurd z.2.1 (Int32.not_le.mpr (by assumption)) | exact absurd z.2.2.1 (Int32.not_le.mpr (by assumption)) | exact absurd z.2.2.2 (Int32.not_le.mpr (by assumption)))).symm, rfl⟩
    · skip
      refine v_iload_n hX rfl qX6_hasRange_8 ?_
      refine v_aload_n hX rfl qX6_hasRange_9 ?_
      refine v_getIv hX g_X6_19 (Or.inl rfl) (hs.sk hS) hz qX6_hasRange_10 ?_
      refine v_icmp_gtS hX 30 qX6_hasRange_13 rfl (fun q13 => ?_) (fun q13 => ?_)
      · skip
        refine v_iconst hX li_0 qX6_hasRange_30 ?_
        refine v_zreturn hX (by first | exact Or.inl rfl | exact Or.inr rfl | exact bz01 _) qX6_hasRange_31 (hP _ _ ?_)
        first | exact ⟨congrArg (fun z => some (Value.int z)) (bz_t ⟨by assumption, by assumption, by assumption, by assumption⟩).symm, rfl⟩ | exact ⟨congrArg (fun z => some (Value.int z)) (bz_f (fun z => by first | exact absurd z.1 (Int32.not_le.mpr (by assumption)) | exact absurd z.2.1 (Int32.not_le.mpr (by assumption)) | exact absurd z.2.2.1 (Int32.not_le.mpr (by assumption)) | exact absurd z.2.2.2 (Int32.not_le.mpr (by assumption)))).symm, rfl⟩
      · skip
        refine v_iload_n hX rfl qX6_hasRange_16 ?_
        refine v_aload_n hX rfl qX6_hasRange_17 ?_
        refine v_getIv hX g_X6_19 (Or.inl rfl) (hs.sk hS) hz qX6_hasRange_18 ?_
        refine v_iload_n hX rfl qX6_hasRange_21 ?_
        refine v_isub hX qX6_hasRange_22 ?_
        refine v_icmp_gtS hX 30 qX6_hasRange_23 rfl (fun q23 => ?_) (fun q23 => ?_)
        · skip
          refine v_iconst hX li_0 qX6_hasRange_30 ?_
          refine v_zreturn hX (by first | exact Or.inl rfl | exact Or.inr rfl | exact bz01 _) qX6_hasRange_31 (hP _ _ ?_)
          first | exact ⟨congrArg (fun z => some (Value.int z)) (bz_t ⟨by assumption, by assumption, by assumption, by assumption⟩).symm, rfl⟩ | exact ⟨congrArg (fun z => some (Value.int z)) (bz_f (fun z => by first | exact absurd z.1 (Int32.not_le.mpr (by assumption)) | exact absurd z.2.1 (Int32.not_le.mpr (by assumption)) | exact absurd z.2.2.1 (Int32.not_le.mpr (by assumption)) | exact absurd z.2.2.2 (Int32.not_le.mpr (by assumption)))).symm, rfl⟩
        · skip
          refine v_iconst hX li_1 qX6_hasRange_26 ?_
          refine v_goto hX 31 qX6_hasRange_27 rfl ?_
          refine v_zreturn hX (by first | exact Or.inl rfl | exact Or.inr rfl | exact bz01 _) qX6_hasRange_31 (hP _ _ ?_)
          first | exact ⟨congrArg (fun z => some (Value.int z)) (bz_t ⟨by assumption, by assumption, by assumption, by assumption⟩).symm, rfl⟩ | exact ⟨congrArg (fun z => some (Value.int z)) (bz_f (fun z => by first | exact absurd z.1 (Int32.not_le.mpr (by assumption)) | exact absurd z.2.1 (Int32.not_le.mpr (by assumption)) | exact absurd z.2.2.1 (Int32.not_le.mpr (by assumption)) | exact absurd z.2.2.2 (Int32.not_le.mpr (by assumption)))).symm, rfl⟩
theorem qX6_itemAt_0 : Dq cX6_itemAt 0 (.aload_n 0) 1 1 := ⟨by decide +kernel, rfl⟩
theorem qX6_itemAt_1 : Dq cX6_itemAt 1 (.iload_n 1) 1 2 := ⟨by decide +kernel, rfl⟩
theorem qX6_itemAt_2 : Dq cX6_itemAt 2 (.invokevirtual 36) 3 5 := ⟨by decide +kernel, rfl⟩
theorem qX6_itemAt_5 : Dq cX6_itemAt 5 (.ifCond .eq 18) 3 8 := ⟨by decide +kernel, rfl⟩
theorem qX6_itemAt_8 : Dq cX6_itemAt 8 (.iload_n 1) 1 9 := ⟨by decide +kernel, rfl⟩
theorem qX6_itemAt_9 : Dq cX6_itemAt 9 (.bipush 40) 2 11 := ⟨by decide +kernel, rfl⟩
theorem qX6_itemAt_11 : Dq cX6_itemAt 11 (.if_icmp .ge 12) 3 14 := ⟨by decide +kernel, rfl⟩
theorem qX6_itemAt_14 : Dq cX6_itemAt 14 (.aload_n 0) 1 15 := ⟨by decide +kernel, rfl⟩
theorem qX6_itemAt_15 : Dq cX6_itemAt 15 (.getfield 9) 3 18 := ⟨by decide +kernel, rfl⟩
theorem qX6_itemAt_18 : Dq cX6_itemAt 18 (.iload_n 1) 1 19 := ⟨by decide +kernel, rfl⟩
theorem qX6_itemAt_19 : Dq cX6_itemAt 19 (.iaload) 1 20 := ⟨by decide +kernel, rfl⟩
theorem qX6_itemAt_20 : Dq cX6_itemAt 20 (.goto 4) 3 23 := ⟨by decide +kernel, rfl⟩
theorem qX6_itemAt_23 : Dq cX6_itemAt 23 (.iconst 0) 1 24 := ⟨by decide +kernel, rfl⟩
theorem qX6_itemAt_24 : Dq cX6_itemAt 24 (.ireturn) 1 25 := ⟨by decide +kernel, rfl⟩
set_option maxRecDepth 100000 in
set_option maxHeartbeats 4000000 in
theorem c_itemAt {G : Glb} {h : AHp} (hs : ShC h) {S : Nat} (hS : isS S) {s : Nat} (hz : hpI h S 2 = nI s) (hs40 : s ≤ 40) (i : Int32) : CP G m_X6_itemAt 3 0 0 [.ref S, .int i] h (fun r h' => r = some (.int (if 0 ≤ i ∧ i < nI s then hpI h (S + 1) (tn i) else 0)) ∧ h = h') := by
  suffices key : ∀ P : Option Value → AHp → Prop, (∀ r h', (r = some (.int (if 0 ≤ i ∧ i < nI s then hpI h (S + 1) (tn i) else 0)) ∧ h = h') → P r h') → CP G m_X6_itemAt 3 0 0 [.ref S, .int i] h P from key _ (fun _ _ z => z)
  intro P hP
  refine CP.of (by decide +kernel) (Nat.le_of_ble_eq_true rfl) fun X hX hR hnm => ?_
  show V X G 2 0 0 _ 0 [some (.ref S), some (.int i)] [] h
  refine v_aload_n hX rfl qX6_itemAt_0 ?_
  refine v_iload_n hX rfl qX6_itemAt_1 ?_
  refine v_callVq hX hR k_X6_36 (hs.sk hS) (c_hasItem hs hS (by assumption) (by assumption) _) rfl (Nat.le_of_ble_eq_true rfl) rfl (Nat.le_of_ble_eq_true rfl) ⟨Nat.le_of_ble_eq_true rfl, Nat.le_of_ble_eq_true rfl⟩ qX6_itemAt_2 ?_
  rintro _ _ ⟨rfl, rfl⟩
  first | refine v_if_eqB hX 23 qX6_itemAt_5 rfl (fun q5 => ?_) (fun q5 => ?_) | refine v_if_eq hX 23 qX6_itemAt_5 rfl (fun q5 => ?_) (fun q5 => ?_)
  · skip
    refine v_iconst hX li_0 qX6_itemAt_23 ?_
    refine v_ireturn hX qX6_itemAt_24 (hP _ _ ?_)
    first | exact ⟨by rw [if_pos q5, tn_nI (by omega)], rfl⟩ | exact ⟨by rw [if_neg q5], rfl⟩
  · obtain ⟨k, hk, rfl⟩ := ofRange q5.1 q5.2 (by omega)
    refine v_iload_n hX rfl qX6_itemAt_8 ?_
    refine v_bipush hX lb_40 qX6_itemAt_9 ?_
    refine v_icmp_geS hX 23 qX6_itemAt_11 rfl (fun q11 => ?_) (fun q11 => ?_)
    · exact absurd (nI_le' (i := 40) (by omega) (by omega) q11) (by omega)
    · skip
      refine v_aload_n hX rfl qX6_itemAt_14 ?_
      refine v_getR hX g_X6_9 (hs.sk hS) (hs.si hS) qX6_itemAt_15 ?_
      refine v_iload_n hX rfl qX6_itemAt_18 ?_
      refine v_ialdJ hX (hs.sik hS) (hs.sil hS) (by exact ix_n (n := k) (by omega) rfl) qX6_itemAt_19 ?_
      refine v_goto hX 24 qX6_itemAt_20 rfl ?_
      refine v_ireturn hX qX6_itemAt_24 (hP _ _ ?_)
      first | exact ⟨by rw [if_pos q5, tn_nI (by omega)], rfl⟩ | exact ⟨by rw [if_neg q5], rfl⟩
def nrw (s v : Int32) : Int32 := if s = 0 then v.toInt8.toInt32 else if s = 1 then v.toInt16.toInt32 else v
theorem qX6_narrowed_0 : Dq cX6_narrowed 0 (.aload_n 0) 1 1 := ⟨by decide +kernel, rfl⟩
theorem qX6_narrowed_1 : Dq cX6_narrowed 1 (.getfield 15) 3 4 := ⟨by decide +kernel, rfl⟩
theorem qX6_narrowed_4 : Dq cX6_narrowed 4 (.lookupswitch 34 #[(0, 28), (1, 31)]) 28 32 := ⟨by decide +kernel, rfl⟩
theorem qX6_narrowed_32 : Dq cX6_narrowed 32 (.iload_n 1) 1 33 := ⟨by decide +kernel, rfl⟩
theorem qX6_narrowed_33 : Dq cX6_narrowed 33 (.i2b) 1 34 := ⟨by decide +kernel, rfl⟩
theorem qX6_narrowed_34 : Dq cX6_narrowed 34 (.ireturn) 1 35 := ⟨by decide +kernel, rfl⟩
theorem qX6_narrowed_35 : Dq cX6_narrowed 35 (.iload_n 1) 1 36 := ⟨by decide +kernel, rfl⟩
theorem qX6_narrowed_36 : Dq cX6_narrowed 36 (.i2s) 1 37 := ⟨by decide +kernel, rfl⟩
theorem qX6_narrowed_37 : Dq cX6_narrowed 37 (.ireturn) 1 38 := ⟨by decide +kernel, rfl⟩
theorem qX6_narrowed_38 : Dq cX6_narrowed 38 (.iload_n 1) 1 39 := ⟨by decide +kernel, rfl⟩
theorem qX6_narrowed_39 : Dq cX6_narrowed 39 (.ireturn) 1 40 := ⟨by decide +kernel, rfl⟩
set_option maxRecDepth 100000 in
set_option maxHeartbeats 4000000 in
theorem c_narrowed {G : Glb} {h : AHp} (hs : ShC h) {S : Nat} (hS : isS S) (v : Int32) : CP G m_X6_narrowed 1 0 0 [.ref S, .int v] h (fun r h' => r = some (.int (nrw (hpI h S 1) v)) ∧ h = h') := by
  suffices key : ∀ P : Option Value → AHp → Prop, (∀ r h', (r = some (.int (nrw (hpI h S 1) v)) ∧ h = h') → P r h') → CP G m_X6_narrowed 1 0 0 [.ref S, .int v] h P from key _ (fun _ _ z => z)
  intro P hP
  refine CP.of (by decide +kernel) (Nat.le_of_ble_eq_true rfl) fun X hX hR hnm => ?_
  show V X G 2 0 0 _ 0 [some (.ref S), some (.int v)] [] h
  refine v_aload_n hX rfl qX6_narrowed_0 ?_
  refine v_getI hX g_X6_15 (Or.inl rfl) (hs.sk hS) qX6_narrowed_1 ?_
  refine v_case (0 : Int32) (fun q4 => ?_) (fun q4_0 => ?_)
  · skip
    refine v_lookup (off := 28) hX 32 qX6_narrowed_4 (by decide) (by first | exact (by rw [q4]; rfl) | rfl) rfl ?_
    refine v_iload_n hX rfl qX6_narrowed_32 ?_
    refine v_i2b hX qX6_narrowed_33 ?_
    refine v_ireturn hX qX6_narrowed_34 (hP _ _ ?_)
    exact ⟨by rw [nrw, if_pos q4], rfl⟩
  refine v_case (1 : Int32) (fun q4 => ?_) (fun q4_1 => ?_)
  · skip
    refine v_lookup (off := 31) hX 35 qX6_narrowed_4 (by decide) (by first | exact (by rw [q4]; rfl) | rfl) rfl ?_
    refine v_iload_n hX rfl qX6_narrowed_35 ?_
    refine v_i2s hX qX6_narrowed_36 ?_
    refine v_ireturn hX qX6_narrowed_37 (hP _ _ ?_)
    exact ⟨by rw [nrw, if_neg q4_0, if_pos q4], rfl⟩
  refine v_lookup (off := 34) hX 38 qX6_narrowed_4 (by decide) ?_ rfl ?_
  · have z0 := ne_i (0) (by decide) q4_0; have z1 := ne_i (1) (by decide) q4_1; refine lk_out _ (fun q hq => ?_); simp at hq; rcases hq with rfl | rfl <;> assumption
  refine v_iload_n hX rfl qX6_narrowed_38 ?_
  refine v_ireturn hX qX6_narrowed_39 (hP _ _ ?_)
  exact ⟨by rw [nrw, if_neg q4_0, if_neg q4_1], rfl⟩
theorem qX6_put_0 : Dq cX6_put 0 (.aload_n 0) 1 1 := ⟨by decide +kernel, rfl⟩
theorem qX6_put_1 : Dq cX6_put 1 (.iload_n 1) 1 2 := ⟨by decide +kernel, rfl⟩
theorem qX6_put_2 : Dq cX6_put 2 (.invokevirtual 36) 3 5 := ⟨by decide +kernel, rfl⟩
theorem qX6_put_5 : Dq cX6_put 5 (.ifCond .eq 20) 3 8 := ⟨by decide +kernel, rfl⟩
theorem qX6_put_8 : Dq cX6_put 8 (.iload_n 1) 1 9 := ⟨by decide +kernel, rfl⟩
theorem qX6_put_9 : Dq cX6_put 9 (.bipush 40) 2 11 := ⟨by decide +kernel, rfl⟩
theorem qX6_put_11 : Dq cX6_put 11 (.if_icmp .ge 14) 3 14 := ⟨by decide +kernel, rfl⟩
theorem qX6_put_14 : Dq cX6_put 14 (.aload_n 0) 1 15 := ⟨by decide +kernel, rfl⟩
theorem qX6_put_15 : Dq cX6_put 15 (.getfield 9) 3 18 := ⟨by decide +kernel, rfl⟩
theorem qX6_put_18 : Dq cX6_put 18 (.iload_n 1) 1 19 := ⟨by decide +kernel, rfl⟩
theorem qX6_put_19 : Dq cX6_put 19 (.aload_n 0) 1 20 := ⟨by decide +kernel, rfl⟩
theorem qX6_put_20 : Dq cX6_put 20 (.iload_n 2) 1 21 := ⟨by decide +kernel, rfl⟩
theorem qX6_put_21 : Dq cX6_put 21 (.invokevirtual 40) 3 24 := ⟨by decide +kernel, rfl⟩
theorem qX6_put_24 : Dq cX6_put 24 (.iastore) 1 25 := ⟨by decide +kernel, rfl⟩
theorem qX6_put_25 : Dq cX6_put 25 (.return_) 1 26 := ⟨by decide +kernel, rfl⟩
set_option maxRecDepth 100000 in
set_option maxHeartbeats 4000000 in
theorem c_put {G : Glb} {h : AHp} (hs : ShC h) {S : Nat} (hS : isS S) {s : Nat} (hz : hpI h S 2 = nI s) (hs40 : s ≤ 40) {k : Nat} (hk : k < s) (v : Int32) : CP G m_X6_put 3 0 0 [.ref S, .int (nI k), .int v] h (fun r h' => r = none ∧ stI h (S + 1) k (nrw (hpI h S 1) v) = h') := by
  suffices key : ∀ P : Option Value → AHp → Prop, (∀ r h', (r = none ∧ stI h (S + 1) k (nrw (hpI h S 1) v) = h') → P r h') → CP G m_X6_put 3 0 0 [.ref S, .int (nI k), .int v] h P from key _ (fun _ _ z => z)
  intro P hP
  refine CP.of (by decide +kernel) (Nat.le_of_ble_eq_true rfl) fun X hX hR hnm => ?_
  show V X G 3 0 0 _ 0 [some (.ref S), some (.int (nI k)), some (.int v)] [] h
  refine v_aload_n hX rfl qX6_put_0 ?_
  refine v_iload_n hX rfl qX6_put_1 ?_
  refine v_callVq hX hR k_X6_36 (hs.sk hS) (c_hasItem hs hS (by assumption) (by assumption) _) rfl (Nat.le_of_ble_eq_true rfl) rfl (Nat.le_of_ble_eq_true rfl) ⟨Nat.le_of_ble_eq_true rfl, Nat.le_of_ble_eq_true rfl⟩ qX6_put_2 ?_
  rintro _ _ ⟨rfl, rfl⟩
  first | refine v_if_eqB hX 25 qX6_put_5 rfl (fun q5 => ?_) (fun q5 => ?_) | refine v_if_eq hX 25 qX6_put_5 rfl (fun q5 => ?_) (fun q5 => ?_)
  · exact absurd ⟨nI_pos' (by omega), nI_lt hk (by omega)⟩ q5
  · skip
    refine v_iload_n hX rfl qX6_put_8 ?_
    refine v_bipush hX lb_40 qX6_put_9 ?_
    refine v_icmp_geS hX 25 qX6_put_11 rfl (fun q11 => ?_) (fun q11 => ?_)
    · exact absurd (nI_le' (i := 40) (by omega) (by omega) q11) (by omega)
    · skip
      refine v_aload_n hX rfl qX6_put_14 ?_
      refine v_getR hX g_X6_9 (hs.sk hS) (hs.si hS) qX6_put_15 ?_
      refine v_iload_n hX rfl qX6_put_18 ?_
      refine v_aload_n hX rfl qX6_put_19 ?_
      refine v_iload_n hX rfl qX6_put_20 ?_
      refine v_callVq hX hR k_X6_40 (hs.sk hS) (c_narrowed hs hS _) rfl (Nat.le_of_ble_eq_true rfl) rfl (Nat.le_of_ble_eq_true rfl) ⟨Nat.le_of_ble_eq_true rfl, Nat.le_of_ble_eq_true rfl⟩ qX6_put_21 ?_
      rintro _ _ ⟨rfl, rfl⟩
      refine v_iastJ hX (hs.sik hS) (hs.sil hS) (by exact ix_n (n := k) (by omega) rfl) qX6_put_24 ?_
      refine v_return hX qX6_put_25 (hP _ _ ?_)
      exact ⟨rfl, rfl⟩
/-- the i-th looker of the party lies at e i, of kind k i and number n i; there are m -/
def Pty (h : AHp) (m : Nat) (e k : Nat → Nat) (n : Nat → Int32) : Prop := hpI h 0 5 = nI m ∧ m ≤ 6 ∧ ∀ i, i < m → hpR h 10 i = some (e i) ∧ k i < 6 ∧ Kd h (e i) (kcl (k i)) ∧ hpI h (e i) 0 = n i
theorem qX11_lookerAt_0 : Dq cX11_lookerAt 0 (.iload_n 1) 1 1 := ⟨by decide +kernel, rfl⟩
theorem qX11_lookerAt_1 : Dq cX11_lookerAt 1 (.iconst 0) 1 2 := ⟨by decide +kernel, rfl⟩
theorem qX11_lookerAt_2 : Dq cX11_lookerAt 2 (.aload_n 0) 1 3 := ⟨by decide +kernel, rfl⟩
theorem qX11_lookerAt_3 : Dq cX11_lookerAt 3 (.getfield 134) 3 6 := ⟨by decide +kernel, rfl⟩
theorem qX11_lookerAt_6 : Dq cX11_lookerAt 6 (.iconst 1) 1 7 := ⟨by decide +kernel, rfl⟩
theorem qX11_lookerAt_7 : Dq cX11_lookerAt 7 (.isub) 1 8 := ⟨by decide +kernel, rfl⟩
theorem qX11_lookerAt_8 : Dq cX11_lookerAt 8 (.invokestatic 110) 3 11 := ⟨by decide +kernel, rfl⟩
theorem qX11_lookerAt_11 : Dq cX11_lookerAt 11 (.ifCond .eq 12) 3 14 := ⟨by decide +kernel, rfl⟩
theorem qX11_lookerAt_14 : Dq cX11_lookerAt 14 (.aload_n 0) 1 15 := ⟨by decide +kernel, rfl⟩
theorem qX11_lookerAt_15 : Dq cX11_lookerAt 15 (.getfield 24) 3 18 := ⟨by decide +kernel, rfl⟩
theorem qX11_lookerAt_18 : Dq cX11_lookerAt 18 (.iload_n 1) 1 19 := ⟨by decide +kernel, rfl⟩
theorem qX11_lookerAt_19 : Dq cX11_lookerAt 19 (.aaload) 1 20 := ⟨by decide +kernel, rfl⟩
theorem qX11_lookerAt_20 : Dq cX11_lookerAt 20 (.goto 4) 3 23 := ⟨by decide +kernel, rfl⟩
theorem qX11_lookerAt_23 : Dq cX11_lookerAt 23 (.aconst_null) 1 24 := ⟨by decide +kernel, rfl⟩
theorem qX11_lookerAt_24 : Dq cX11_lookerAt 24 (.areturn) 1 25 := ⟨by decide +kernel, rfl⟩
set_option maxRecDepth 100000 in
set_option maxHeartbeats 4000000 in
theorem c_lookerAt {G : Glb} {h : AHp} (hs : ShC h) {m : Nat} {e kd : Nat → Nat} {nu : Nat → Int32} (hp : Pty h m e kd nu) (i : Int32) : CP G m_X11_lookerAt 2 0 0 [.ref 0, .int i] h (fun r h' => ((∃ j, j < m ∧ i = nI j ∧ r = some (.ref (e j))) ∨ (¬ (0 ≤ i ∧ i < nI m) ∧ r = some .null)) ∧ h = h') := by
  suffices key : ∀ P : Option Value → AHp → Prop, (∀ r h', (((∃ j, j < m ∧ i = nI j ∧ r = some (.ref (e j))) ∨ (¬ (0 ≤ i ∧ i < nI m) ∧ r = some .null)) ∧ h = h') → P r h') → CP G m_X11_lookerAt 2 0 0 [.ref 0, .int i] h P from key _ (fun _ _ z => z)
  intro P hP
  refine CP.of (by decide +kernel) (Nat.le_of_ble_eq_true rfl) fun X hX hR hnm => ?_
  show V X G 2 0 0 _ 0 [some (.ref 0), some (.int i)] [] h
  refine v_iload_n hX rfl qX11_lookerAt_0 ?_
  refine v_iconst hX li_0 qX11_lookerAt_1 ?_
  refine v_aload_n hX rfl qX11_lookerAt_2 ?_
  refine v_getIv hX g_X11_134 (Or.inl rfl) (hs.kd 0 rfl) hp.1 qX11_lookerAt_3 ?_
  refine v_iconst hX li_1 qX11_lookerAt_6 ?_
  refine v_isub hX qX11_lookerAt_7 ?_
  refine v_callSq hX hR k_X11_110 (c_isWithin _ _ _) rfl (Nat.le_of_ble_eq_true rfl) rfl (Nat.le_of_ble_eq_true rfl) ⟨Nat.le_of_ble_eq_true rfl, Nat.le_of_ble_eq_true rfl⟩ qX11_lookerAt_8 ?_
  rintro _ _ ⟨rfl, rfl⟩
  first | refine v_if_eqB hX 23 qX11_lookerAt_11 rfl (fun q11 => ?_) (fun q11 => ?_) | refine v_if_eq hX 23 qX11_lookerAt_11 rfl (fun q11 => ?_) (fun q11 => ?_)
  · have q := fun z : 0 ≤ i ∧ i < nI m => q11 ⟨z.1, (leM1 (by have := hp.2.1; omega)).mpr z.2⟩
    refine v_null hX qX11_lookerAt_23 ?_
    refine v_areturn hX (by first | exact Or.inl rfl | exact Or.inr ⟨_, rfl⟩) qX11_lookerAt_24 (hP _ _ ?_)
    first | exact ⟨Or.inl ⟨j, hj, rfl, rfl⟩, rfl⟩ | exact ⟨Or.inr ⟨q, rfl⟩, rfl⟩
  · have hm6 := hp.2.1; obtain ⟨j, hj, rfl⟩ := ofRange q11.1 ((leM1 (by omega)).mp q11.2) (by omega)
    refine v_aload_n hX rfl qX11_lookerAt_14 ?_
    refine v_getR hX g_X11_24 (hs.kd 0 rfl) (hs.rf 3 rfl) qX11_lookerAt_15 ?_
    refine v_iload_n hX rfl qX11_lookerAt_18 ?_
    refine v_aald hX (Or.inl rfl) (hs.kd 10 rfl) (hs.ln 10 rfl) (vp_in_nI (n := j) (by omega) (by omega)) (r := some (e j)) (by rw [nI_clamp (by omega)]; exact (hp.2.2 j hj).1) qX11_lookerAt_19 ?_
    refine v_goto hX 24 qX11_lookerAt_20 rfl ?_
    refine v_areturn hX (by first | exact Or.inl rfl | exact Or.inr ⟨_, rfl⟩) qX11_lookerAt_24 (hP _ _ ?_)
    first | exact ⟨Or.inl ⟨j, hj, rfl, rfl⟩, rfl⟩ | exact ⟨Or.inr ⟨q, rfl⟩, rfl⟩
