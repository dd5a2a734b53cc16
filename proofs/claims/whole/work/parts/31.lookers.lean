/-! lookers that come; copy -/
theorem qX1_init_0 : Dq cX1_init 0 (.aload_n 0) 1 1 := ⟨by decide +kernel, rfl⟩
theorem qX1_init_1 : Dq cX1_init 1 (.invokespecial 1) 3 4 := ⟨by decide +kernel, rfl⟩
theorem qX1_init_4 : Dq cX1_init 4 (.aload_n 0) 1 5 := ⟨by decide +kernel, rfl⟩
theorem qX1_init_5 : Dq cX1_init 5 (.iload_n 1) 1 6 := ⟨by decide +kernel, rfl⟩
theorem qX1_init_6 : Dq cX1_init 6 (.putfield 7) 3 9 := ⟨by decide +kernel, rfl⟩
theorem qX1_init_9 : Dq cX1_init 9 (.return_) 1 10 := ⟨by decide +kernel, rfl⟩
set_option maxRecDepth 100000 in
set_option maxHeartbeats 4000000 in
theorem c_X1_init_1 {G : Glb} {h : AHp} {a : Nat} (hk : Kd h a 1) (n : Int32) : CP G m_X1_init 2 0 0 [.ref a, .int n] h (fun r h' => r = none ∧ stI h a 0 n = h') := by
  suffices key : ∀ P : Option Value → AHp → Prop, (∀ r h', (r = none ∧ stI h a 0 n = h') → P r h') → CP G m_X1_init 2 0 0 [.ref a, .int n] h P from key _ (fun _ _ z => z)
  intro P hP
  refine CP.of (by decide +kernel) (Nat.le_of_ble_eq_true rfl) fun X hX hR hnm => ?_
  show V X G 2 0 0 _ 0 [some (.ref a), some (.int n)] [] h
  refine v_aload_n hX rfl qX1_init_0 ?_
  refine v_objInit hX hR (Nat.le_of_ble_eq_true rfl) k_X1_1 (Nat.le_of_ble_eq_true rfl) qX1_init_1 ?_
  refine v_aload_n hX rfl qX1_init_4 ?_
  refine v_iload_n hX rfl qX1_init_5 ?_
  refine v_putI hX p_X1_7_1 hk (Or.inr hnm) qX1_init_6 ?_
  refine v_return hX qX1_init_9 (hP _ _ ?_)
  exact ⟨rfl, rfl⟩
set_option maxRecDepth 100000 in
set_option maxHeartbeats 4000000 in
theorem c_X1_init_2 {G : Glb} {h : AHp} {a : Nat} (hk : Kd h a 2) (n : Int32) : CP G m_X1_init 2 0 0 [.ref a, .int n] h (fun r h' => r = none ∧ stI h a 0 n = h') := by
  suffices key : ∀ P : Option Value → AHp → Prop, (∀ r h', (r = none ∧ stI h a 0 n = h') → P r h') → CP G m_X1_init 2 0 0 [.ref a, .int n] h P from key _ (fun _ _ z => z)
  intro P hP
  refine CP.of (by decide +kernel) (Nat.le_of_ble_eq_true rfl) fun X hX hR hnm => ?_
  show V X G 2 0 0 _ 0 [some (.ref a), some (.int n)] [] h
  refine v_aload_n hX rfl qX1_init_0 ?_
  refine v_objInit hX hR (Nat.le_of_ble_eq_true rfl) k_X1_1 (Nat.le_of_ble_eq_true rfl) qX1_init_1 ?_
  refine v_aload_n hX rfl qX1_init_4 ?_
  refine v_iload_n hX rfl qX1_init_5 ?_
  refine v_putI hX p_X1_7_2 hk (Or.inr hnm) qX1_init_6 ?_
  refine v_return hX qX1_init_9 (hP _ _ ?_)
  exact ⟨rfl, rfl⟩
set_option maxRecDepth 100000 in
set_option maxHeartbeats 4000000 in
theorem c_X1_init_7 {G : Glb} {h : AHp} {a : Nat} (hk : Kd h a 7) (n : Int32) : CP G m_X1_init 2 0 0 [.ref a, .int n] h (fun r h' => r = none ∧ stI h a 0 n = h') := by
  suffices key : ∀ P : Option Value → AHp → Prop, (∀ r h', (r = none ∧ stI h a 0 n = h') → P r h') → CP G m_X1_init 2 0 0 [.ref a, .int n] h P from key _ (fun _ _ z => z)
  intro P hP
  refine CP.of (by decide +kernel) (Nat.le_of_ble_eq_true rfl) fun X hX hR hnm => ?_
  show V X G 2 0 0 _ 0 [some (.ref a), some (.int n)] [] h
  refine v_aload_n hX rfl qX1_init_0 ?_
  refine v_objInit hX hR (Nat.le_of_ble_eq_true rfl) k_X1_1 (Nat.le_of_ble_eq_true rfl) qX1_init_1 ?_
  refine v_aload_n hX rfl qX1_init_4 ?_
  refine v_iload_n hX rfl qX1_init_5 ?_
  refine v_putI hX p_X1_7_7 hk (Or.inr hnm) qX1_init_6 ?_
  refine v_return hX qX1_init_9 (hP _ _ ?_)
  exact ⟨rfl, rfl⟩
set_option maxRecDepth 100000 in
set_option maxHeartbeats 4000000 in
theorem c_X1_init_4 {G : Glb} {h : AHp} {a : Nat} (hk : Kd h a 4) (n : Int32) : CP G m_X1_init 2 0 0 [.ref a, .int n] h (fun r h' => r = none ∧ stI h a 0 n = h') := by
  suffices key : ∀ P : Option Value → AHp → Prop, (∀ r h', (r = none ∧ stI h a 0 n = h') → P r h') → CP G m_X1_init 2 0 0 [.ref a, .int n] h P from key _ (fun _ _ z => z)
  intro P hP
  refine CP.of (by decide +kernel) (Nat.le_of_ble_eq_true rfl) fun X hX hR hnm => ?_
  show V X G 2 0 0 _ 0 [some (.ref a), some (.int n)] [] h
  refine v_aload_n hX rfl qX1_init_0 ?_
  refine v_objInit hX hR (Nat.le_of_ble_eq_true rfl) k_X1_1 (Nat.le_of_ble_eq_true rfl) qX1_init_1 ?_
  refine v_aload_n hX rfl qX1_init_4 ?_
  refine v_iload_n hX rfl qX1_init_5 ?_
  refine v_putI hX p_X1_7_4 hk (Or.inr hnm) qX1_init_6 ?_
  refine v_return hX qX1_init_9 (hP _ _ ?_)
  exact ⟨rfl, rfl⟩
set_option maxRecDepth 100000 in
set_option maxHeartbeats 4000000 in
theorem c_X1_init_8 {G : Glb} {h : AHp} {a : Nat} (hk : Kd h a 8) (n : Int32) : CP G m_X1_init 2 0 0 [.ref a, .int n] h (fun r h' => r = none ∧ stI h a 0 n = h') := by
  suffices key : ∀ P : Option Value → AHp → Prop, (∀ r h', (r = none ∧ stI h a 0 n = h') → P r h') → CP G m_X1_init 2 0 0 [.ref a, .int n] h P from key _ (fun _ _ z => z)
  intro P hP
  refine CP.of (by decide +kernel) (Nat.le_of_ble_eq_true rfl) fun X hX hR hnm => ?_
  show V X G 2 0 0 _ 0 [some (.ref a), some (.int n)] [] h
  refine v_aload_n hX rfl qX1_init_0 ?_
  refine v_objInit hX hR (Nat.le_of_ble_eq_true rfl) k_X1_1 (Nat.le_of_ble_eq_true rfl) qX1_init_1 ?_
  refine v_aload_n hX rfl qX1_init_4 ?_
  refine v_iload_n hX rfl qX1_init_5 ?_
  refine v_putI hX p_X1_7_8 hk (Or.inr hnm) qX1_init_6 ?_
  refine v_return hX qX1_init_9 (hP _ _ ?_)
  exact ⟨rfl, rfl⟩
set_option maxRecDepth 100000 in
set_option maxHeartbeats 4000000 in
theorem c_X1_init_3 {G : Glb} {h : AHp} {a : Nat} (hk : Kd h a 3) (n : Int32) : CP G m_X1_init 2 0 0 [.ref a, .int n] h (fun r h' => r = none ∧ stI h a 0 n = h') := by
  suffices key : ∀ P : Option Value → AHp → Prop, (∀ r h', (r = none ∧ stI h a 0 n = h') → P r h') → CP G m_X1_init 2 0 0 [.ref a, .int n] h P from key _ (fun _ _ z => z)
  intro P hP
  refine CP.of (by decide +kernel) (Nat.le_of_ble_eq_true rfl) fun X hX hR hnm => ?_
  show V X G 2 0 0 _ 0 [some (.ref a), some (.int n)] [] h
  refine v_aload_n hX rfl qX1_init_0 ?_
  refine v_objInit hX hR (Nat.le_of_ble_eq_true rfl) k_X1_1 (Nat.le_of_ble_eq_true rfl) qX1_init_1 ?_
  refine v_aload_n hX rfl qX1_init_4 ?_
  refine v_iload_n hX rfl qX1_init_5 ?_
  refine v_putI hX p_X1_7_3 hk (Or.inr hnm) qX1_init_6 ?_
  refine v_return hX qX1_init_9 (hP _ _ ?_)
  exact ⟨rfl, rfl⟩
theorem qX2_init_0 : Dq cX2_init 0 (.aload_n 0) 1 1 := ⟨by decide +kernel, rfl⟩
theorem qX2_init_1 : Dq cX2_init 1 (.iload_n 1) 1 2 := ⟨by decide +kernel, rfl⟩
theorem qX2_init_2 : Dq cX2_init 2 (.invokespecial 1) 3 5 := ⟨by decide +kernel, rfl⟩
theorem qX2_init_5 : Dq cX2_init 5 (.return_) 1 6 := ⟨by decide +kernel, rfl⟩
set_option maxRecDepth 100000 in
set_option maxHeartbeats 4000000 in
theorem c_X2_init_2 {G : Glb} {h : AHp} {a : Nat} (hk : Kd h a 2) (n : Int32) : CP G m_X2_init 3 0 0 [.ref a, .int n] h (fun r h' => r = none ∧ stI h a 0 n = h') := by
  suffices key : ∀ P : Option Value → AHp → Prop, (∀ r h', (r = none ∧ stI h a 0 n = h') → P r h') → CP G m_X2_init 3 0 0 [.ref a, .int n] h P from key _ (fun _ _ z => z)
  intro P hP
  refine CP.of (by decide +kernel) (Nat.le_of_ble_eq_true rfl) fun X hX hR hnm => ?_
  show V X G 2 0 0 _ 0 [some (.ref a), some (.int n)] [] h
  refine v_aload_n hX rfl qX2_init_0 ?_
  refine v_iload_n hX rfl qX2_init_1 ?_
  refine v_callCq hX hR k_X2_1 (c_X1_init_2 (by exact hk) _) rfl (Nat.le_of_ble_eq_true rfl) rfl (Nat.le_of_ble_eq_true rfl) ⟨Nat.le_of_ble_eq_true rfl, Nat.le_of_ble_eq_true rfl⟩ qX2_init_2 ?_
  rintro _ _ ⟨rfl, rfl⟩
  refine v_return hX qX2_init_5 (hP _ _ ?_)
  exact ⟨rfl, rfl⟩
set_option maxRecDepth 100000 in
set_option maxHeartbeats 4000000 in
theorem c_X2_init_7 {G : Glb} {h : AHp} {a : Nat} (hk : Kd h a 7) (n : Int32) : CP G m_X2_init 3 0 0 [.ref a, .int n] h (fun r h' => r = none ∧ stI h a 0 n = h') := by
  suffices key : ∀ P : Option Value → AHp → Prop, (∀ r h', (r = none ∧ stI h a 0 n = h') → P r h') → CP G m_X2_init 3 0 0 [.ref a, .int n] h P from key _ (fun _ _ z => z)
  intro P hP
  refine CP.of (by decide +kernel) (Nat.le_of_ble_eq_true rfl) fun X hX hR hnm => ?_
  show V X G 2 0 0 _ 0 [some (.ref a), some (.int n)] [] h
  refine v_aload_n hX rfl qX2_init_0 ?_
  refine v_iload_n hX rfl qX2_init_1 ?_
  refine v_callCq hX hR k_X2_1 (c_X1_init_7 (by exact hk) _) rfl (Nat.le_of_ble_eq_true rfl) rfl (Nat.le_of_ble_eq_true rfl) ⟨Nat.le_of_ble_eq_true rfl, Nat.le_of_ble_eq_true rfl⟩ qX2_init_2 ?_
  rintro _ _ ⟨rfl, rfl⟩
  refine v_return hX qX2_init_5 (hP _ _ ?_)
  exact ⟨rfl, rfl⟩
set_option maxRecDepth 100000 in
set_option maxHeartbeats 4000000 in
theorem c_X2_init_8 {G : Glb} {h : AHp} {a : Nat} (hk : Kd h a 8) (n : Int32) : CP G m_X2_init 3 0 0 [.ref a, .int n] h (fun r h' => r = none ∧ stI h a 0 n = h') := by
  suffices key : ∀ P : Option Value → AHp → Prop, (∀ r h', (r = none ∧ stI h a 0 n = h') → P r h') → CP G m_X2_init 3 0 0 [.ref a, .int n] h P from key _ (fun _ _ z => z)
  intro P hP
  refine CP.of (by decide +kernel) (Nat.le_of_ble_eq_true rfl) fun X hX hR hnm => ?_
  show V X G 2 0 0 _ 0 [some (.ref a), some (.int n)] [] h
  refine v_aload_n hX rfl qX2_init_0 ?_
  refine v_iload_n hX rfl qX2_init_1 ?_
  refine v_callCq hX hR k_X2_1 (c_X1_init_8 (by exact hk) _) rfl (Nat.le_of_ble_eq_true rfl) rfl (Nat.le_of_ble_eq_true rfl) ⟨Nat.le_of_ble_eq_true rfl, Nat.le_of_ble_eq_true rfl⟩ qX2_init_2 ?_
  rintro _ _ ⟨rfl, rfl⟩
  refine v_return hX qX2_init_5 (hP _ _ ?_)
  exact ⟨rfl, rfl⟩
theorem qX4_init_0 : Dq cX4_init 0 (.aload_n 0) 1 1 := ⟨by decide +kernel, rfl⟩
theorem qX4_init_1 : Dq cX4_init 1 (.iload_n 1) 1 2 := ⟨by decide +kernel, rfl⟩
theorem qX4_init_2 : Dq cX4_init 2 (.invokespecial 1) 3 5 := ⟨by decide +kernel, rfl⟩
theorem qX4_init_5 : Dq cX4_init 5 (.return_) 1 6 := ⟨by decide +kernel, rfl⟩
set_option maxRecDepth 100000 in
set_option maxHeartbeats 4000000 in
theorem c_X4_init_4 {G : Glb} {h : AHp} {a : Nat} (hk : Kd h a 4) (n : Int32) : CP G m_X4_init 3 0 0 [.ref a, .int n] h (fun r h' => r = none ∧ stI h a 0 n = h') := by
  suffices key : ∀ P : Option Value → AHp → Prop, (∀ r h', (r = none ∧ stI h a 0 n = h') → P r h') → CP G m_X4_init 3 0 0 [.ref a, .int n] h P from key _ (fun _ _ z => z)
  intro P hP
  refine CP.of (by decide +kernel) (Nat.le_of_ble_eq_true rfl) fun X hX hR hnm => ?_
  show V X G 2 0 0 _ 0 [some (.ref a), some (.int n)] [] h
  refine v_aload_n hX rfl qX4_init_0 ?_
  refine v_iload_n hX rfl qX4_init_1 ?_
  refine v_callCq hX hR k_X4_1 (c_X1_init_4 (by exact hk) _) rfl (Nat.le_of_ble_eq_true rfl) rfl (Nat.le_of_ble_eq_true rfl) ⟨Nat.le_of_ble_eq_true rfl, Nat.le_of_ble_eq_true rfl⟩ qX4_init_2 ?_
  rintro _ _ ⟨rfl, rfl⟩
  refine v_return hX qX4_init_5 (hP _ _ ?_)
  exact ⟨rfl, rfl⟩
set_option maxRecDepth 100000 in
set_option maxHeartbeats 4000000 in
theorem c_X4_init_3 {G : Glb} {h : AHp} {a : Nat} (hk : Kd h a 3) (n : Int32) : CP G m_X4_init 3 0 0 [.ref a, .int n] h (fun r h' => r = none ∧ stI h a 0 n = h') := by
  suffices key : ∀ P : Option Value → AHp → Prop, (∀ r h', (r = none ∧ stI h a 0 n = h') → P r h') → CP G m_X4_init 3 0 0 [.ref a, .int n] h P from key _ (fun _ _ z => z)
  intro P hP
  refine CP.of (by decide +kernel) (Nat.le_of_ble_eq_true rfl) fun X hX hR hnm => ?_
  show V X G 2 0 0 _ 0 [some (.ref a), some (.int n)] [] h
  refine v_aload_n hX rfl qX4_init_0 ?_
  refine v_iload_n hX rfl qX4_init_1 ?_
  refine v_callCq hX hR k_X4_1 (c_X1_init_3 (by exact hk) _) rfl (Nat.le_of_ble_eq_true rfl) rfl (Nat.le_of_ble_eq_true rfl) ⟨Nat.le_of_ble_eq_true rfl, Nat.le_of_ble_eq_true rfl⟩ qX4_init_2 ?_
  rintro _ _ ⟨rfl, rfl⟩
  refine v_return hX qX4_init_5 (hP _ _ ?_)
  exact ⟨rfl, rfl⟩
theorem qX7_init_0 : Dq cX7_init 0 (.aload_n 0) 1 1 := ⟨by decide +kernel, rfl⟩
theorem qX7_init_1 : Dq cX7_init 1 (.iload_n 1) 1 2 := ⟨by decide +kernel, rfl⟩
theorem qX7_init_2 : Dq cX7_init 2 (.invokespecial 1) 3 5 := ⟨by decide +kernel, rfl⟩
theorem qX7_init_5 : Dq cX7_init 5 (.return_) 1 6 := ⟨by decide +kernel, rfl⟩
set_option maxRecDepth 100000 in
set_option maxHeartbeats 4000000 in
theorem c_X7_init_7 {G : Glb} {h : AHp} {a : Nat} (hk : Kd h a 7) (n : Int32) : CP G m_X7_init 4 0 0 [.ref a, .int n] h (fun r h' => r = none ∧ stI h a 0 n = h') := by
  suffices key : ∀ P : Option Value → AHp → Prop, (∀ r h', (r = none ∧ stI h a 0 n = h') → P r h') → CP G m_X7_init 4 0 0 [.ref a, .int n] h P from key _ (fun _ _ z => z)
  intro P hP
  refine CP.of (by decide +kernel) (Nat.le_of_ble_eq_true rfl) fun X hX hR hnm => ?_
  show V X G 2 0 0 _ 0 [some (.ref a), some (.int n)] [] h
  refine v_aload_n hX rfl qX7_init_0 ?_
  refine v_iload_n hX rfl qX7_init_1 ?_
  refine v_callCq hX hR k_X7_1 (c_X2_init_7 (by exact hk) _) rfl (Nat.le_of_ble_eq_true rfl) rfl (Nat.le_of_ble_eq_true rfl) ⟨Nat.le_of_ble_eq_true rfl, Nat.le_of_ble_eq_true rfl⟩ qX7_init_2 ?_
  rintro _ _ ⟨rfl, rfl⟩
  refine v_return hX qX7_init_5 (hP _ _ ?_)
  exact ⟨rfl, rfl⟩
theorem qX8_init_0 : Dq cX8_init 0 (.aload_n 0) 1 1 := ⟨by decide +kernel, rfl⟩
theorem qX8_init_1 : Dq cX8_init 1 (.iload_n 1) 1 2 := ⟨by decide +kernel, rfl⟩
theorem qX8_init_2 : Dq cX8_init 2 (.invokespecial 1) 3 5 := ⟨by decide +kernel, rfl⟩
theorem qX8_init_5 : Dq cX8_init 5 (.return_) 1 6 := ⟨by decide +kernel, rfl⟩
set_option maxRecDepth 100000 in
set_option maxHeartbeats 4000000 in
theorem c_X8_init_8 {G : Glb} {h : AHp} {a : Nat} (hk : Kd h a 8) (n : Int32) : CP G m_X8_init 4 0 0 [.ref a, .int n] h (fun r h' => r = none ∧ stI h a 0 n = h') := by
  suffices key : ∀ P : Option Value → AHp → Prop, (∀ r h', (r = none ∧ stI h a 0 n = h') → P r h') → CP G m_X8_init 4 0 0 [.ref a, .int n] h P from key _ (fun _ _ z => z)
  intro P hP
  refine CP.of (by decide +kernel) (Nat.le_of_ble_eq_true rfl) fun X hX hR hnm => ?_
  show V X G 2 0 0 _ 0 [some (.ref a), some (.int n)] [] h
  refine v_aload_n hX rfl qX8_init_0 ?_
  refine v_iload_n hX rfl qX8_init_1 ?_
  refine v_callCq hX hR k_X8_1 (c_X2_init_8 (by exact hk) _) rfl (Nat.le_of_ble_eq_true rfl) rfl (Nat.le_of_ble_eq_true rfl) ⟨Nat.le_of_ble_eq_true rfl, Nat.le_of_ble_eq_true rfl⟩ qX8_init_2 ?_
  rintro _ _ ⟨rfl, rfl⟩
  refine v_return hX qX8_init_5 (hP _ _ ?_)
  exact ⟨rfl, rfl⟩
theorem qX3_init_0 : Dq cX3_init 0 (.aload_n 0) 1 1 := ⟨by decide +kernel, rfl⟩
theorem qX3_init_1 : Dq cX3_init 1 (.iload_n 1) 1 2 := ⟨by decide +kernel, rfl⟩
theorem qX3_init_2 : Dq cX3_init 2 (.invokespecial 1) 3 5 := ⟨by decide +kernel, rfl⟩
theorem qX3_init_5 : Dq cX3_init 5 (.return_) 1 6 := ⟨by decide +kernel, rfl⟩
set_option maxRecDepth 100000 in
set_option maxHeartbeats 4000000 in
theorem c_X3_init_3 {G : Glb} {h : AHp} {a : Nat} (hk : Kd h a 3) (n : Int32) : CP G m_X3_init 4 0 0 [.ref a, .int n] h (fun r h' => r = none ∧ stI h a 0 n = h') := by
  suffices key : ∀ P : Option Value → AHp → Prop, (∀ r h', (r = none ∧ stI h a 0 n = h') → P r h') → CP G m_X3_init 4 0 0 [.ref a, .int n] h P from key _ (fun _ _ z => z)
  intro P hP
  refine CP.of (by decide +kernel) (Nat.le_of_ble_eq_true rfl) fun X hX hR hnm => ?_
  show V X G 2 0 0 _ 0 [some (.ref a), some (.int n)] [] h
  refine v_aload_n hX rfl qX3_init_0 ?_
  refine v_iload_n hX rfl qX3_init_1 ?_
  refine v_callCq hX hR k_X3_1 (c_X4_init_3 (by exact hk) _) rfl (Nat.le_of_ble_eq_true rfl) rfl (Nat.le_of_ble_eq_true rfl) ⟨Nat.le_of_ble_eq_true rfl, Nat.le_of_ble_eq_true rfl⟩ qX3_init_2 ?_
  rintro _ _ ⟨rfl, rfl⟩
  refine v_return hX qX3_init_5 (hP _ _ ?_)
  exact ⟨rfl, rfl⟩
theorem kdN {h : AHp} (c : Nat) : Kd (stN h c 0) (hpN h) c := ⟨if_pos rfl, Nat.lt_succ_self _⟩
theorem qX11_ofKind_0 : Dq cX11_ofKind 0 (.iload_n 0) 1 1 := ⟨by decide +kernel, rfl⟩
theorem qX11_ofKind_1 : Dq cX11_ofKind 1 (.tableswitch 80 1 5 #[35, 44, 53, 62, 71]) 35 36 := ⟨by decide +kernel, rfl⟩
theorem qX11_ofKind_36 : Dq cX11_ofKind 36 (.new 348) 3 39 := ⟨by decide +kernel, rfl⟩
theorem qX11_ofKind_39 : Dq cX11_ofKind 39 (.dup) 1 40 := ⟨by decide +kernel, rfl⟩
theorem qX11_ofKind_40 : Dq cX11_ofKind 40 (.iload_n 1) 1 41 := ⟨by decide +kernel, rfl⟩
theorem qX11_ofKind_41 : Dq cX11_ofKind 41 (.invokespecial 350) 3 44 := ⟨by decide +kernel, rfl⟩
theorem qX11_ofKind_44 : Dq cX11_ofKind 44 (.areturn) 1 45 := ⟨by decide +kernel, rfl⟩
theorem qX11_ofKind_45 : Dq cX11_ofKind 45 (.new 352) 3 48 := ⟨by decide +kernel, rfl⟩
theorem qX11_ofKind_48 : Dq cX11_ofKind 48 (.dup) 1 49 := ⟨by decide +kernel, rfl⟩
theorem qX11_ofKind_49 : Dq cX11_ofKind 49 (.iload_n 1) 1 50 := ⟨by decide +kernel, rfl⟩
theorem qX11_ofKind_50 : Dq cX11_ofKind 50 (.invokespecial 354) 3 53 := ⟨by decide +kernel, rfl⟩
theorem qX11_ofKind_53 : Dq cX11_ofKind 53 (.areturn) 1 54 := ⟨by decide +kernel, rfl⟩
theorem qX11_ofKind_54 : Dq cX11_ofKind 54 (.new 355) 3 57 := ⟨by decide +kernel, rfl⟩
theorem qX11_ofKind_57 : Dq cX11_ofKind 57 (.dup) 1 58 := ⟨by decide +kernel, rfl⟩
theorem qX11_ofKind_58 : Dq cX11_ofKind 58 (.iload_n 1) 1 59 := ⟨by decide +kernel, rfl⟩
theorem qX11_ofKind_59 : Dq cX11_ofKind 59 (.invokespecial 357) 3 62 := ⟨by decide +kernel, rfl⟩
theorem qX11_ofKind_62 : Dq cX11_ofKind 62 (.areturn) 1 63 := ⟨by decide +kernel, rfl⟩
theorem qX11_ofKind_63 : Dq cX11_ofKind 63 (.new 358) 3 66 := ⟨by decide +kernel, rfl⟩
theorem qX11_ofKind_66 : Dq cX11_ofKind 66 (.dup) 1 67 := ⟨by decide +kernel, rfl⟩
theorem qX11_ofKind_67 : Dq cX11_ofKind 67 (.iload_n 1) 1 68 := ⟨by decide +kernel, rfl⟩
theorem qX11_ofKind_68 : Dq cX11_ofKind 68 (.invokespecial 360) 3 71 := ⟨by decide +kernel, rfl⟩
theorem qX11_ofKind_71 : Dq cX11_ofKind 71 (.areturn) 1 72 := ⟨by decide +kernel, rfl⟩
theorem qX11_ofKind_72 : Dq cX11_ofKind 72 (.new 361) 3 75 := ⟨by decide +kernel, rfl⟩
theorem qX11_ofKind_75 : Dq cX11_ofKind 75 (.dup) 1 76 := ⟨by decide +kernel, rfl⟩
theorem qX11_ofKind_76 : Dq cX11_ofKind 76 (.iload_n 1) 1 77 := ⟨by decide +kernel, rfl⟩
theorem qX11_ofKind_77 : Dq cX11_ofKind 77 (.invokespecial 363) 3 80 := ⟨by decide +kernel, rfl⟩
theorem qX11_ofKind_80 : Dq cX11_ofKind 80 (.areturn) 1 81 := ⟨by decide +kernel, rfl⟩
theorem qX11_ofKind_81 : Dq cX11_ofKind 81 (.new 22) 3 84 := ⟨by decide +kernel, rfl⟩
theorem qX11_ofKind_84 : Dq cX11_ofKind 84 (.dup) 1 85 := ⟨by decide +kernel, rfl⟩
theorem qX11_ofKind_85 : Dq cX11_ofKind 85 (.iload_n 1) 1 86 := ⟨by decide +kernel, rfl⟩
theorem qX11_ofKind_86 : Dq cX11_ofKind 86 (.invokespecial 364) 3 89 := ⟨by decide +kernel, rfl⟩
theorem qX11_ofKind_89 : Dq cX11_ofKind 89 (.areturn) 1 90 := ⟨by decide +kernel, rfl⟩
set_option maxRecDepth 100000 in
set_option maxHeartbeats 4000000 in
theorem c_ofKind {G : Glb} {h : AHp} (hN : hpN h + 1 < 1000000) {kk : Nat} (hkk : kk < 6) (n : Int32) : CP G m_X11_ofKind 5 1 1 [.int (nI kk), .int n] h (fun r h' => r = some (.ref (hpN h)) ∧ stI (stN h (kcl kk) 0) (hpN h) 0 n = h') := by
  suffices key : ∀ P : Option Value → AHp → Prop, (∀ r h', (r = some (.ref (hpN h)) ∧ stI (stN h (kcl kk) 0) (hpN h) 0 n = h') → P r h') → CP G m_X11_ofKind 5 1 1 [.int (nI kk), .int n] h P from key _ (fun _ _ z => z)
  intro P hP
  refine CP.of (by decide +kernel) (Nat.le_of_ble_eq_true rfl) fun X hX hR hnm => ?_
  show V X G 2 0 0 _ 0 [some (.int (nI kk)), some (.int n)] [] h
  refine v_iload_n hX rfl qX11_ofKind_0 ?_
  refine v_case (1 : Int32) (fun q1 => ?_) (fun q1_1 => ?_)
  · have ek : kk = 1 := (nI_eq (a := kk) (b := 1) (by omega) (by omega)).mp q1
    refine v_tableIn (off := 35) hX 36 qX11_ofKind_1 (by first | exact (by rw [q1]; decide) | decide) (by first | exact (by rw [q1]; decide) | decide) (by first | exact (by rw [q1]; rfl) | rfl) rfl ?_
    refine v_new hX hR ok_c2 l_X11_348 inst_c2 init_c2 hN ⟨Nat.le_of_ble_eq_true rfl, Nat.le_of_ble_eq_true rfl⟩ qX11_ofKind_36 ?_
    refine v_dup hX rfl qX11_ofKind_39 ?_
    refine v_iload_n hX rfl qX11_ofKind_40 ?_
    refine v_callCq hX hR k_X11_350 (c_X2_init_2 (by exact (kdN 2)) _) rfl (Nat.le_of_ble_eq_true rfl) rfl (Nat.le_of_ble_eq_true rfl) ⟨Nat.le_of_ble_eq_true rfl, Nat.le_of_ble_eq_true rfl⟩ qX11_ofKind_41 ?_
    rintro _ _ ⟨rfl, rfl⟩
    refine v_widen (rt := none) (Nat.le_of_ble_eq_true rfl) (Nat.le_of_ble_eq_true rfl) (v_areturn hX (by first | exact Or.inl rfl | exact Or.inr ⟨_, rfl⟩) qX11_ofKind_44 (hP _ _ ?_))
    rw [ek]
    exact ⟨rfl, rfl⟩
  refine v_case (2 : Int32) (fun q1 => ?_) (fun q1_2 => ?_)
  · have ek : kk = 2 := (nI_eq (a := kk) (b := 2) (by omega) (by omega)).mp q1
    refine v_tableIn (off := 44) hX 45 qX11_ofKind_1 (by first | exact (by rw [q1]; decide) | decide) (by first | exact (by rw [q1]; decide) | decide) (by first | exact (by rw [q1]; rfl) | rfl) rfl ?_
    refine v_new hX hR ok_c7 l_X11_352 inst_c7 init_c7 hN ⟨Nat.le_of_ble_eq_true rfl, Nat.le_of_ble_eq_true rfl⟩ qX11_ofKind_45 ?_
    refine v_dup hX rfl qX11_ofKind_48 ?_
    refine v_iload_n hX rfl qX11_ofKind_49 ?_
    refine v_callCq hX hR k_X11_354 (c_X7_init_7 (by exact (kdN 7)) _) rfl (Nat.le_of_ble_eq_true rfl) rfl (Nat.le_of_ble_eq_true rfl) ⟨Nat.le_of_ble_eq_true rfl, Nat.le_of_ble_eq_true rfl⟩ qX11_ofKind_50 ?_
    rintro _ _ ⟨rfl, rfl⟩
    refine v_widen (rt := none) (Nat.le_of_ble_eq_true rfl) (Nat.le_of_ble_eq_true rfl) (v_areturn hX (by first | exact Or.inl rfl | exact Or.inr ⟨_, rfl⟩) qX11_ofKind_53 (hP _ _ ?_))
    rw [ek]
    exact ⟨rfl, rfl⟩
  refine v_case (3 : Int32) (fun q1 => ?_) (fun q1_3 => ?_)
  · have ek : kk = 3 := (nI_eq (a := kk) (b := 3) (by omega) (by omega)).mp q1
    refine v_tableIn (off := 53) hX 54 qX11_ofKind_1 (by first | exact (by rw [q1]; decide) | decide) (by first | exact (by rw [q1]; decide) | decide) (by first | exact (by rw [q1]; rfl) | rfl) rfl ?_
    refine v_new hX hR ok_c4 l_X11_355 inst_c4 init_c4 hN ⟨Nat.le_of_ble_eq_true rfl, Nat.le_of_ble_eq_true rfl⟩ qX11_ofKind_54 ?_
    refine v_dup hX rfl qX11_ofKind_57 ?_
    refine v_iload_n hX rfl qX11_ofKind_58 ?_
    refine v_callCq hX hR k_X11_357 (c_X4_init_4 (by exact (kdN 4)) _) rfl (Nat.le_of_ble_eq_true rfl) rfl (Nat.le_of_ble_eq_true rfl) ⟨Nat.le_of_ble_eq_true rfl, Nat.le_of_ble_eq_true rfl⟩ qX11_ofKind_59 ?_
    rintro _ _ ⟨rfl, rfl⟩
    refine v_widen (rt := none) (Nat.le_of_ble_eq_true rfl) (Nat.le_of_ble_eq_true rfl) (v_areturn hX (by first | exact Or.inl rfl | exact Or.inr ⟨_, rfl⟩) qX11_ofKind_62 (hP _ _ ?_))
    rw [ek]
    exact ⟨rfl, rfl⟩
  refine v_case (4 : Int32) (fun q1 => ?_) (fun q1_4 => ?_)
  · have ek : kk = 4 := (nI_eq (a := kk) (b := 4) (by omega) (by omega)).mp q1
    refine v_tableIn (off := 62) hX 63 qX11_ofKind_1 (by first | exact (by rw [q1]; decide) | decide) (by first | exact (by rw [q1]; decide) | decide) (by first | exact (by rw [q1]; rfl) | rfl) rfl ?_
    refine v_new hX hR ok_c8 l_X11_358 inst_c8 init_c8 hN ⟨Nat.le_of_ble_eq_true rfl, Nat.le_of_ble_eq_true rfl⟩ qX11_ofKind_63 ?_
    refine v_dup hX rfl qX11_ofKind_66 ?_
    refine v_iload_n hX rfl qX11_ofKind_67 ?_
    refine v_callCq hX hR k_X11_360 (c_X8_init_8 (by exact (kdN 8)) _) rfl (Nat.le_of_ble_eq_true rfl) rfl (Nat.le_of_ble_eq_true rfl) ⟨Nat.le_of_ble_eq_true rfl, Nat.le_of_ble_eq_true rfl⟩ qX11_ofKind_68 ?_
    rintro _ _ ⟨rfl, rfl⟩
    refine v_widen (rt := none) (Nat.le_of_ble_eq_true rfl) (Nat.le_of_ble_eq_true rfl) (v_areturn hX (by first | exact Or.inl rfl | exact Or.inr ⟨_, rfl⟩) qX11_ofKind_71 (hP _ _ ?_))
    rw [ek]
    exact ⟨rfl, rfl⟩
  refine v_case (5 : Int32) (fun q1 => ?_) (fun q1_5 => ?_)
  · have ek : kk = 5 := (nI_eq (a := kk) (b := 5) (by omega) (by omega)).mp q1
    refine v_tableIn (off := 71) hX 72 qX11_ofKind_1 (by first | exact (by rw [q1]; decide) | decide) (by first | exact (by rw [q1]; decide) | decide) (by first | exact (by rw [q1]; rfl) | rfl) rfl ?_
    refine v_new hX hR ok_c3 l_X11_361 inst_c3 init_c3 hN ⟨Nat.le_of_ble_eq_true rfl, Nat.le_of_ble_eq_true rfl⟩ qX11_ofKind_72 ?_
    refine v_dup hX rfl qX11_ofKind_75 ?_
    refine v_iload_n hX rfl qX11_ofKind_76 ?_
    refine v_callCq hX hR k_X11_363 (c_X3_init_3 (by exact (kdN 3)) _) rfl (Nat.le_of_ble_eq_true rfl) rfl (Nat.le_of_ble_eq_true rfl) ⟨Nat.le_of_ble_eq_true rfl, Nat.le_of_ble_eq_true rfl⟩ qX11_ofKind_77 ?_
    rintro _ _ ⟨rfl, rfl⟩
    refine v_widen (rt := none) (Nat.le_of_ble_eq_true rfl) (Nat.le_of_ble_eq_true rfl) (v_areturn hX (by first | exact Or.inl rfl | exact Or.inr ⟨_, rfl⟩) qX11_ofKind_80 (hP _ _ ?_))
    rw [ek]
    exact ⟨rfl, rfl⟩
  refine v_tableOut hX 81 qX11_ofKind_1 ?_ rfl ?_
  · have z1 := ne_i (1) (by decide) q1_1; have z2 := ne_i (2) (by decide) q1_2; have z3 := ne_i (3) (by decide) q1_3; have z4 := ne_i (4) (by decide) q1_4; have z5 := ne_i (5) (by decide) q1_5; omega
  refine v_new hX hR ok_c1 l_X11_22 inst_c1 init_c1 hN ⟨Nat.le_of_ble_eq_true rfl, Nat.le_of_ble_eq_true rfl⟩ qX11_ofKind_81 ?_
  refine v_dup hX rfl qX11_ofKind_84 ?_
  refine v_iload_n hX rfl qX11_ofKind_85 ?_
  refine v_callCq hX hR k_X11_364 (c_X1_init_1 (by exact (kdN 1)) _) rfl (Nat.le_of_ble_eq_true rfl) rfl (Nat.le_of_ble_eq_true rfl) ⟨Nat.le_of_ble_eq_true rfl, Nat.le_of_ble_eq_true rfl⟩ qX11_ofKind_86 ?_
  rintro _ _ ⟨rfl, rfl⟩
  refine v_widen (rt := none) (Nat.le_of_ble_eq_true rfl) (Nat.le_of_ble_eq_true rfl) (v_areturn hX (by first | exact Or.inl rfl | exact Or.inr ⟨_, rfl⟩) qX11_ofKind_89 (hP _ _ ?_))
  have ek : kk = 0 := by
    have hk0 : kk = 0 ∨ kk = 1 ∨ kk = 2 ∨ kk = 3 ∨ kk = 4 ∨ kk = 5 := by omega
    rcases hk0 with rfl | rfl | rfl | rfl | rfl | rfl <;> first | rfl | exact absurd rfl q1_1 | exact absurd rfl q1_2 | exact absurd rfl q1_3 | exact absurd rfl q1_4 | exact absurd rfl q1_5
  rw [ek]
  exact ⟨rfl, rfl⟩
/-- what lies behind the class' own cells stays as it is -/
def Kp (h h' : AHp) : Prop := hpN h ≤ hpN h' ∧ ∀ a, 38 ≤ a → a < hpN h → hpI h' a = hpI h a ∧ hpR h' a = hpR h a ∧ hpJ h' a = hpJ h a ∧ hpK h' a = hpK h a ∧ hpL h' a = hpL h a
theorem Kp.rf (h : AHp) : Kp h h := ⟨Nat.le_refl _, fun _ _ _ => ⟨rfl, rfl, rfl, rfl, rfl⟩⟩
theorem Kp.tr {h h' h'' : AHp} (a : Kp h h') (b : Kp h' h'') : Kp h h'' := ⟨Nat.le_trans a.1 b.1, fun x h1 h2 => by
  obtain ⟨a1, a2, a3, a4, a5⟩ := a.2 x h1 h2
  obtain ⟨b1, b2, b3, b4, b5⟩ := b.2 x h1 (Nat.lt_of_lt_of_le h2 a.1)
  exact ⟨b1.trans a1, b2.trans a2, b3.trans a3, b4.trans a4, b5.trans a5⟩⟩
theorem K38.kp {h : AHp} {σ : Nat → Nat → Int32} (hk : K38 h σ) : Kp h (σ, h.2) := ⟨Nat.le_refl _, fun a h1 _ => ⟨hk a h1, rfl, rfl, rfl, rfl⟩⟩
def lookerI (E : Sst) (k n : Int32) : Int32 × Sst := if (0 ≤ k ∧ k ≤ 5) ∧ (0 ≤ n ∧ n ≤ 9) then (if sM E < 6 then (nI (sM E), setP E (sM E + 1) (fun i => if i = sM E then tn k else sK E i) (fun i => if i = sM E then n else sN E i)) else (-4, E)) else (-2, E)
/-- the heap when a looker has come -/
def lkH (h : AHp) (m k : Nat) (n : Int32) : AHp := stI (stR (stI (stN h (kcl k) 0) (hpN h) 0 n) 10 m (some (hpN h))) 0 5 (nI (m + 1))
theorem rTC_10 : ∀ e ∈ rTC, e.1 ≠ 10 ∧ e.1 < 38 := by decide +kernel
theorem lkH_I {h : AHp} {m k : Nat} {n : Int32} {a j : Nat} (ha : a < hpN h) : hpI (lkH h m k n) a j = if a = 0 ∧ j = 5 then nI (m + 1) else hpI h a j := by
  show (if a = 0 ∧ j = 5 then nI (m + 1) else if a = hpN h ∧ j = 0 then n else if a = hpN h then 0 else hpI h a j) = _
  rw [if_neg (show ¬ (a = hpN h ∧ j = 0) from fun z => by omega), if_neg (show ¬ a = hpN h by omega)]
theorem lkH_R {h : AHp} {m k : Nat} {n : Int32} {a j : Nat} (ha : a < hpN h) : hpR (lkH h m k n) a j = if a = 10 ∧ j = m then some (hpN h) else hpR h a j := by
  show (if a = 10 ∧ j = m then some (hpN h) else if a = hpN h then none else hpR h a j) = _
  rw [if_neg (show ¬ a = hpN h by omega)]
theorem lkH_K {h : AHp} {m k : Nat} {n : Int32} {a : Nat} (ha : a < hpN h) : hpK (lkH h m k n) a = hpK h a ∧ hpL (lkH h m k n) a = hpL h a ∧ hpJ (lkH h m k n) a = hpJ h a := by
  refine ⟨?_, ?_, ?_⟩
  · show (if a = hpN h then kcl k else hpK h a) = _
    rw [if_neg (show ¬ a = hpN h by omega)]
  · show (if a = hpN h then 0 else hpL h a) = _
    rw [if_neg (show ¬ a = hpN h by omega)]
  · funext j
    show (if a = hpN h then 0 else hpJ h a j) = _
    rw [if_neg (show ¬ a = hpN h by omega)]
theorem lkH_kp {h : AHp} (h38 : 38 ≤ hpN h) {m k : Nat} {n : Int32} : Kp h (lkH h m k n) := ⟨Nat.le_succ _, fun a h1 h2 => by
  obtain ⟨e1, e2, e3⟩ := lkH_K (m := m) (k := k) (n := n) h2
  refine ⟨funext fun j => by rw [lkH_I h2, if_neg (by omega)], funext fun j => by rw [lkH_R h2, if_neg (by omega)], e3, e1, e2⟩⟩
theorem kT38 {a c : Nat} (h : kTC[a]? = some c) : a < 38 := (List.getElem?_eq_some_iff.mp h).1
theorem lT38 {a c : Nat} (h : lTC[a]? = some c) : a < 38 := (List.getElem?_eq_some_iff.mp h).1
theorem lkH_cv {h : AHp} {E : Sst} (hc : CV h E) (hm : sM E < 6) {k : Nat} (hk : k < 6) {n : Int32} (hn : inR n 9) : CV (lkH h (sM E) k n) (setP E (sM E + 1) (fun i => if i = sM E then k else sK E i) (fun i => if i = sM E then n else sN E i)) := by
  obtain ⟨h1, h2, h3, ⟨e, h4⟩, h5, h6, h7, h8, h9⟩ := hc
  have h38 := h1.1
  have eI : ∀ a j, a < 38 → ¬ (a = 0 ∧ j = 5) → hpI (lkH h (sM E) k n) a j = hpI h a j := fun a j z1 z2 => by rw [lkH_I (by omega), if_neg z2]
  have eb : ∀ B, B = 1 ∨ B = 7 → bv (lkH h (sM E) k n) B = bv h B := fun B hB => bv_ext (fun i j ho => by
    have : i ≤ 2 := by rcases ho with ⟨e, -⟩ | ⟨e, -⟩ <;> omega
    exact eI (B + i) j (by omega) (by omega))
  refine ⟨⟨Nat.le_succ_of_le h38, fun a c z => (lkH_K (by have := kT38 z; omega)).1.trans (h1.2.1 a c z), fun a c z => (lkH_K (by have := lT38 z; omega)).2.1.trans (h1.2.2.1 a c z), fun q hq => ?_⟩, h2.fr (σ := hpI (lkH h (sM E) k n)) (eI 17 2 (by omega) (by omega)) (funext fun j => eI 18 j (by omega) (by omega)) (funext fun j => eI 19 j (by omega) (by omega)), h3.eq (σ := hpI (lkH h (sM E) k n)) (fun a a1 a2 j _ => eI a j (by omega) (by omega)), ⟨fun i => if i = sM E then hpN h else e i, ?_, by show sM E + 1 ≤ 6; omega, fun i hi => ?_⟩, (eb 1 (Or.inl rfl)).trans h5, ?_, ⟨(eI 11 1 (by omega) (by omega)).trans h7.1, fun i hi => (eI 12 i (by omega) (by omega)).trans (h7.2 i hi)⟩, fun i hi => ?_, ⟨h9.1, by show sM E + 1 ≤ 6; omega, fun i hi => ?_, h9.2.2.2⟩⟩
  · obtain ⟨z1, z2⟩ := rTC_10 q hq
    rw [lkH_R (by omega), if_neg (fun y => z1 y.1)]
    exact h1.2.2.2 q hq
  · show hpI (lkH h (sM E) k n) 0 5 = nI (sM E + 1)
    rw [lkH_I (by omega), if_pos ⟨rfl, rfl⟩]
  · have hi2 : i < sM E + 1 := hi
    show hpR (lkH h (sM E) k n) 10 i = some (if i = sM E then hpN h else e i) ∧ (if i = sM E then k else sK E i) < 6 ∧ Kd (lkH h (sM E) k n) (if i = sM E then hpN h else e i) (kcl (if i = sM E then k else sK E i)) ∧ hpI (lkH h (sM E) k n) (if i = sM E then hpN h else e i) 0 = (if i = sM E then n else sN E i)
    by_cases z : i = sM E
    · rw [if_pos z, if_pos z, if_pos z, lkH_R (by omega), if_pos ⟨rfl, z⟩]
      refine ⟨rfl, hk, ⟨if_pos rfl, Nat.lt_succ_self _⟩, ?_⟩
      show (if hpN h = 0 ∧ 0 = 5 then nI (sM E + 1) else if hpN h = hpN h ∧ 0 = 0 then n else _) = n
      rw [if_neg (by omega), if_pos ⟨rfl, rfl⟩]
    · obtain ⟨g1, g2, g3, g4⟩ := h4.2.2 i (by omega)
      have g38 := eye38 h1 g3
      rw [if_neg z, if_neg z, if_neg z, lkH_R (by omega), if_neg (fun y => z y.2)]
      exact ⟨g1, g2, ⟨(lkH_K g3.2).1.trans g3.1, Nat.lt_succ_of_lt g3.2⟩, by rw [lkH_I g3.2, if_neg (by omega)]; exact g4⟩
  · rcases h6 with ⟨z1, z2⟩ | ⟨z1, z2⟩
    · exact Or.inl ⟨z1, (eI 0 3 (by omega) (by omega)).trans z2⟩
    · exact Or.inr ⟨by rw [eb 7 (Or.inr rfl)]; exact z1, (eI 0 3 (by omega) (by omega)).trans z2⟩
  · obtain ⟨g1, g2, g3⟩ := h8 i hi
    exact ⟨(eI _ 1 (by omega) (by omega)).trans g1, (eI _ 2 (by omega) (by omega)).trans g2, fun j hj => (eI _ j (by omega) (by omega)).trans (g3 j hj)⟩
  · have hi2 : i < sM E + 1 := hi
    show (if i = sM E then k else sK E i) < 6 ∧ inR (if i = sM E then n else sN E i) 9
    by_cases z : i = sM E
    · rw [if_pos z, if_pos z]; exact ⟨hk, hn⟩
    · rw [if_neg z, if_neg z]; exact h9.2.2.1 i (by omega)
theorem qX11_looker_0 : Dq cX11_looker 0 (.iload_n 1) 1 1 := ⟨by decide +kernel, rfl⟩
theorem qX11_looker_1 : Dq cX11_looker 1 (.iconst 0) 1 2 := ⟨by decide +kernel, rfl⟩
theorem qX11_looker_2 : Dq cX11_looker 2 (.iconst 5) 1 3 := ⟨by decide +kernel, rfl⟩
theorem qX11_looker_3 : Dq cX11_looker 3 (.invokestatic 110) 3 6 := ⟨by decide +kernel, rfl⟩
theorem qX11_looker_6 : Dq cX11_looker 6 (.ifCond .eq 13) 3 9 := ⟨by decide +kernel, rfl⟩
theorem qX11_looker_9 : Dq cX11_looker 9 (.iload_n 2) 1 10 := ⟨by decide +kernel, rfl⟩
theorem qX11_looker_10 : Dq cX11_looker 10 (.iconst 0) 1 11 := ⟨by decide +kernel, rfl⟩
theorem qX11_looker_11 : Dq cX11_looker 11 (.bipush 9) 2 13 := ⟨by decide +kernel, rfl⟩
theorem qX11_looker_13 : Dq cX11_looker 13 (.invokestatic 110) 3 16 := ⟨by decide +kernel, rfl⟩
theorem qX11_looker_16 : Dq cX11_looker 16 (.ifCond .ne 6) 3 19 := ⟨by decide +kernel, rfl⟩
theorem qX11_looker_19 : Dq cX11_looker 19 (.bipush (-2)) 2 21 := ⟨by decide +kernel, rfl⟩
theorem qX11_looker_21 : Dq cX11_looker 21 (.ireturn) 1 22 := ⟨by decide +kernel, rfl⟩
theorem qX11_looker_22 : Dq cX11_looker 22 (.aload_n 0) 1 23 := ⟨by decide +kernel, rfl⟩
theorem qX11_looker_23 : Dq cX11_looker 23 (.getfield 134) 3 26 := ⟨by decide +kernel, rfl⟩
theorem qX11_looker_26 : Dq cX11_looker 26 (.bipush 6) 2 28 := ⟨by decide +kernel, rfl⟩
theorem qX11_looker_28 : Dq cX11_looker 28 (.if_icmp .lt 6) 3 31 := ⟨by decide +kernel, rfl⟩
theorem qX11_looker_31 : Dq cX11_looker 31 (.bipush (-4)) 2 33 := ⟨by decide +kernel, rfl⟩
theorem qX11_looker_33 : Dq cX11_looker 33 (.ireturn) 1 34 := ⟨by decide +kernel, rfl⟩
theorem qX11_looker_34 : Dq cX11_looker 34 (.aload_n 0) 1 35 := ⟨by decide +kernel, rfl⟩
theorem qX11_looker_35 : Dq cX11_looker 35 (.getfield 24) 3 38 := ⟨by decide +kernel, rfl⟩
theorem qX11_looker_38 : Dq cX11_looker 38 (.aload_n 0) 1 39 := ⟨by decide +kernel, rfl⟩
theorem qX11_looker_39 : Dq cX11_looker 39 (.getfield 134) 3 42 := ⟨by decide +kernel, rfl⟩
theorem qX11_looker_42 : Dq cX11_looker 42 (.iload_n 1) 1 43 := ⟨by decide +kernel, rfl⟩
theorem qX11_looker_43 : Dq cX11_looker 43 (.iload_n 2) 1 44 := ⟨by decide +kernel, rfl⟩
theorem qX11_looker_44 : Dq cX11_looker 44 (.invokestatic 137) 3 47 := ⟨by decide +kernel, rfl⟩
theorem qX11_looker_47 : Dq cX11_looker 47 (.aastore) 1 48 := ⟨by decide +kernel, rfl⟩
theorem qX11_looker_48 : Dq cX11_looker 48 (.aload_n 0) 1 49 := ⟨by decide +kernel, rfl⟩
theorem qX11_looker_49 : Dq cX11_looker 49 (.dup) 1 50 := ⟨by decide +kernel, rfl⟩
theorem qX11_looker_50 : Dq cX11_looker 50 (.getfield 134) 3 53 := ⟨by decide +kernel, rfl⟩
theorem qX11_looker_53 : Dq cX11_looker 53 (.iconst 1) 1 54 := ⟨by decide +kernel, rfl⟩
theorem qX11_looker_54 : Dq cX11_looker 54 (.iadd) 1 55 := ⟨by decide +kernel, rfl⟩
theorem qX11_looker_55 : Dq cX11_looker 55 (.putfield 134) 3 58 := ⟨by decide +kernel, rfl⟩
theorem qX11_looker_58 : Dq cX11_looker 58 (.aload_n 0) 1 59 := ⟨by decide +kernel, rfl⟩
theorem qX11_looker_59 : Dq cX11_looker 59 (.getfield 134) 3 62 := ⟨by decide +kernel, rfl⟩
theorem qX11_looker_62 : Dq cX11_looker 62 (.iconst 1) 1 63 := ⟨by decide +kernel, rfl⟩
theorem qX11_looker_63 : Dq cX11_looker 63 (.isub) 1 64 := ⟨by decide +kernel, rfl⟩
theorem qX11_looker_64 : Dq cX11_looker 64 (.ireturn) 1 65 := ⟨by decide +kernel, rfl⟩
set_option maxRecDepth 100000 in
set_option maxHeartbeats 4000000 in
theorem c_looker {G : Glb} {h : AHp} {E : Sst} (hc : CV h E) (hN : hpN h + 1 < 1000000) (k n : Int32) : CP G m_X11_looker 6 1 1 [.ref 0, .int k, .int n] h (fun r h' => r = some (.int (lookerI E k n).1) ∧ CV h' (lookerI E k n).2 ∧ Kp h h' ∧ hpN h' ≤ hpN h + 1) := by
  suffices key : ∀ P : Option Value → AHp → Prop, (∀ r h', (r = some (.int (lookerI E k n).1) ∧ CV h' (lookerI E k n).2 ∧ Kp h h' ∧ hpN h' ≤ hpN h + 1) → P r h') → CP G m_X11_looker 6 1 1 [.ref 0, .int k, .int n] h P from key _ (fun _ _ z => z)
  intro P hP
  have hs := hc.sh
  have hru := hc.ru
  have hca := hc.ca
  have hbe := hc.be
  have hok := hc.ok
  obtain ⟨hrl, hrl5⟩ := hbe.rl hok.1
  rw [bv0 (by omega) (by omega)] at hrl5
  have hh3 := hbe.2.2.2.1
  rw [bv0 (by omega) (by omega)] at hh3
  obtain ⟨e, hp⟩ := hc.pt
  have hm6 := hp.2.1
  have hnu := hc.nu
  have h38 := hs.1
  refine CP.of (by decide +kernel) (Nat.le_of_ble_eq_true rfl) fun X hX hR hnm => ?_
  show V X G 3 0 0 _ 0 [some (.ref 0), some (.int k), some (.int n)] [] h
  refine v_iload_n hX rfl qX11_looker_0 ?_
  refine v_iconst hX li_0 qX11_looker_1 ?_
  refine v_iconst hX li_5 qX11_looker_2 ?_
  refine v_callSq hX hR k_X11_110 (c_isWithin _ _ _) rfl (Nat.le_of_ble_eq_true rfl) rfl (Nat.le_of_ble_eq_true rfl) ⟨Nat.le_of_ble_eq_true rfl, Nat.le_of_ble_eq_true rfl⟩ qX11_looker_3 ?_
  rintro _ _ ⟨rfl, rfl⟩
  first | refine v_if_eqB hX 19 qX11_looker_6 rfl (fun q6 => ?_) (fun q6 => ?_) | refine v_if_eq hX 19 qX11_looker_6 rfl (fun q6 => ?_) (fun q6 => ?_)
  · skip
    refine v_bipush hX lb_n2 qX11_looker_19 ?_
    refine v_widen (rt := none) (Nat.le_of_ble_eq_true rfl) (Nat.le_of_ble_eq_true rfl) (v_ireturn hX qX11_looker_21 (hP _ _ ?_))
    first | (rw [lookerI, if_neg (fun z => q6 z.1)]; exact ⟨rfl, hc, Kp.rf h, Nat.le_succ _⟩) | (rw [lookerI, if_neg (fun z => q16 z.2)]; exact ⟨rfl, hc, Kp.rf h, Nat.le_succ _⟩)
  · skip
    refine v_iload_n hX rfl qX11_looker_9 ?_
    refine v_iconst hX li_0 qX11_looker_10 ?_
    refine v_bipush hX lb_9 qX11_looker_11 ?_
    refine v_callSq hX hR k_X11_110 (c_isWithin _ _ _) rfl (Nat.le_of_ble_eq_true rfl) rfl (Nat.le_of_ble_eq_true rfl) ⟨Nat.le_of_ble_eq_true rfl, Nat.le_of_ble_eq_true rfl⟩ qX11_looker_13 ?_
    rintro _ _ ⟨rfl, rfl⟩
    first | refine v_if_neB hX 22 qX11_looker_16 rfl (fun q16 => ?_) (fun q16 => ?_) | refine v_if_ne hX 22 qX11_looker_16 rfl (fun q16 => ?_) (fun q16 => ?_)
    · skip
      refine v_aload_n hX rfl qX11_looker_22 ?_
      refine v_getIv hX g_X11_134 (Or.inl rfl) (hs.kd 0 rfl) hp.1 qX11_looker_23 ?_
      refine v_bipush hX lb_6 qX11_looker_26 ?_
      refine v_icmp_ltS hX 34 qX11_looker_28 rfl (fun q28 => ?_) (fun q28 => ?_)
      · have hm : sM E < 6 := nI_lt' (s := 6) (by omega) (by omega) q28
        obtain ⟨kk, hkk, rfl⟩ := rng_ex 5 (by omega) q6
        have hn9 := inR.of (n := 9) (by omega) q16.1 q16.2
        refine v_aload_n hX rfl qX11_looker_34 ?_
        refine v_getR hX g_X11_24 (hs.kd 0 rfl) (hs.rf 3 rfl) qX11_looker_35 ?_
        refine v_aload_n hX rfl qX11_looker_38 ?_
        refine v_getIv hX g_X11_134 (Or.inl rfl) (hs.kd 0 rfl) hp.1 qX11_looker_39 ?_
        refine v_iload_n hX rfl qX11_looker_42 ?_
        refine v_iload_n hX rfl qX11_looker_43 ?_
        refine v_callSq' hX hR k_X11_137 (c_ofKind (by exact hN) (kk := kk) (by omega) _) rfl (Nat.le_of_ble_eq_true rfl) rfl (Nat.le_of_ble_eq_true rfl) ⟨Nat.le_of_ble_eq_true rfl, Nat.le_of_ble_eq_true rfl⟩ qX11_looker_44 ?_
        rintro _ _ ⟨rfl, rfl⟩
        have hkN : Kd (stI (stN h (kcl kk) 0) (hpN h) 0 n) (hpN h) (kcl kk) := kdN (kcl kk)
        have hsN : ShC (stI (stN h (kcl kk) 0) (hpN h) 0 n) := ⟨Nat.le_succ_of_le h38, fun a c z => (if_neg (show ¬ a = hpN h by have := kT38 z; omega)).trans (hs.2.1 a c z), fun a c z => (if_neg (show ¬ a = hpN h by have := lT38 z; omega)).trans (hs.2.2.1 a c z), fun q hq => (if_neg (show ¬ q.1 = hpN h by have := (rTC_10 q hq).2; omega)).trans (hs.2.2.2 q hq)⟩
        replace hs := hsN
        have hk0 : kk = 0 ∨ kk = 1 ∨ kk = 2 ∨ kk = 3 ∨ kk = 4 ∨ kk = 5 := by omega
        rcases hk0 with rfl | rfl | rfl | rfl | rfl | rfl
        · skip
          refine v_aast hX (Or.inl ⟨rfl, rfl⟩) rfl (Nat.le_of_ble_eq_true rfl) (Or.inl rfl) (hs.kd 10 rfl) hkN (hs.ln 10 rfl) (vp_in_nI (n := sM E) (by omega) (by omega)) qX11_looker_47 ?_
          rw [nI_clamp (show sM E < 2 ^ 31 by omega)]
          refine v_aload_n hX rfl qX11_looker_48 ?_
          refine v_dup hX rfl qX11_looker_49 ?_
          refine v_getIv hX g_X11_134 (Or.inl rfl) (hs.kd 0 rfl) (show hpI (stR (stI (stN h _ 0) (hpN h) 0 n) 10 (sM E) (some (hpN h))) 0 5 = nI (sM E) from (show (if 0 = hpN h ∧ 5 = 0 then n else if 0 = hpN h then 0 else hpI h 0 5) = nI (sM E) by rw [if_neg (by omega), if_neg (by omega)]; exact hp.1)) qX11_looker_50 ?_
          refine v_iconst hX li_1 qX11_looker_53 ?_
          refine v_iadd hX qX11_looker_54 ?_
          refine v_eqI (nI_1 _) ?_
          refine v_putI hX p_X11_134 (hs.kd 0 rfl) (Or.inl rfl) qX11_looker_55 ?_
          refine v_aload_n hX rfl qX11_looker_58 ?_
          refine v_getIv hX g_X11_134 (Or.inl rfl) (hs.kd 0 rfl) (show _ = nI (sM E + 1) from rfl) qX11_looker_59 ?_
          refine v_iconst hX li_1 qX11_looker_62 ?_
          refine v_isub hX qX11_looker_63 ?_
          refine v_eqI (nI_pred _) ?_
          refine v_widen (rt := none) (Nat.le_of_ble_eq_true rfl) (Nat.le_of_ble_eq_true rfl) (v_ireturn hX qX11_looker_64 (hP _ _ ?_))
          rw [lookerI, if_pos (show (0 ≤ nI _ ∧ nI _ ≤ 5) ∧ (0 ≤ n ∧ n ≤ 9) from ⟨q6, q16⟩), if_pos hm, tn_nI (by omega)]
          exact ⟨rfl, lkH_cv hc hm (by omega) hn9, lkH_kp h38, Nat.le_refl _⟩
        · skip
          refine v_aast hX (Or.inl ⟨rfl, rfl⟩) rfl (Nat.le_of_ble_eq_true rfl) (Or.inr (List.mem_of_getElem? (i := 1571) (by decide +kernel))) (hs.kd 10 rfl) hkN (hs.ln 10 rfl) (vp_in_nI (n := sM E) (by omega) (by omega)) qX11_looker_47 ?_
          rw [nI_clamp (show sM E < 2 ^ 31 by omega)]
          refine v_aload_n hX rfl qX11_looker_48 ?_
          refine v_dup hX rfl qX11_looker_49 ?_
          refine v_getIv hX g_X11_134 (Or.inl rfl) (hs.kd 0 rfl) (show hpI (stR (stI (stN h _ 0) (hpN h) 0 n) 10 (sM E) (some (hpN h))) 0 5 = nI (sM E) from (show (if 0 = hpN h ∧ 5 = 0 then n else if 0 = hpN h then 0 else hpI h 0 5) = nI (sM E) by rw [if_neg (by omega), if_neg (by omega)]; exact hp.1)) qX11_looker_50 ?_
          refine v_iconst hX li_1 qX11_looker_53 ?_
          refine v_iadd hX qX11_looker_54 ?_
          refine v_eqI (nI_1 _) ?_
          refine v_putI hX p_X11_134 (hs.kd 0 rfl) (Or.inl rfl) qX11_looker_55 ?_
          refine v_aload_n hX rfl qX11_looker_58 ?_
          refine v_getIv hX g_X11_134 (Or.inl rfl) (hs.kd 0 rfl) (show _ = nI (sM E + 1) from rfl) qX11_looker_59 ?_
          refine v_iconst hX li_1 qX11_looker_62 ?_
          refine v_isub hX qX11_looker_63 ?_
          refine v_eqI (nI_pred _) ?_
          refine v_widen (rt := none) (Nat.le_of_ble_eq_true rfl) (Nat.le_of_ble_eq_true rfl) (v_ireturn hX qX11_looker_64 (hP _ _ ?_))
          rw [lookerI, if_pos (show (0 ≤ nI _ ∧ nI _ ≤ 5) ∧ (0 ≤ n ∧ n ≤ 9) from ⟨q6, q16⟩), if_pos hm, tn_nI (by omega)]
          exact ⟨rfl, lkH_cv hc hm (by omega) hn9, lkH_kp h38, Nat.le_refl _⟩
        · skip
          refine v_aast hX (Or.inl ⟨rfl, rfl⟩) rfl (Nat.le_of_ble_eq_true rfl) (Or.inr (List.mem_of_getElem? (i := 1572) (by decide +kernel))) (hs.kd 10 rfl) hkN (hs.ln 10 rfl) (vp_in_nI (n := sM E) (by omega) (by omega)) qX11_looker_47 ?_
          rw [nI_clamp (show sM E < 2 ^ 31 by omega)]
          refine v_aload_n hX rfl qX11_looker_48 ?_
          refine v_dup hX rfl qX11_looker_49 ?_
          refine v_getIv hX g_X11_134 (Or.inl rfl) (hs.kd 0 rfl) (show hpI (stR (stI (stN h _ 0) (hpN h) 0 n) 10 (sM E) (some (hpN h))) 0 5 = nI (sM E) from (show (if 0 = hpN h ∧ 5 = 0 then n else if 0 = hpN h then 0 else hpI h 0 5) = nI (sM E) by rw [if_neg (by omega), if_neg (by omega)]; exact hp.1)) qX11_looker_50 ?_
          refine v_iconst hX li_1 qX11_looker_53 ?_
          refine v_iadd hX qX11_looker_54 ?_
          refine v_eqI (nI_1 _) ?_
          refine v_putI hX p_X11_134 (hs.kd 0 rfl) (Or.inl rfl) qX11_looker_55 ?_
          refine v_aload_n hX rfl qX11_looker_58 ?_
          refine v_getIv hX g_X11_134 (Or.inl rfl) (hs.kd 0 rfl) (show _ = nI (sM E + 1) from rfl) qX11_looker_59 ?_
          refine v_iconst hX li_1 qX11_looker_62 ?_
          refine v_isub hX qX11_looker_63 ?_
          refine v_eqI (nI_pred _) ?_
          refine v_widen (rt := none) (Nat.le_of_ble_eq_true rfl) (Nat.le_of_ble_eq_true rfl) (v_ireturn hX qX11_looker_64 (hP _ _ ?_))
          rw [lookerI, if_pos (show (0 ≤ nI _ ∧ nI _ ≤ 5) ∧ (0 ≤ n ∧ n ≤ 9) from ⟨q6, q16⟩), if_pos hm, tn_nI (by omega)]
          exact ⟨rfl, lkH_cv hc hm (by omega) hn9, lkH_kp h38, Nat.le_refl _⟩
        · skip
          refine v_aast hX (Or.inl ⟨rfl, rfl⟩) rfl (Nat.le_of_ble_eq_true rfl) (Or.inr (List.mem_of_getElem? (i := 1573) (by decide +kernel))) (hs.kd 10 rfl) hkN (hs.ln 10 rfl) (vp_in_nI (n := sM E) (by omega) (by omega)) qX11_looker_47 ?_
          rw [nI_clamp (show sM E < 2 ^ 31 by omega)]
          refine v_aload_n hX rfl qX11_looker_48 ?_
          refine v_dup hX rfl qX11_looker_49 ?_
          refine v_getIv hX g_X11_134 (Or.inl rfl) (hs.kd 0 rfl) (show hpI (stR (stI (stN h _ 0) (hpN h) 0 n) 10 (sM E) (some (hpN h))) 0 5 = nI (sM E) from (show (if 0 = hpN h ∧ 5 = 0 then n else if 0 = hpN h then 0 else hpI h 0 5) = nI (sM E) by rw [if_neg (by omega), if_neg (by omega)]; exact hp.1)) qX11_looker_50 ?_
          refine v_iconst hX li_1 qX11_looker_53 ?_
          refine v_iadd hX qX11_looker_54 ?_
          refine v_eqI (nI_1 _) ?_
          refine v_putI hX p_X11_134 (hs.kd 0 rfl) (Or.inl rfl) qX11_looker_55 ?_
          refine v_aload_n hX rfl qX11_looker_58 ?_
          refine v_getIv hX g_X11_134 (Or.inl rfl) (hs.kd 0 rfl) (show _ = nI (sM E + 1) from rfl) qX11_looker_59 ?_
          refine v_iconst hX li_1 qX11_looker_62 ?_
          refine v_isub hX qX11_looker_63 ?_
          refine v_eqI (nI_pred _) ?_
          refine v_widen (rt := none) (Nat.le_of_ble_eq_true rfl) (Nat.le_of_ble_eq_true rfl) (v_ireturn hX qX11_looker_64 (hP _ _ ?_))
          rw [lookerI, if_pos (show (0 ≤ nI _ ∧ nI _ ≤ 5) ∧ (0 ≤ n ∧ n ≤ 9) from ⟨q6, q16⟩), if_pos hm, tn_nI (by omega)]
          exact ⟨rfl, lkH_cv hc hm (by omega) hn9, lkH_kp h38, Nat.le_refl _⟩
        · skip
          refine v_aast hX (Or.inl ⟨rfl, rfl⟩) rfl (Nat.le_of_ble_eq_true rfl) (Or.inr (List.mem_of_getElem? (i := 1574) (by decide +kernel))) (hs.kd 10 rfl) hkN (hs.ln 10 rfl) (vp_in_nI (n := sM E) (by omega) (by omega)) qX11_looker_47 ?_
          rw [nI_clamp (show sM E < 2 ^ 31 by omega)]
          refine v_aload_n hX rfl qX11_looker_48 ?_
          refine v_dup hX rfl qX11_looker_49 ?_
          refine v_getIv hX g_X11_134 (Or.inl rfl) (hs.kd 0 rfl) (show hpI (stR (stI (stN h _ 0) (hpN h) 0 n) 10 (sM E) (some (hpN h))) 0 5 = nI (sM E) from (show (if 0 = hpN h ∧ 5 = 0 then n else if 0 = hpN h then 0 else hpI h 0 5) = nI (sM E) by rw [if_neg (by omega), if_neg (by omega)]; exact hp.1)) qX11_looker_50 ?_
          refine v_iconst hX li_1 qX11_looker_53 ?_
          refine v_iadd hX qX11_looker_54 ?_
          refine v_eqI (nI_1 _) ?_
          refine v_putI hX p_X11_134 (hs.kd 0 rfl) (Or.inl rfl) qX11_looker_55 ?_
          refine v_aload_n hX rfl qX11_looker_58 ?_
          refine v_getIv hX g_X11_134 (Or.inl rfl) (hs.kd 0 rfl) (show _ = nI (sM E + 1) from rfl) qX11_looker_59 ?_
          refine v_iconst hX li_1 qX11_looker_62 ?_
          refine v_isub hX qX11_looker_63 ?_
          refine v_eqI (nI_pred _) ?_
          refine v_widen (rt := none) (Nat.le_of_ble_eq_true rfl) (Nat.le_of_ble_eq_true rfl) (v_ireturn hX qX11_looker_64 (hP _ _ ?_))
          rw [lookerI, if_pos (show (0 ≤ nI _ ∧ nI _ ≤ 5) ∧ (0 ≤ n ∧ n ≤ 9) from ⟨q6, q16⟩), if_pos hm, tn_nI (by omega)]
          exact ⟨rfl, lkH_cv hc hm (by omega) hn9, lkH_kp h38, Nat.le_refl _⟩
        · skip
          refine v_aast hX (Or.inl ⟨rfl, rfl⟩) rfl (Nat.le_of_ble_eq_true rfl) (Or.inr (List.mem_of_getElem? (i := 1575) (by decide +kernel))) (hs.kd 10 rfl) hkN (hs.ln 10 rfl) (vp_in_nI (n := sM E) (by omega) (by omega)) qX11_looker_47 ?_
          rw [nI_clamp (show sM E < 2 ^ 31 by omega)]
          refine v_aload_n hX rfl qX11_looker_48 ?_
          refine v_dup hX rfl qX11_looker_49 ?_
          refine v_getIv hX g_X11_134 (Or.inl rfl) (hs.kd 0 rfl) (show hpI (stR (stI (stN h _ 0) (hpN h) 0 n) 10 (sM E) (some (hpN h))) 0 5 = nI (sM E) from (show (if 0 = hpN h ∧ 5 = 0 then n else if 0 = hpN h then 0 else hpI h 0 5) = nI (sM E) by rw [if_neg (by omega), if_neg (by omega)]; exact hp.1)) qX11_looker_50 ?_
          refine v_iconst hX li_1 qX11_looker_53 ?_
          refine v_iadd hX qX11_looker_54 ?_
          refine v_eqI (nI_1 _) ?_
          refine v_putI hX p_X11_134 (hs.kd 0 rfl) (Or.inl rfl) qX11_looker_55 ?_
          refine v_aload_n hX rfl qX11_looker_58 ?_
          refine v_getIv hX g_X11_134 (Or.inl rfl) (hs.kd 0 rfl) (show _ = nI (sM E + 1) from rfl) qX11_looker_59 ?_
          refine v_iconst hX li_1 qX11_looker_62 ?_
          refine v_isub hX qX11_looker_63 ?_
          refine v_eqI (nI_pred _) ?_
          refine v_widen (rt := none) (Nat.le_of_ble_eq_true rfl) (Nat.le_of_ble_eq_true rfl) (v_ireturn hX qX11_looker_64 (hP _ _ ?_))
          rw [lookerI, if_pos (show (0 ≤ nI _ ∧ nI _ ≤ 5) ∧ (0 ≤ n ∧ n ≤ 9) from ⟨q6, q16⟩), if_pos hm, tn_nI (by omega)]
          exact ⟨rfl, lkH_cv hc hm (by omega) hn9, lkH_kp h38, Nat.le_refl _⟩
      · have hm : ¬ sM E < 6 := by have := nI_le' (i := 6) (by omega) (by omega) q28; omega
        refine v_bipush hX lb_n4 qX11_looker_31 ?_
        refine v_widen (rt := none) (Nat.le_of_ble_eq_true rfl) (Nat.le_of_ble_eq_true rfl) (v_ireturn hX qX11_looker_33 (hP _ _ ?_))
        rw [lookerI, if_pos ⟨q6, q16⟩, if_neg hm]
        exact ⟨rfl, hc, Kp.rf h, Nat.le_succ _⟩
    · skip
      refine v_bipush hX lb_n2 qX11_looker_19 ?_
      refine v_widen (rt := none) (Nat.le_of_ble_eq_true rfl) (Nat.le_of_ble_eq_true rfl) (v_ireturn hX qX11_looker_21 (hP _ _ ?_))
      first | (rw [lookerI, if_neg (fun z => q6 z.1)]; exact ⟨rfl, hc, Kp.rf h, Nat.le_succ _⟩) | (rw [lookerI, if_neg (fun z => q16 z.2)]; exact ⟨rfl, hc, Kp.rf h, Nat.le_succ _⟩)
