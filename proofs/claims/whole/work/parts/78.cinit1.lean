/-! the small constructors of the class -/
theorem Kd.sN {h : AHp} {a c d n : Nat} (hk : Kd h a c) : Kd (stN h d n) a c := ⟨(if_neg (Nat.ne_of_lt hk.2)).trans hk.1, Nat.lt_succ_of_lt hk.2⟩
theorem Kd.sR {h : AHp} {a c b k : Nat} {v : Option Nat} (hk : Kd h a c) : Kd (stR h b k v) a c := ⟨hk.1, hk.2⟩
theorem Kd.sI {h : AHp} {a c b k : Nat} {v : Int32} (hk : Kd h a c) : Kd (stI h b k v) a c := ⟨hk.1, hk.2⟩
/-- a row of ints is made and hung into field k of a -/
def nA (h : AHp) (L a k : Nat) : AHp := stR (stN h 100 L) a k (some (hpN h))
theorem qX0_init_0 : Dq cX0_init 0 (.aload_n 0) 1 1 := ⟨by decide +kernel, rfl⟩
theorem qX0_init_1 : Dq cX0_init 1 (.invokespecial 3) 3 4 := ⟨by decide +kernel, rfl⟩
theorem qX0_init_4 : Dq cX0_init 4 (.aload_n 0) 1 5 := ⟨by decide +kernel, rfl⟩
theorem qX0_init_5 : Dq cX0_init 5 (.bipush 48) 2 7 := ⟨by decide +kernel, rfl⟩
theorem qX0_init_7 : Dq cX0_init 7 (.newarray .int) 2 9 := ⟨by decide +kernel, rfl⟩
theorem qX0_init_9 : Dq cX0_init 9 (.putfield 9) 3 12 := ⟨by decide +kernel, rfl⟩
theorem qX0_init_12 : Dq cX0_init 12 (.aload_n 0) 1 13 := ⟨by decide +kernel, rfl⟩
theorem qX0_init_13 : Dq cX0_init 13 (.bipush 48) 2 15 := ⟨by decide +kernel, rfl⟩
theorem qX0_init_15 : Dq cX0_init 15 (.newarray .int) 2 17 := ⟨by decide +kernel, rfl⟩
theorem qX0_init_17 : Dq cX0_init 17 (.putfield 15) 3 20 := ⟨by decide +kernel, rfl⟩
theorem qX0_init_20 : Dq cX0_init 20 (.aload_n 0) 1 21 := ⟨by decide +kernel, rfl⟩
theorem qX0_init_21 : Dq cX0_init 21 (.bipush 12) 2 23 := ⟨by decide +kernel, rfl⟩
theorem qX0_init_23 : Dq cX0_init 23 (.putfield 18) 3 26 := ⟨by decide +kernel, rfl⟩
theorem qX0_init_26 : Dq cX0_init 26 (.return_) 1 27 := ⟨by decide +kernel, rfl⟩
set_option maxRecDepth 100000 in
set_option maxHeartbeats 4000000 in
theorem c_X0_init {G : Glb} {h : AHp} {a : Nat} (hk : Kd h a 0) (hN : hpN h + 20 < 1000000) : CP G m_X0_init 2 2 96 [.ref a] h (fun r h' => r = none ∧ stI (nA (nA h 48 a 0) 48 a 1) a 3 12 = h') := by
  suffices key : ∀ P : Option Value → AHp → Prop, (∀ r h', (r = none ∧ stI (nA (nA h 48 a 0) 48 a 1) a 3 12 = h') → P r h') → CP G m_X0_init 2 2 96 [.ref a] h P from key _ (fun _ _ z => z)
  intro P hP
  refine CP.of (by decide +kernel) (Nat.le_of_ble_eq_true rfl) fun X hX hR hnm => ?_
  show V X G 1 0 0 _ 0 [some (.ref a)] [] h
  refine v_aload_n hX rfl qX0_init_0 ?_
  refine v_objInit hX hR (Nat.le_of_ble_eq_true rfl) k_X0_3 (Nat.le_of_ble_eq_true rfl) qX0_init_1 ?_
  refine v_aload_n hX rfl qX0_init_4 ?_
  refine v_bipush hX lb_48 qX0_init_5 ?_
  refine v_newa (L := 48) (c := 100) hX hR (Or.inl ⟨rfl, rfl⟩) ar_int (by decide) rfl (Nat.le_of_ble_eq_true rfl) (show hpN h + 0 + 1 < 1000000 by omega) ⟨Nat.le_of_ble_eq_true rfl, Nat.le_of_ble_eq_true rfl⟩ qX0_init_7 ?_
  refine v_putR hX p_X0_9 (by first | exact hk | (repeat first | exact hk | refine Kd.sR ?_ | refine Kd.sI ?_ | refine Kd.sN ?_)) (Or.inr hnm) qX0_init_9 ?_
  refine v_aload_n hX rfl qX0_init_12 ?_
  refine v_bipush hX lb_48 qX0_init_13 ?_
  refine v_newa (L := 48) (c := 100) hX hR (Or.inl ⟨rfl, rfl⟩) ar_int (by decide) rfl (Nat.le_of_ble_eq_true rfl) (show hpN h + 1 + 1 < 1000000 by omega) ⟨Nat.le_of_ble_eq_true rfl, Nat.le_of_ble_eq_true rfl⟩ qX0_init_15 ?_
  refine v_putR hX p_X0_15 (by first | exact hk | (repeat first | exact hk | refine Kd.sR ?_ | refine Kd.sI ?_ | refine Kd.sN ?_)) (Or.inr hnm) qX0_init_17 ?_
  refine v_aload_n hX rfl qX0_init_20 ?_
  refine v_bipush hX lb_12 qX0_init_21 ?_
  refine v_putI hX p_X0_18 (by first | exact hk | (repeat first | exact hk | refine Kd.sR ?_ | refine Kd.sI ?_ | refine Kd.sN ?_)) (Or.inl rfl) qX0_init_23 ?_
  refine v_widen (rt := none) (Nat.le_of_ble_eq_true rfl) (Nat.le_of_ble_eq_true rfl) (v_return hX qX0_init_26 (hP _ _ ?_))
  exact ⟨rfl, rfl⟩
theorem qX10_init_0 : Dq cX10_init 0 (.aload_n 0) 1 1 := ⟨by decide +kernel, rfl⟩
theorem qX10_init_1 : Dq cX10_init 1 (.invokespecial 3) 3 4 := ⟨by decide +kernel, rfl⟩
theorem qX10_init_4 : Dq cX10_init 4 (.aload_n 0) 1 5 := ⟨by decide +kernel, rfl⟩
theorem qX10_init_5 : Dq cX10_init 5 (.sipush 160) 3 8 := ⟨by decide +kernel, rfl⟩
theorem qX10_init_8 : Dq cX10_init 8 (.newarray .int) 2 10 := ⟨by decide +kernel, rfl⟩
theorem qX10_init_10 : Dq cX10_init 10 (.putfield 9) 3 13 := ⟨by decide +kernel, rfl⟩
theorem qX10_init_13 : Dq cX10_init 13 (.aload_n 0) 1 14 := ⟨by decide +kernel, rfl⟩
theorem qX10_init_14 : Dq cX10_init 14 (.sipush 161) 3 17 := ⟨by decide +kernel, rfl⟩
theorem qX10_init_17 : Dq cX10_init 17 (.newarray .int) 2 19 := ⟨by decide +kernel, rfl⟩
theorem qX10_init_19 : Dq cX10_init 19 (.putfield 15) 3 22 := ⟨by decide +kernel, rfl⟩
theorem qX10_init_22 : Dq cX10_init 22 (.aload_n 0) 1 23 := ⟨by decide +kernel, rfl⟩
theorem qX10_init_23 : Dq cX10_init 23 (.sipush 161) 3 26 := ⟨by decide +kernel, rfl⟩
theorem qX10_init_26 : Dq cX10_init 26 (.newarray .int) 2 28 := ⟨by decide +kernel, rfl⟩
theorem qX10_init_28 : Dq cX10_init 28 (.putfield 18) 3 31 := ⟨by decide +kernel, rfl⟩
theorem qX10_init_31 : Dq cX10_init 31 (.aload_n 0) 1 32 := ⟨by decide +kernel, rfl⟩
theorem qX10_init_32 : Dq cX10_init 32 (.sipush 161) 3 35 := ⟨by decide +kernel, rfl⟩
theorem qX10_init_35 : Dq cX10_init 35 (.newarray .int) 2 37 := ⟨by decide +kernel, rfl⟩
theorem qX10_init_37 : Dq cX10_init 37 (.putfield 21) 3 40 := ⟨by decide +kernel, rfl⟩
theorem qX10_init_40 : Dq cX10_init 40 (.aload_n 0) 1 41 := ⟨by decide +kernel, rfl⟩
theorem qX10_init_41 : Dq cX10_init 41 (.sipush 160) 3 44 := ⟨by decide +kernel, rfl⟩
theorem qX10_init_44 : Dq cX10_init 44 (.newarray .int) 2 46 := ⟨by decide +kernel, rfl⟩
theorem qX10_init_46 : Dq cX10_init 46 (.putfield 24) 3 49 := ⟨by decide +kernel, rfl⟩
theorem qX10_init_49 : Dq cX10_init 49 (.return_) 1 50 := ⟨by decide +kernel, rfl⟩
set_option maxRecDepth 100000 in
set_option maxHeartbeats 4000000 in
theorem c_X10_init {G : Glb} {h : AHp} {a : Nat} (hk : Kd h a 10) (hN : hpN h + 20 < 1000000) : CP G m_X10_init 2 5 803 [.ref a] h (fun r h' => r = none ∧ (nA (nA (nA (nA (nA h 160 a 0) 161 a 3) 161 a 4) 161 a 5) 160 a 10) = h') := by
  suffices key : ∀ P : Option Value → AHp → Prop, (∀ r h', (r = none ∧ (nA (nA (nA (nA (nA h 160 a 0) 161 a 3) 161 a 4) 161 a 5) 160 a 10) = h') → P r h') → CP G m_X10_init 2 5 803 [.ref a] h P from key _ (fun _ _ z => z)
  intro P hP
  refine CP.of (by decide +kernel) (Nat.le_of_ble_eq_true rfl) fun X hX hR hnm => ?_
  show V X G 1 0 0 _ 0 [some (.ref a)] [] h
  refine v_aload_n hX rfl qX10_init_0 ?_
  refine v_objInit hX hR (Nat.le_of_ble_eq_true rfl) k_X10_3 (Nat.le_of_ble_eq_true rfl) qX10_init_1 ?_
  refine v_aload_n hX rfl qX10_init_4 ?_
  refine v_sipush hX ls_160 qX10_init_5 ?_
  refine v_newa (L := 160) (c := 100) hX hR (Or.inl ⟨rfl, rfl⟩) ar_int (by decide) rfl (Nat.le_of_ble_eq_true rfl) (show hpN h + 0 + 1 < 1000000 by omega) ⟨Nat.le_of_ble_eq_true rfl, Nat.le_of_ble_eq_true rfl⟩ qX10_init_8 ?_
  refine v_putR hX p_X10_9 (by first | exact hk | (repeat first | exact hk | refine Kd.sR ?_ | refine Kd.sI ?_ | refine Kd.sN ?_)) (Or.inr hnm) qX10_init_10 ?_
  refine v_aload_n hX rfl qX10_init_13 ?_
  refine v_sipush hX ls_161 qX10_init_14 ?_
  refine v_newa (L := 161) (c := 100) hX hR (Or.inl ⟨rfl, rfl⟩) ar_int (by decide) rfl (Nat.le_of_ble_eq_true rfl) (show hpN h + 1 + 1 < 1000000 by omega) ⟨Nat.le_of_ble_eq_true rfl, Nat.le_of_ble_eq_true rfl⟩ qX10_init_17 ?_
  refine v_putR hX p_X10_15 (by first | exact hk | (repeat first | exact hk | refine Kd.sR ?_ | refine Kd.sI ?_ | refine Kd.sN ?_)) (Or.inr hnm) qX10_init_19 ?_
  refine v_aload_n hX rfl qX10_init_22 ?_
  refine v_sipush hX ls_161 qX10_init_23 ?_
  refine v_newa (L := 161) (c := 100) hX hR (Or.inl ⟨rfl, rfl⟩) ar_int (by decide) rfl (Nat.le_of_ble_eq_true rfl) (show hpN h + 2 + 1 < 1000000 by omega) ⟨Nat.le_of_ble_eq_true rfl, Nat.le_of_ble_eq_true rfl⟩ qX10_init_26 ?_
  refine v_putR hX p_X10_18 (by first | exact hk | (repeat first | exact hk | refine Kd.sR ?_ | refine Kd.sI ?_ | refine Kd.sN ?_)) (Or.inr hnm) qX10_init_28 ?_
  refine v_aload_n hX rfl qX10_init_31 ?_
  refine v_sipush hX ls_161 qX10_init_32 ?_
  refine v_newa (L := 161) (c := 100) hX hR (Or.inl ⟨rfl, rfl⟩) ar_int (by decide) rfl (Nat.le_of_ble_eq_true rfl) (show hpN h + 3 + 1 < 1000000 by omega) ⟨Nat.le_of_ble_eq_true rfl, Nat.le_of_ble_eq_true rfl⟩ qX10_init_35 ?_
  refine v_putR hX p_X10_21 (by first | exact hk | (repeat first | exact hk | refine Kd.sR ?_ | refine Kd.sI ?_ | refine Kd.sN ?_)) (Or.inr hnm) qX10_init_37 ?_
  refine v_aload_n hX rfl qX10_init_40 ?_
  refine v_sipush hX ls_160 qX10_init_41 ?_
  refine v_newa (L := 160) (c := 100) hX hR (Or.inl ⟨rfl, rfl⟩) ar_int (by decide) rfl (Nat.le_of_ble_eq_true rfl) (show hpN h + 4 + 1 < 1000000 by omega) ⟨Nat.le_of_ble_eq_true rfl, Nat.le_of_ble_eq_true rfl⟩ qX10_init_44 ?_
  refine v_putR hX p_X10_24 (by first | exact hk | (repeat first | exact hk | refine Kd.sR ?_ | refine Kd.sI ?_ | refine Kd.sN ?_)) (Or.inr hnm) qX10_init_46 ?_
  refine v_widen (rt := none) (Nat.le_of_ble_eq_true rfl) (Nat.le_of_ble_eq_true rfl) (v_return hX qX10_init_49 (hP _ _ ?_))
  exact ⟨rfl, rfl⟩
theorem qX5_init_0 : Dq cX5_init 0 (.aload_n 0) 1 1 := ⟨by decide +kernel, rfl⟩
theorem qX5_init_1 : Dq cX5_init 1 (.invokespecial 3) 3 4 := ⟨by decide +kernel, rfl⟩
theorem qX5_init_4 : Dq cX5_init 4 (.aload_n 0) 1 5 := ⟨by decide +kernel, rfl⟩
theorem qX5_init_5 : Dq cX5_init 5 (.sipush 960) 3 8 := ⟨by decide +kernel, rfl⟩
theorem qX5_init_8 : Dq cX5_init 8 (.newarray .int) 2 10 := ⟨by decide +kernel, rfl⟩
theorem qX5_init_10 : Dq cX5_init 10 (.putfield 9) 3 13 := ⟨by decide +kernel, rfl⟩
theorem qX5_init_13 : Dq cX5_init 13 (.aload_n 0) 1 14 := ⟨by decide +kernel, rfl⟩
theorem qX5_init_14 : Dq cX5_init 14 (.bipush 19) 2 16 := ⟨by decide +kernel, rfl⟩
theorem qX5_init_16 : Dq cX5_init 16 (.newarray .int) 2 18 := ⟨by decide +kernel, rfl⟩
theorem qX5_init_18 : Dq cX5_init 18 (.putfield 15) 3 21 := ⟨by decide +kernel, rfl⟩
theorem qX5_init_21 : Dq cX5_init 21 (.aload_n 0) 1 22 := ⟨by decide +kernel, rfl⟩
theorem qX5_init_22 : Dq cX5_init 22 (.bipush 6) 2 24 := ⟨by decide +kernel, rfl⟩
theorem qX5_init_24 : Dq cX5_init 24 (.newarray .int) 2 26 := ⟨by decide +kernel, rfl⟩
theorem qX5_init_26 : Dq cX5_init 26 (.putfield 18) 3 29 := ⟨by decide +kernel, rfl⟩
theorem qX5_init_29 : Dq cX5_init 29 (.aload_n 0) 1 30 := ⟨by decide +kernel, rfl⟩
theorem qX5_init_30 : Dq cX5_init 30 (.bipush 31) 2 32 := ⟨by decide +kernel, rfl⟩
theorem qX5_init_32 : Dq cX5_init 32 (.newarray .int) 2 34 := ⟨by decide +kernel, rfl⟩
theorem qX5_init_34 : Dq cX5_init 34 (.putfield 21) 3 37 := ⟨by decide +kernel, rfl⟩
theorem qX5_init_37 : Dq cX5_init 37 (.aload_n 0) 1 38 := ⟨by decide +kernel, rfl⟩
theorem qX5_init_38 : Dq cX5_init 38 (.bipush 48) 2 40 := ⟨by decide +kernel, rfl⟩
theorem qX5_init_40 : Dq cX5_init 40 (.newarray .int) 2 42 := ⟨by decide +kernel, rfl⟩
theorem qX5_init_42 : Dq cX5_init 42 (.putfield 24) 3 45 := ⟨by decide +kernel, rfl⟩
theorem qX5_init_45 : Dq cX5_init 45 (.aload_n 0) 1 46 := ⟨by decide +kernel, rfl⟩
theorem qX5_init_46 : Dq cX5_init 46 (.bipush 48) 2 48 := ⟨by decide +kernel, rfl⟩
theorem qX5_init_48 : Dq cX5_init 48 (.newarray .int) 2 50 := ⟨by decide +kernel, rfl⟩
theorem qX5_init_50 : Dq cX5_init 50 (.putfield 27) 3 53 := ⟨by decide +kernel, rfl⟩
theorem qX5_init_53 : Dq cX5_init 53 (.aload_n 0) 1 54 := ⟨by decide +kernel, rfl⟩
theorem qX5_init_54 : Dq cX5_init 54 (.bipush 48) 2 56 := ⟨by decide +kernel, rfl⟩
theorem qX5_init_56 : Dq cX5_init 56 (.newarray .int) 2 58 := ⟨by decide +kernel, rfl⟩
theorem qX5_init_58 : Dq cX5_init 58 (.putfield 30) 3 61 := ⟨by decide +kernel, rfl⟩
theorem qX5_init_61 : Dq cX5_init 61 (.aload_n 0) 1 62 := ⟨by decide +kernel, rfl⟩
theorem qX5_init_62 : Dq cX5_init 62 (.bipush 48) 2 64 := ⟨by decide +kernel, rfl⟩
theorem qX5_init_64 : Dq cX5_init 64 (.newarray .int) 2 66 := ⟨by decide +kernel, rfl⟩
theorem qX5_init_66 : Dq cX5_init 66 (.putfield 33) 3 69 := ⟨by decide +kernel, rfl⟩
theorem qX5_init_69 : Dq cX5_init 69 (.return_) 1 70 := ⟨by decide +kernel, rfl⟩
set_option maxRecDepth 100000 in
set_option maxHeartbeats 4000000 in
theorem c_X5_init {G : Glb} {h : AHp} {a : Nat} (hk : Kd h a 5) (hN : hpN h + 20 < 1000000) : CP G m_X5_init 2 8 1208 [.ref a] h (fun r h' => r = none ∧ (nA (nA (nA (nA (nA (nA (nA (nA h 960 a 0) 19 a 1) 6 a 3) 31 a 4) 48 a 6) 48 a 7) 48 a 8) 48 a 9) = h') := by
  suffices key : ∀ P : Option Value → AHp → Prop, (∀ r h', (r = none ∧ (nA (nA (nA (nA (nA (nA (nA (nA h 960 a 0) 19 a 1) 6 a 3) 31 a 4) 48 a 6) 48 a 7) 48 a 8) 48 a 9) = h') → P r h') → CP G m_X5_init 2 8 1208 [.ref a] h P from key _ (fun _ _ z => z)
  intro P hP
  refine CP.of (by decide +kernel) (Nat.le_of_ble_eq_true rfl) fun X hX hR hnm => ?_
  show V X G 1 0 0 _ 0 [some (.ref a)] [] h
  refine v_aload_n hX rfl qX5_init_0 ?_
  refine v_objInit hX hR (Nat.le_of_ble_eq_true rfl) k_X5_3 (Nat.le_of_ble_eq_true rfl) qX5_init_1 ?_
  refine v_aload_n hX rfl qX5_init_4 ?_
  refine v_sipush hX ls_960 qX5_init_5 ?_
  refine v_newa (L := 960) (c := 100) hX hR (Or.inl ⟨rfl, rfl⟩) ar_int (by decide) rfl (Nat.le_of_ble_eq_true rfl) (show hpN h + 0 + 1 < 1000000 by omega) ⟨Nat.le_of_ble_eq_true rfl, Nat.le_of_ble_eq_true rfl⟩ qX5_init_8 ?_
  refine v_putR hX p_X5_9 (by first | exact hk | (repeat first | exact hk | refine Kd.sR ?_ | refine Kd.sI ?_ | refine Kd.sN ?_)) (Or.inr hnm) qX5_init_10 ?_
  refine v_aload_n hX rfl qX5_init_13 ?_
  refine v_bipush hX lb_19 qX5_init_14 ?_
  refine v_newa (L := 19) (c := 100) hX hR (Or.inl ⟨rfl, rfl⟩) ar_int (by decide) rfl (Nat.le_of_ble_eq_true rfl) (show hpN h + 1 + 1 < 1000000 by omega) ⟨Nat.le_of_ble_eq_true rfl, Nat.le_of_ble_eq_true rfl⟩ qX5_init_16 ?_
  refine v_putR hX p_X5_15 (by first | exact hk | (repeat first | exact hk | refine Kd.sR ?_ | refine Kd.sI ?_ | refine Kd.sN ?_)) (Or.inr hnm) qX5_init_18 ?_
  refine v_aload_n hX rfl qX5_init_21 ?_
  refine v_bipush hX lb_6 qX5_init_22 ?_
  refine v_newa (L := 6) (c := 100) hX hR (Or.inl ⟨rfl, rfl⟩) ar_int (by decide) rfl (Nat.le_of_ble_eq_true rfl) (show hpN h + 2 + 1 < 1000000 by omega) ⟨Nat.le_of_ble_eq_true rfl, Nat.le_of_ble_eq_true rfl⟩ qX5_init_24 ?_
  refine v_putR hX p_X5_18 (by first | exact hk | (repeat first | exact hk | refine Kd.sR ?_ | refine Kd.sI ?_ | refine Kd.sN ?_)) (Or.inr hnm) qX5_init_26 ?_
  refine v_aload_n hX rfl qX5_init_29 ?_
  refine v_bipush hX lb_31 qX5_init_30 ?_
  refine v_newa (L := 31) (c := 100) hX hR (Or.inl ⟨rfl, rfl⟩) ar_int (by decide) rfl (Nat.le_of_ble_eq_true rfl) (show hpN h + 3 + 1 < 1000000 by omega) ⟨Nat.le_of_ble_eq_true rfl, Nat.le_of_ble_eq_true rfl⟩ qX5_init_32 ?_
  refine v_putR hX p_X5_21 (by first | exact hk | (repeat first | exact hk | refine Kd.sR ?_ | refine Kd.sI ?_ | refine Kd.sN ?_)) (Or.inr hnm) qX5_init_34 ?_
  refine v_aload_n hX rfl qX5_init_37 ?_
  refine v_bipush hX lb_48 qX5_init_38 ?_
  refine v_newa (L := 48) (c := 100) hX hR (Or.inl ⟨rfl, rfl⟩) ar_int (by decide) rfl (Nat.le_of_ble_eq_true rfl) (show hpN h + 4 + 1 < 1000000 by omega) ⟨Nat.le_of_ble_eq_true rfl, Nat.le_of_ble_eq_true rfl⟩ qX5_init_40 ?_
  refine v_putR hX p_X5_24 (by first | exact hk | (repeat first | exact hk | refine Kd.sR ?_ | refine Kd.sI ?_ | refine Kd.sN ?_)) (Or.inr hnm) qX5_init_42 ?_
  refine v_aload_n hX rfl qX5_init_45 ?_
  refine v_bipush hX lb_48 qX5_init_46 ?_
  refine v_newa (L := 48) (c := 100) hX hR (Or.inl ⟨rfl, rfl⟩) ar_int (by decide) rfl (Nat.le_of_ble_eq_true rfl) (show hpN h + 5 + 1 < 1000000 by omega) ⟨Nat.le_of_ble_eq_true rfl, Nat.le_of_ble_eq_true rfl⟩ qX5_init_48 ?_
  refine v_putR hX p_X5_27 (by first | exact hk | (repeat first | exact hk | refine Kd.sR ?_ | refine Kd.sI ?_ | refine Kd.sN ?_)) (Or.inr hnm) qX5_init_50 ?_
  refine v_aload_n hX rfl qX5_init_53 ?_
  refine v_bipush hX lb_48 qX5_init_54 ?_
  refine v_newa (L := 48) (c := 100) hX hR (Or.inl ⟨rfl, rfl⟩) ar_int (by decide) rfl (Nat.le_of_ble_eq_true rfl) (show hpN h + 6 + 1 < 1000000 by omega) ⟨Nat.le_of_ble_eq_true rfl, Nat.le_of_ble_eq_true rfl⟩ qX5_init_56 ?_
  refine v_putR hX p_X5_30 (by first | exact hk | (repeat first | exact hk | refine Kd.sR ?_ | refine Kd.sI ?_ | refine Kd.sN ?_)) (Or.inr hnm) qX5_init_58 ?_
  refine v_aload_n hX rfl qX5_init_61 ?_
  refine v_bipush hX lb_48 qX5_init_62 ?_
  refine v_newa (L := 48) (c := 100) hX hR (Or.inl ⟨rfl, rfl⟩) ar_int (by decide) rfl (Nat.le_of_ble_eq_true rfl) (show hpN h + 7 + 1 < 1000000 by omega) ⟨Nat.le_of_ble_eq_true rfl, Nat.le_of_ble_eq_true rfl⟩ qX5_init_64 ?_
  refine v_putR hX p_X5_33 (by first | exact hk | (repeat first | exact hk | refine Kd.sR ?_ | refine Kd.sI ?_ | refine Kd.sN ?_)) (Or.inr hnm) qX5_init_66 ?_
  refine v_widen (rt := none) (Nat.le_of_ble_eq_true rfl) (Nat.le_of_ble_eq_true rfl) (v_return hX qX5_init_69 (hP _ _ ?_))
  exact ⟨rfl, rfl⟩
theorem qX9_init_0 : Dq cX9_init 0 (.aload_n 0) 1 1 := ⟨by decide +kernel, rfl⟩
theorem qX9_init_1 : Dq cX9_init 1 (.invokespecial 3) 3 4 := ⟨by decide +kernel, rfl⟩
theorem qX9_init_4 : Dq cX9_init 4 (.aload_n 0) 1 5 := ⟨by decide +kernel, rfl⟩
theorem qX9_init_5 : Dq cX9_init 5 (.bipush 20) 2 7 := ⟨by decide +kernel, rfl⟩
theorem qX9_init_7 : Dq cX9_init 7 (.newarray .int) 2 9 := ⟨by decide +kernel, rfl⟩
theorem qX9_init_9 : Dq cX9_init 9 (.putfield 9) 3 12 := ⟨by decide +kernel, rfl⟩
theorem qX9_init_12 : Dq cX9_init 12 (.aload_n 0) 1 13 := ⟨by decide +kernel, rfl⟩
theorem qX9_init_13 : Dq cX9_init 13 (.bipush 20) 2 15 := ⟨by decide +kernel, rfl⟩
theorem qX9_init_15 : Dq cX9_init 15 (.newarray .int) 2 17 := ⟨by decide +kernel, rfl⟩
theorem qX9_init_17 : Dq cX9_init 17 (.putfield 15) 3 20 := ⟨by decide +kernel, rfl⟩
theorem qX9_init_20 : Dq cX9_init 20 (.return_) 1 21 := ⟨by decide +kernel, rfl⟩
set_option maxRecDepth 100000 in
set_option maxHeartbeats 4000000 in
theorem c_X9_init {G : Glb} {h : AHp} {a : Nat} (hk : Kd h a 9) (hN : hpN h + 20 < 1000000) : CP G m_X9_init 2 2 40 [.ref a] h (fun r h' => r = none ∧ (nA (nA h 20 a 0) 20 a 1) = h') := by
  suffices key : ∀ P : Option Value → AHp → Prop, (∀ r h', (r = none ∧ (nA (nA h 20 a 0) 20 a 1) = h') → P r h') → CP G m_X9_init 2 2 40 [.ref a] h P from key _ (fun _ _ z => z)
  intro P hP
  refine CP.of (by decide +kernel) (Nat.le_of_ble_eq_true rfl) fun X hX hR hnm => ?_
  show V X G 1 0 0 _ 0 [some (.ref a)] [] h
  refine v_aload_n hX rfl qX9_init_0 ?_
  refine v_objInit hX hR (Nat.le_of_ble_eq_true rfl) k_X9_3 (Nat.le_of_ble_eq_true rfl) qX9_init_1 ?_
  refine v_aload_n hX rfl qX9_init_4 ?_
  refine v_bipush hX lb_20 qX9_init_5 ?_
  refine v_newa (L := 20) (c := 100) hX hR (Or.inl ⟨rfl, rfl⟩) ar_int (by decide) rfl (Nat.le_of_ble_eq_true rfl) (show hpN h + 0 + 1 < 1000000 by omega) ⟨Nat.le_of_ble_eq_true rfl, Nat.le_of_ble_eq_true rfl⟩ qX9_init_7 ?_
  refine v_putR hX p_X9_9 (by first | exact hk | (repeat first | exact hk | refine Kd.sR ?_ | refine Kd.sI ?_ | refine Kd.sN ?_)) (Or.inr hnm) qX9_init_9 ?_
  refine v_aload_n hX rfl qX9_init_12 ?_
  refine v_bipush hX lb_20 qX9_init_13 ?_
  refine v_newa (L := 20) (c := 100) hX hR (Or.inl ⟨rfl, rfl⟩) ar_int (by decide) rfl (Nat.le_of_ble_eq_true rfl) (show hpN h + 1 + 1 < 1000000 by omega) ⟨Nat.le_of_ble_eq_true rfl, Nat.le_of_ble_eq_true rfl⟩ qX9_init_15 ?_
  refine v_putR hX p_X9_15 (by first | exact hk | (repeat first | exact hk | refine Kd.sR ?_ | refine Kd.sI ?_ | refine Kd.sN ?_)) (Or.inr hnm) qX9_init_17 ?_
  refine v_widen (rt := none) (Nat.le_of_ble_eq_true rfl) (Nat.le_of_ble_eq_true rfl) (v_return hX qX9_init_20 (hP _ _ ?_))
  exact ⟨rfl, rfl⟩
theorem qX6_init_0 : Dq cX6_init 0 (.aload_n 0) 1 1 := ⟨by decide +kernel, rfl⟩
theorem qX6_init_1 : Dq cX6_init 1 (.invokespecial 3) 3 4 := ⟨by decide +kernel, rfl⟩
theorem qX6_init_4 : Dq cX6_init 4 (.aload_n 0) 1 5 := ⟨by decide +kernel, rfl⟩
theorem qX6_init_5 : Dq cX6_init 5 (.bipush 40) 2 7 := ⟨by decide +kernel, rfl⟩
theorem qX6_init_7 : Dq cX6_init 7 (.newarray .int) 2 9 := ⟨by decide +kernel, rfl⟩
theorem qX6_init_9 : Dq cX6_init 9 (.putfield 9) 3 12 := ⟨by decide +kernel, rfl⟩
theorem qX6_init_12 : Dq cX6_init 12 (.aload_n 0) 1 13 := ⟨by decide +kernel, rfl⟩
theorem qX6_init_13 : Dq cX6_init 13 (.iconst (-1)) 1 14 := ⟨by decide +kernel, rfl⟩
theorem qX6_init_14 : Dq cX6_init 14 (.putfield 15) 3 17 := ⟨by decide +kernel, rfl⟩
theorem qX6_init_17 : Dq cX6_init 17 (.return_) 1 18 := ⟨by decide +kernel, rfl⟩
set_option maxRecDepth 100000 in
set_option maxHeartbeats 4000000 in
theorem c_X6_init {G : Glb} {h : AHp} {a : Nat} (hk : Kd h a 6) (hN : hpN h + 20 < 1000000) : CP G m_X6_init 2 1 40 [.ref a] h (fun r h' => r = none ∧ stI (nA h 40 a 0) a 1 (-1) = h') := by
  suffices key : ∀ P : Option Value → AHp → Prop, (∀ r h', (r = none ∧ stI (nA h 40 a 0) a 1 (-1) = h') → P r h') → CP G m_X6_init 2 1 40 [.ref a] h P from key _ (fun _ _ z => z)
  intro P hP
  refine CP.of (by decide +kernel) (Nat.le_of_ble_eq_true rfl) fun X hX hR hnm => ?_
  show V X G 1 0 0 _ 0 [some (.ref a)] [] h
  refine v_aload_n hX rfl qX6_init_0 ?_
  refine v_objInit hX hR (Nat.le_of_ble_eq_true rfl) k_X6_3 (Nat.le_of_ble_eq_true rfl) qX6_init_1 ?_
  refine v_aload_n hX rfl qX6_init_4 ?_
  refine v_bipush hX lb_40 qX6_init_5 ?_
  refine v_newa (L := 40) (c := 100) hX hR (Or.inl ⟨rfl, rfl⟩) ar_int (by decide) rfl (Nat.le_of_ble_eq_true rfl) (show hpN h + 0 + 1 < 1000000 by omega) ⟨Nat.le_of_ble_eq_true rfl, Nat.le_of_ble_eq_true rfl⟩ qX6_init_7 ?_
  refine v_putR hX p_X6_9 (by first | exact hk | (repeat first | exact hk | refine Kd.sR ?_ | refine Kd.sI ?_ | refine Kd.sN ?_)) (Or.inr hnm) qX6_init_9 ?_
  refine v_aload_n hX rfl qX6_init_12 ?_
  refine v_iconst hX li_n1 qX6_init_13 ?_
  refine v_putI hX p_X6_15 (by first | exact hk | (repeat first | exact hk | refine Kd.sR ?_ | refine Kd.sI ?_ | refine Kd.sN ?_)) (Or.inl rfl) qX6_init_14 ?_
  refine v_widen (rt := none) (Nat.le_of_ble_eq_true rfl) (Nat.le_of_ble_eq_true rfl) (v_return hX qX6_init_17 (hP _ _ ?_))
  exact ⟨rfl, rfl⟩
