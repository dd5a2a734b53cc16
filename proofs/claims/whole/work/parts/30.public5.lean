/-! public calls of the class: taken, copy, sheet -/
abbrev m_J7_fill_53178 : Mth := (yJ7_fill_53178, cJ7_fill_53178, 4, none)
theorem mi_J7_fill : MI m_J7_fill_53178 2 := ⟨tg_mem 1040 (by decide +kernel) (by decide +kernel), tg_mem 105 (by decide +kernel) (by decide +kernel), ⟨by decide +kernel, by decide +kernel, by decide +kernel⟩, Nat.le_of_ble_eq_true rfl⟩
theorem k_X6_26 : MS RX6 26 m_J7_fill_53178 2 := ⟨mi_J7_fill, tg_mem 1038 (by decide +kernel) (by decide +kernel), tg_mem 1039 (by decide +kernel) (by decide +kernel)⟩
theorem qX11_isOfKind_0 : Dq cX11_isOfKind 0 (.iload_n 1) 1 1 := ⟨by decide +kernel, rfl⟩
theorem qX11_isOfKind_1 : Dq cX11_isOfKind 1 (.tableswitch 66 0 5 #[39, 41, 46, 51, 56, 61]) 39 40 := ⟨by decide +kernel, rfl⟩
theorem qX11_isOfKind_40 : Dq cX11_isOfKind 40 (.iconst 1) 1 41 := ⟨by decide +kernel, rfl⟩
theorem qX11_isOfKind_41 : Dq cX11_isOfKind 41 (.ireturn) 1 42 := ⟨by decide +kernel, rfl⟩
theorem qX11_isOfKind_42 : Dq cX11_isOfKind 42 (.aload_n 0) 1 43 := ⟨by decide +kernel, rfl⟩
theorem qX11_isOfKind_43 : Dq cX11_isOfKind 43 (.instanceof 348) 3 46 := ⟨by decide +kernel, rfl⟩
theorem qX11_isOfKind_46 : Dq cX11_isOfKind 46 (.ireturn) 1 47 := ⟨by decide +kernel, rfl⟩
theorem qX11_isOfKind_47 : Dq cX11_isOfKind 47 (.aload_n 0) 1 48 := ⟨by decide +kernel, rfl⟩
theorem qX11_isOfKind_48 : Dq cX11_isOfKind 48 (.instanceof 352) 3 51 := ⟨by decide +kernel, rfl⟩
theorem qX11_isOfKind_51 : Dq cX11_isOfKind 51 (.ireturn) 1 52 := ⟨by decide +kernel, rfl⟩
theorem qX11_isOfKind_52 : Dq cX11_isOfKind 52 (.aload_n 0) 1 53 := ⟨by decide +kernel, rfl⟩
theorem qX11_isOfKind_53 : Dq cX11_isOfKind 53 (.instanceof 355) 3 56 := ⟨by decide +kernel, rfl⟩
theorem qX11_isOfKind_56 : Dq cX11_isOfKind 56 (.ireturn) 1 57 := ⟨by decide +kernel, rfl⟩
theorem qX11_isOfKind_57 : Dq cX11_isOfKind 57 (.aload_n 0) 1 58 := ⟨by decide +kernel, rfl⟩
theorem qX11_isOfKind_58 : Dq cX11_isOfKind 58 (.instanceof 358) 3 61 := ⟨by decide +kernel, rfl⟩
theorem qX11_isOfKind_61 : Dq cX11_isOfKind 61 (.ireturn) 1 62 := ⟨by decide +kernel, rfl⟩
theorem qX11_isOfKind_62 : Dq cX11_isOfKind 62 (.aload_n 0) 1 63 := ⟨by decide +kernel, rfl⟩
theorem qX11_isOfKind_63 : Dq cX11_isOfKind 63 (.instanceof 361) 3 66 := ⟨by decide +kernel, rfl⟩
theorem qX11_isOfKind_66 : Dq cX11_isOfKind 66 (.ireturn) 1 67 := ⟨by decide +kernel, rfl⟩
theorem qX11_isOfKind_67 : Dq cX11_isOfKind 67 (.iconst 0) 1 68 := ⟨by decide +kernel, rfl⟩
theorem qX11_isOfKind_68 : Dq cX11_isOfKind 68 (.ireturn) 1 69 := ⟨by decide +kernel, rfl⟩
set_option maxRecDepth 100000 in
set_option maxHeartbeats 4000000 in
theorem c_isOfKind {G : Glb} {h : AHp} {x a : Nat} (hx6 : x < 6) (hk : Kd h a (kcl x)) {kk : Nat} (hkk : kk < 6) : CP G m_X11_isOfKind 1 0 0 [.ref a, .int (nI kk)] h (fun r h' => r = some (.int (bz (isU x kk = true))) ∧ h = h') := by
  suffices key : ∀ P : Option Value → AHp → Prop, (∀ r h', (r = some (.int (bz (isU x kk = true))) ∧ h = h') → P r h') → CP G m_X11_isOfKind 1 0 0 [.ref a, .int (nI kk)] h P from key _ (fun _ _ z => z)
  intro P hP
  refine CP.of (by decide +kernel) (Nat.le_of_ble_eq_true rfl) fun X hX hR hnm => ?_
  show V X G 2 0 0 _ 0 [some (.ref a), some (.int (nI kk))] [] h
  have hx0 : x = 0 ∨ x = 1 ∨ x = 2 ∨ x = 3 ∨ x = 4 ∨ x = 5 := by omega
  rcases hx0 with rfl | rfl | rfl | rfl | rfl | rfl
  · skip
    refine v_iload_n hX rfl qX11_isOfKind_0 ?_
    refine v_case (0 : Int32) (fun q1 => ?_) (fun q1_0 => ?_)
    · have ek : kk = 0 := (nI_eq (a := kk) (b := 0) (by omega) (by omega)).mp q1
      refine v_tableIn (off := 39) hX 40 qX11_isOfKind_1 (by first | exact (by rw [q1]; decide) | decide) (by first | exact (by rw [q1]; decide) | decide) (by first | exact (by rw [q1]; rfl) | rfl) rfl ?_
      refine v_iconst hX li_1 qX11_isOfKind_40 ?_
      refine v_zreturn hX (by first | exact Or.inl rfl | exact Or.inr rfl | exact bz01 _) qX11_isOfKind_41 (hP _ _ ?_)
      rw [ek]
      first | exact ⟨rz (bz_t (by decide)), rfl⟩ | exact ⟨rz (bz_f (by decide)), rfl⟩
    refine v_case (1 : Int32) (fun q1 => ?_) (fun q1_1 => ?_)
    · have ek : kk = 1 := (nI_eq (a := kk) (b := 1) (by omega) (by omega)).mp q1
      refine v_tableIn (off := 41) hX 42 qX11_isOfKind_1 (by first | exact (by rw [q1]; decide) | decide) (by first | exact (by rw [q1]; decide) | decide) (by first | exact (by rw [q1]; rfl) | rfl) rfl ?_
      refine v_aload_n hX rfl qX11_isOfKind_42 ?_
      refine v_instNo hX hk rfl (Nat.le_of_ble_eq_true rfl) l_X11_348 (hNc hX 0 rfl) qX11_isOfKind_43 ?_
      refine v_zreturn hX (by first | exact Or.inl rfl | exact Or.inr rfl | exact bz01 _) qX11_isOfKind_46 (hP _ _ ?_)
      rw [ek]
      first | exact ⟨rz (bz_t (by decide)), rfl⟩ | exact ⟨rz (bz_f (by decide)), rfl⟩
    refine v_case (2 : Int32) (fun q1 => ?_) (fun q1_2 => ?_)
    · have ek : kk = 2 := (nI_eq (a := kk) (b := 2) (by omega) (by omega)).mp q1
      refine v_tableIn (off := 46) hX 47 qX11_isOfKind_1 (by first | exact (by rw [q1]; decide) | decide) (by first | exact (by rw [q1]; decide) | decide) (by first | exact (by rw [q1]; rfl) | rfl) rfl ?_
      refine v_aload_n hX rfl qX11_isOfKind_47 ?_
      refine v_instNo hX hk rfl (Nat.le_of_ble_eq_true rfl) l_X11_352 (hNc hX 1 rfl) qX11_isOfKind_48 ?_
      refine v_zreturn hX (by first | exact Or.inl rfl | exact Or.inr rfl | exact bz01 _) qX11_isOfKind_51 (hP _ _ ?_)
      rw [ek]
      first | exact ⟨rz (bz_t (by decide)), rfl⟩ | exact ⟨rz (bz_f (by decide)), rfl⟩
    refine v_case (3 : Int32) (fun q1 => ?_) (fun q1_3 => ?_)
    · have ek : kk = 3 := (nI_eq (a := kk) (b := 3) (by omega) (by omega)).mp q1
      refine v_tableIn (off := 51) hX 52 qX11_isOfKind_1 (by first | exact (by rw [q1]; decide) | decide) (by first | exact (by rw [q1]; decide) | decide) (by first | exact (by rw [q1]; rfl) | rfl) rfl ?_
      refine v_aload_n hX rfl qX11_isOfKind_52 ?_
      refine v_instNo hX hk rfl (Nat.le_of_ble_eq_true rfl) l_X11_355 (hNc hX 2 rfl) qX11_isOfKind_53 ?_
      refine v_zreturn hX (by first | exact Or.inl rfl | exact Or.inr rfl | exact bz01 _) qX11_isOfKind_56 (hP _ _ ?_)
      rw [ek]
      first | exact ⟨rz (bz_t (by decide)), rfl⟩ | exact ⟨rz (bz_f (by decide)), rfl⟩
    refine v_case (4 : Int32) (fun q1 => ?_) (fun q1_4 => ?_)
    · have ek : kk = 4 := (nI_eq (a := kk) (b := 4) (by omega) (by omega)).mp q1
      refine v_tableIn (off := 56) hX 57 qX11_isOfKind_1 (by first | exact (by rw [q1]; decide) | decide) (by first | exact (by rw [q1]; decide) | decide) (by first | exact (by rw [q1]; rfl) | rfl) rfl ?_
      refine v_aload_n hX rfl qX11_isOfKind_57 ?_
      refine v_instNo hX hk rfl (Nat.le_of_ble_eq_true rfl) l_X11_358 (hNc hX 3 rfl) qX11_isOfKind_58 ?_
      refine v_zreturn hX (by first | exact Or.inl rfl | exact Or.inr rfl | exact bz01 _) qX11_isOfKind_61 (hP _ _ ?_)
      rw [ek]
      first | exact ⟨rz (bz_t (by decide)), rfl⟩ | exact ⟨rz (bz_f (by decide)), rfl⟩
    refine v_case (5 : Int32) (fun q1 => ?_) (fun q1_5 => ?_)
    · have ek : kk = 5 := (nI_eq (a := kk) (b := 5) (by omega) (by omega)).mp q1
      refine v_tableIn (off := 61) hX 62 qX11_isOfKind_1 (by first | exact (by rw [q1]; decide) | decide) (by first | exact (by rw [q1]; decide) | decide) (by first | exact (by rw [q1]; rfl) | rfl) rfl ?_
      refine v_aload_n hX rfl qX11_isOfKind_62 ?_
      refine v_instNo hX hk rfl (Nat.le_of_ble_eq_true rfl) l_X11_361 (hNc hX 4 rfl) qX11_isOfKind_63 ?_
      refine v_zreturn hX (by first | exact Or.inl rfl | exact Or.inr rfl | exact bz01 _) qX11_isOfKind_66 (hP _ _ ?_)
      rw [ek]
      first | exact ⟨rz (bz_t (by decide)), rfl⟩ | exact ⟨rz (bz_f (by decide)), rfl⟩
    refine v_tableOut hX 67 qX11_isOfKind_1 ?_ rfl ?_
    · have z0 := ne_i (0) (by decide) q1_0; have z1 := ne_i (1) (by decide) q1_1; have z2 := ne_i (2) (by decide) q1_2; have z3 := ne_i (3) (by decide) q1_3; have z4 := ne_i (4) (by decide) q1_4; have z5 := ne_i (5) (by decide) q1_5; omega
    refine v_iconst hX li_0 qX11_isOfKind_67 ?_
    refine v_zreturn hX (by first | exact Or.inl rfl | exact Or.inr rfl | exact bz01 _) qX11_isOfKind_68 (hP _ _ ?_)
    have hk0 : kk = 0 ∨ kk = 1 ∨ kk = 2 ∨ kk = 3 ∨ kk = 4 ∨ kk = 5 := by omega
    rcases hk0 with rfl | rfl | rfl | rfl | rfl | rfl <;> first | exact absurd rfl q1_0 | exact absurd rfl q1_1 | exact absurd rfl q1_2 | exact absurd rfl q1_3 | exact absurd rfl q1_4 | exact absurd rfl q1_5
  · skip
    refine v_iload_n hX rfl qX11_isOfKind_0 ?_
    refine v_case (0 : Int32) (fun q1 => ?_) (fun q1_0 => ?_)
    · have ek : kk = 0 := (nI_eq (a := kk) (b := 0) (by omega) (by omega)).mp q1
      refine v_tableIn (off := 39) hX 40 qX11_isOfKind_1 (by first | exact (by rw [q1]; decide) | decide) (by first | exact (by rw [q1]; decide) | decide) (by first | exact (by rw [q1]; rfl) | rfl) rfl ?_
      refine v_iconst hX li_1 qX11_isOfKind_40 ?_
      refine v_zreturn hX (by first | exact Or.inl rfl | exact Or.inr rfl | exact bz01 _) qX11_isOfKind_41 (hP _ _ ?_)
      rw [ek]
      first | exact ⟨rz (bz_t (by decide)), rfl⟩ | exact ⟨rz (bz_f (by decide)), rfl⟩
    refine v_case (1 : Int32) (fun q1 => ?_) (fun q1_1 => ?_)
    · have ek : kk = 1 := (nI_eq (a := kk) (b := 1) (by omega) (by omega)).mp q1
      refine v_tableIn (off := 41) hX 42 qX11_isOfKind_1 (by first | exact (by rw [q1]; decide) | decide) (by first | exact (by rw [q1]; decide) | decide) (by first | exact (by rw [q1]; rfl) | rfl) rfl ?_
      refine v_aload_n hX rfl qX11_isOfKind_42 ?_
      refine v_instY hX hk rfl (Nat.le_of_ble_eq_true rfl) l_X11_348 (Or.inl rfl) qX11_isOfKind_43 ?_
      refine v_zreturn hX (by first | exact Or.inl rfl | exact Or.inr rfl | exact bz01 _) qX11_isOfKind_46 (hP _ _ ?_)
      rw [ek]
      first | exact ⟨rz (bz_t (by decide)), rfl⟩ | exact ⟨rz (bz_f (by decide)), rfl⟩
    refine v_case (2 : Int32) (fun q1 => ?_) (fun q1_2 => ?_)
    · have ek : kk = 2 := (nI_eq (a := kk) (b := 2) (by omega) (by omega)).mp q1
      refine v_tableIn (off := 46) hX 47 qX11_isOfKind_1 (by first | exact (by rw [q1]; decide) | decide) (by first | exact (by rw [q1]; decide) | decide) (by first | exact (by rw [q1]; rfl) | rfl) rfl ?_
      refine v_aload_n hX rfl qX11_isOfKind_47 ?_
      refine v_instNo hX hk rfl (Nat.le_of_ble_eq_true rfl) l_X11_352 (hNc hX 5 rfl) qX11_isOfKind_48 ?_
      refine v_zreturn hX (by first | exact Or.inl rfl | exact Or.inr rfl | exact bz01 _) qX11_isOfKind_51 (hP _ _ ?_)
      rw [ek]
      first | exact ⟨rz (bz_t (by decide)), rfl⟩ | exact ⟨rz (bz_f (by decide)), rfl⟩
    refine v_case (3 : Int32) (fun q1 => ?_) (fun q1_3 => ?_)
    · have ek : kk = 3 := (nI_eq (a := kk) (b := 3) (by omega) (by omega)).mp q1
      refine v_tableIn (off := 51) hX 52 qX11_isOfKind_1 (by first | exact (by rw [q1]; decide) | decide) (by first | exact (by rw [q1]; decide) | decide) (by first | exact (by rw [q1]; rfl) | rfl) rfl ?_
      refine v_aload_n hX rfl qX11_isOfKind_52 ?_
      refine v_instNo hX hk rfl (Nat.le_of_ble_eq_true rfl) l_X11_355 (hNc hX 6 rfl) qX11_isOfKind_53 ?_
      refine v_zreturn hX (by first | exact Or.inl rfl | exact Or.inr rfl | exact bz01 _) qX11_isOfKind_56 (hP _ _ ?_)
      rw [ek]
      first | exact ⟨rz (bz_t (by decide)), rfl⟩ | exact ⟨rz (bz_f (by decide)), rfl⟩
    refine v_case (4 : Int32) (fun q1 => ?_) (fun q1_4 => ?_)
    · have ek : kk = 4 := (nI_eq (a := kk) (b := 4) (by omega) (by omega)).mp q1
      refine v_tableIn (off := 56) hX 57 qX11_isOfKind_1 (by first | exact (by rw [q1]; decide) | decide) (by first | exact (by rw [q1]; decide) | decide) (by first | exact (by rw [q1]; rfl) | rfl) rfl ?_
      refine v_aload_n hX rfl qX11_isOfKind_57 ?_
      refine v_instNo hX hk rfl (Nat.le_of_ble_eq_true rfl) l_X11_358 (hNc hX 7 rfl) qX11_isOfKind_58 ?_
      refine v_zreturn hX (by first | exact Or.inl rfl | exact Or.inr rfl | exact bz01 _) qX11_isOfKind_61 (hP _ _ ?_)
      rw [ek]
      first | exact ⟨rz (bz_t (by decide)), rfl⟩ | exact ⟨rz (bz_f (by decide)), rfl⟩
    refine v_case (5 : Int32) (fun q1 => ?_) (fun q1_5 => ?_)
    · have ek : kk = 5 := (nI_eq (a := kk) (b := 5) (by omega) (by omega)).mp q1
      refine v_tableIn (off := 61) hX 62 qX11_isOfKind_1 (by first | exact (by rw [q1]; decide) | decide) (by first | exact (by rw [q1]; decide) | decide) (by first | exact (by rw [q1]; rfl) | rfl) rfl ?_
      refine v_aload_n hX rfl qX11_isOfKind_62 ?_
      refine v_instNo hX hk rfl (Nat.le_of_ble_eq_true rfl) l_X11_361 (hNc hX 8 rfl) qX11_isOfKind_63 ?_
      refine v_zreturn hX (by first | exact Or.inl rfl | exact Or.inr rfl | exact bz01 _) qX11_isOfKind_66 (hP _ _ ?_)
      rw [ek]
      first | exact ⟨rz (bz_t (by decide)), rfl⟩ | exact ⟨rz (bz_f (by decide)), rfl⟩
    refine v_tableOut hX 67 qX11_isOfKind_1 ?_ rfl ?_
    · have z0 := ne_i (0) (by decide) q1_0; have z1 := ne_i (1) (by decide) q1_1; have z2 := ne_i (2) (by decide) q1_2; have z3 := ne_i (3) (by decide) q1_3; have z4 := ne_i (4) (by decide) q1_4; have z5 := ne_i (5) (by decide) q1_5; omega
    refine v_iconst hX li_0 qX11_isOfKind_67 ?_
    refine v_zreturn hX (by first | exact Or.inl rfl | exact Or.inr rfl | exact bz01 _) qX11_isOfKind_68 (hP _ _ ?_)
    have hk0 : kk = 0 ∨ kk = 1 ∨ kk = 2 ∨ kk = 3 ∨ kk = 4 ∨ kk = 5 := by omega
    rcases hk0 with rfl | rfl | rfl | rfl | rfl | rfl <;> first | exact absurd rfl q1_0 | exact absurd rfl q1_1 | exact absurd rfl q1_2 | exact absurd rfl q1_3 | exact absurd rfl q1_4 | exact absurd rfl q1_5
  · skip
    refine v_iload_n hX rfl qX11_isOfKind_0 ?_
    refine v_case (0 : Int32) (fun q1 => ?_) (fun q1_0 => ?_)
    · have ek : kk = 0 := (nI_eq (a := kk) (b := 0) (by omega) (by omega)).mp q1
      refine v_tableIn (off := 39) hX 40 qX11_isOfKind_1 (by first | exact (by rw [q1]; decide) | decide) (by first | exact (by rw [q1]; decide) | decide) (by first | exact (by rw [q1]; rfl) | rfl) rfl ?_
      refine v_iconst hX li_1 qX11_isOfKind_40 ?_
      refine v_zreturn hX (by first | exact Or.inl rfl | exact Or.inr rfl | exact bz01 _) qX11_isOfKind_41 (hP _ _ ?_)
      rw [ek]
      first | exact ⟨rz (bz_t (by decide)), rfl⟩ | exact ⟨rz (bz_f (by decide)), rfl⟩
    refine v_case (1 : Int32) (fun q1 => ?_) (fun q1_1 => ?_)
    · have ek : kk = 1 := (nI_eq (a := kk) (b := 1) (by omega) (by omega)).mp q1
      refine v_tableIn (off := 41) hX 42 qX11_isOfKind_1 (by first | exact (by rw [q1]; decide) | decide) (by first | exact (by rw [q1]; decide) | decide) (by first | exact (by rw [q1]; rfl) | rfl) rfl ?_
      refine v_aload_n hX rfl qX11_isOfKind_42 ?_
      refine v_instY hX hk rfl (Nat.le_of_ble_eq_true rfl) l_X11_348 (Or.inr (List.mem_of_getElem? (i := 1568) (by decide +kernel))) qX11_isOfKind_43 ?_
      refine v_zreturn hX (by first | exact Or.inl rfl | exact Or.inr rfl | exact bz01 _) qX11_isOfKind_46 (hP _ _ ?_)
      rw [ek]
      first | exact ⟨rz (bz_t (by decide)), rfl⟩ | exact ⟨rz (bz_f (by decide)), rfl⟩
    refine v_case (2 : Int32) (fun q1 => ?_) (fun q1_2 => ?_)
    · have ek : kk = 2 := (nI_eq (a := kk) (b := 2) (by omega) (by omega)).mp q1
      refine v_tableIn (off := 46) hX 47 qX11_isOfKind_1 (by first | exact (by rw [q1]; decide) | decide) (by first | exact (by rw [q1]; decide) | decide) (by first | exact (by rw [q1]; rfl) | rfl) rfl ?_
      refine v_aload_n hX rfl qX11_isOfKind_47 ?_
      refine v_instY hX hk rfl (Nat.le_of_ble_eq_true rfl) l_X11_352 (Or.inl rfl) qX11_isOfKind_48 ?_
      refine v_zreturn hX (by first | exact Or.inl rfl | exact Or.inr rfl | exact bz01 _) qX11_isOfKind_51 (hP _ _ ?_)
      rw [ek]
      first | exact ⟨rz (bz_t (by decide)), rfl⟩ | exact ⟨rz (bz_f (by decide)), rfl⟩
    refine v_case (3 : Int32) (fun q1 => ?_) (fun q1_3 => ?_)
    · have ek : kk = 3 := (nI_eq (a := kk) (b := 3) (by omega) (by omega)).mp q1
      refine v_tableIn (off := 51) hX 52 qX11_isOfKind_1 (by first | exact (by rw [q1]; decide) | decide) (by first | exact (by rw [q1]; decide) | decide) (by first | exact (by rw [q1]; rfl) | rfl) rfl ?_
      refine v_aload_n hX rfl qX11_isOfKind_52 ?_
      refine v_instNo hX hk rfl (Nat.le_of_ble_eq_true rfl) l_X11_355 (hNc hX 9 rfl) qX11_isOfKind_53 ?_
      refine v_zreturn hX (by first | exact Or.inl rfl | exact Or.inr rfl | exact bz01 _) qX11_isOfKind_56 (hP _ _ ?_)
      rw [ek]
      first | exact ⟨rz (bz_t (by decide)), rfl⟩ | exact ⟨rz (bz_f (by decide)), rfl⟩
    refine v_case (4 : Int32) (fun q1 => ?_) (fun q1_4 => ?_)
    · have ek : kk = 4 := (nI_eq (a := kk) (b := 4) (by omega) (by omega)).mp q1
      refine v_tableIn (off := 56) hX 57 qX11_isOfKind_1 (by first | exact (by rw [q1]; decide) | decide) (by first | exact (by rw [q1]; decide) | decide) (by first | exact (by rw [q1]; rfl) | rfl) rfl ?_
      refine v_aload_n hX rfl qX11_isOfKind_57 ?_
      refine v_instNo hX hk rfl (Nat.le_of_ble_eq_true rfl) l_X11_358 (hNc hX 10 rfl) qX11_isOfKind_58 ?_
      refine v_zreturn hX (by first | exact Or.inl rfl | exact Or.inr rfl | exact bz01 _) qX11_isOfKind_61 (hP _ _ ?_)
      rw [ek]
      first | exact ⟨rz (bz_t (by decide)), rfl⟩ | exact ⟨rz (bz_f (by decide)), rfl⟩
    refine v_case (5 : Int32) (fun q1 => ?_) (fun q1_5 => ?_)
    · have ek : kk = 5 := (nI_eq (a := kk) (b := 5) (by omega) (by omega)).mp q1
      refine v_tableIn (off := 61) hX 62 qX11_isOfKind_1 (by first | exact (by rw [q1]; decide) | decide) (by first | exact (by rw [q1]; decide) | decide) (by first | exact (by rw [q1]; rfl) | rfl) rfl ?_
      refine v_aload_n hX rfl qX11_isOfKind_62 ?_
      refine v_instNo hX hk rfl (Nat.le_of_ble_eq_true rfl) l_X11_361 (hNc hX 11 rfl) qX11_isOfKind_63 ?_
      refine v_zreturn hX (by first | exact Or.inl rfl | exact Or.inr rfl | exact bz01 _) qX11_isOfKind_66 (hP _ _ ?_)
      rw [ek]
      first | exact ⟨rz (bz_t (by decide)), rfl⟩ | exact ⟨rz (bz_f (by decide)), rfl⟩
    refine v_tableOut hX 67 qX11_isOfKind_1 ?_ rfl ?_
    · have z0 := ne_i (0) (by decide) q1_0; have z1 := ne_i (1) (by decide) q1_1; have z2 := ne_i (2) (by decide) q1_2; have z3 := ne_i (3) (by decide) q1_3; have z4 := ne_i (4) (by decide) q1_4; have z5 := ne_i (5) (by decide) q1_5; omega
    refine v_iconst hX li_0 qX11_isOfKind_67 ?_
    refine v_zreturn hX (by first | exact Or.inl rfl | exact Or.inr rfl | exact bz01 _) qX11_isOfKind_68 (hP _ _ ?_)
    have hk0 : kk = 0 ∨ kk = 1 ∨ kk = 2 ∨ kk = 3 ∨ kk = 4 ∨ kk = 5 := by omega
    rcases hk0 with rfl | rfl | rfl | rfl | rfl | rfl <;> first | exact absurd rfl q1_0 | exact absurd rfl q1_1 | exact absurd rfl q1_2 | exact absurd rfl q1_3 | exact absurd rfl q1_4 | exact absurd rfl q1_5
  · skip
    refine v_iload_n hX rfl qX11_isOfKind_0 ?_
    refine v_case (0 : Int32) (fun q1 => ?_) (fun q1_0 => ?_)
    · have ek : kk = 0 := (nI_eq (a := kk) (b := 0) (by omega) (by omega)).mp q1
      refine v_tableIn (off := 39) hX 40 qX11_isOfKind_1 (by first | exact (by rw [q1]; decide) | decide) (by first | exact (by rw [q1]; decide) | decide) (by first | exact (by rw [q1]; rfl) | rfl) rfl ?_
      refine v_iconst hX li_1 qX11_isOfKind_40 ?_
      refine v_zreturn hX (by first | exact Or.inl rfl | exact Or.inr rfl | exact bz01 _) qX11_isOfKind_41 (hP _ _ ?_)
      rw [ek]
      first | exact ⟨rz (bz_t (by decide)), rfl⟩ | exact ⟨rz (bz_f (by decide)), rfl⟩
    refine v_case (1 : Int32) (fun q1 => ?_) (fun q1_1 => ?_)
    · have ek : kk = 1 := (nI_eq (a := kk) (b := 1) (by omega) (by omega)).mp q1
      refine v_tableIn (off := 41) hX 42 qX11_isOfKind_1 (by first | exact (by rw [q1]; decide) | decide) (by first | exact (by rw [q1]; decide) | decide) (by first | exact (by rw [q1]; rfl) | rfl) rfl ?_
      refine v_aload_n hX rfl qX11_isOfKind_42 ?_
      refine v_instNo hX hk rfl (Nat.le_of_ble_eq_true rfl) l_X11_348 (hNc hX 12 rfl) qX11_isOfKind_43 ?_
      refine v_zreturn hX (by first | exact Or.inl rfl | exact Or.inr rfl | exact bz01 _) qX11_isOfKind_46 (hP _ _ ?_)
      rw [ek]
      first | exact ⟨rz (bz_t (by decide)), rfl⟩ | exact ⟨rz (bz_f (by decide)), rfl⟩
    refine v_case (2 : Int32) (fun q1 => ?_) (fun q1_2 => ?_)
    · have ek : kk = 2 := (nI_eq (a := kk) (b := 2) (by omega) (by omega)).mp q1
      refine v_tableIn (off := 46) hX 47 qX11_isOfKind_1 (by first | exact (by rw [q1]; decide) | decide) (by first | exact (by rw [q1]; decide) | decide) (by first | exact (by rw [q1]; rfl) | rfl) rfl ?_
      refine v_aload_n hX rfl qX11_isOfKind_47 ?_
      refine v_instNo hX hk rfl (Nat.le_of_ble_eq_true rfl) l_X11_352 (hNc hX 13 rfl) qX11_isOfKind_48 ?_
      refine v_zreturn hX (by first | exact Or.inl rfl | exact Or.inr rfl | exact bz01 _) qX11_isOfKind_51 (hP _ _ ?_)
      rw [ek]
      first | exact ⟨rz (bz_t (by decide)), rfl⟩ | exact ⟨rz (bz_f (by decide)), rfl⟩
    refine v_case (3 : Int32) (fun q1 => ?_) (fun q1_3 => ?_)
    · have ek : kk = 3 := (nI_eq (a := kk) (b := 3) (by omega) (by omega)).mp q1
      refine v_tableIn (off := 51) hX 52 qX11_isOfKind_1 (by first | exact (by rw [q1]; decide) | decide) (by first | exact (by rw [q1]; decide) | decide) (by first | exact (by rw [q1]; rfl) | rfl) rfl ?_
      refine v_aload_n hX rfl qX11_isOfKind_52 ?_
      refine v_instY hX hk rfl (Nat.le_of_ble_eq_true rfl) l_X11_355 (Or.inl rfl) qX11_isOfKind_53 ?_
      refine v_zreturn hX (by first | exact Or.inl rfl | exact Or.inr rfl | exact bz01 _) qX11_isOfKind_56 (hP _ _ ?_)
      rw [ek]
      first | exact ⟨rz (bz_t (by decide)), rfl⟩ | exact ⟨rz (bz_f (by decide)), rfl⟩
    refine v_case (4 : Int32) (fun q1 => ?_) (fun q1_4 => ?_)
    · have ek : kk = 4 := (nI_eq (a := kk) (b := 4) (by omega) (by omega)).mp q1
      refine v_tableIn (off := 56) hX 57 qX11_isOfKind_1 (by first | exact (by rw [q1]; decide) | decide) (by first | exact (by rw [q1]; decide) | decide) (by first | exact (by rw [q1]; rfl) | rfl) rfl ?_
      refine v_aload_n hX rfl qX11_isOfKind_57 ?_
      refine v_instNo hX hk rfl (Nat.le_of_ble_eq_true rfl) l_X11_358 (hNc hX 14 rfl) qX11_isOfKind_58 ?_
      refine v_zreturn hX (by first | exact Or.inl rfl | exact Or.inr rfl | exact bz01 _) qX11_isOfKind_61 (hP _ _ ?_)
      rw [ek]
      first | exact ⟨rz (bz_t (by decide)), rfl⟩ | exact ⟨rz (bz_f (by decide)), rfl⟩
    refine v_case (5 : Int32) (fun q1 => ?_) (fun q1_5 => ?_)
    · have ek : kk = 5 := (nI_eq (a := kk) (b := 5) (by omega) (by omega)).mp q1
      refine v_tableIn (off := 61) hX 62 qX11_isOfKind_1 (by first | exact (by rw [q1]; decide) | decide) (by first | exact (by rw [q1]; decide) | decide) (by first | exact (by rw [q1]; rfl) | rfl) rfl ?_
      refine v_aload_n hX rfl qX11_isOfKind_62 ?_
      refine v_instNo hX hk rfl (Nat.le_of_ble_eq_true rfl) l_X11_361 (hNc hX 15 rfl) qX11_isOfKind_63 ?_
      refine v_zreturn hX (by first | exact Or.inl rfl | exact Or.inr rfl | exact bz01 _) qX11_isOfKind_66 (hP _ _ ?_)
      rw [ek]
      first | exact ⟨rz (bz_t (by decide)), rfl⟩ | exact ⟨rz (bz_f (by decide)), rfl⟩
    refine v_tableOut hX 67 qX11_isOfKind_1 ?_ rfl ?_
    · have z0 := ne_i (0) (by decide) q1_0; have z1 := ne_i (1) (by decide) q1_1; have z2 := ne_i (2) (by decide) q1_2; have z3 := ne_i (3) (by decide) q1_3; have z4 := ne_i (4) (by decide) q1_4; have z5 := ne_i (5) (by decide) q1_5; omega
    refine v_iconst hX li_0 qX11_isOfKind_67 ?_
    refine v_zreturn hX (by first | exact Or.inl rfl | exact Or.inr rfl | exact bz01 _) qX11_isOfKind_68 (hP _ _ ?_)
    have hk0 : kk = 0 ∨ kk = 1 ∨ kk = 2 ∨ kk = 3 ∨ kk = 4 ∨ kk = 5 := by omega
    rcases hk0 with rfl | rfl | rfl | rfl | rfl | rfl <;> first | exact absurd rfl q1_0 | exact absurd rfl q1_1 | exact absurd rfl q1_2 | exact absurd rfl q1_3 | exact absurd rfl q1_4 | exact absurd rfl q1_5
  · skip
    refine v_iload_n hX rfl qX11_isOfKind_0 ?_
    refine v_case (0 : Int32) (fun q1 => ?_) (fun q1_0 => ?_)
    · have ek : kk = 0 := (nI_eq (a := kk) (b := 0) (by omega) (by omega)).mp q1
      refine v_tableIn (off := 39) hX 40 qX11_isOfKind_1 (by first | exact (by rw [q1]; decide) | decide) (by first | exact (by rw [q1]; decide) | decide) (by first | exact (by rw [q1]; rfl) | rfl) rfl ?_
      refine v_iconst hX li_1 qX11_isOfKind_40 ?_
      refine v_zreturn hX (by first | exact Or.inl rfl | exact Or.inr rfl | exact bz01 _) qX11_isOfKind_41 (hP _ _ ?_)
      rw [ek]
      first | exact ⟨rz (bz_t (by decide)), rfl⟩ | exact ⟨rz (bz_f (by decide)), rfl⟩
    refine v_case (1 : Int32) (fun q1 => ?_) (fun q1_1 => ?_)
    · have ek : kk = 1 := (nI_eq (a := kk) (b := 1) (by omega) (by omega)).mp q1
      refine v_tableIn (off := 41) hX 42 qX11_isOfKind_1 (by first | exact (by rw [q1]; decide) | decide) (by first | exact (by rw [q1]; decide) | decide) (by first | exact (by rw [q1]; rfl) | rfl) rfl ?_
      refine v_aload_n hX rfl qX11_isOfKind_42 ?_
      refine v_instY hX hk rfl (Nat.le_of_ble_eq_true rfl) l_X11_348 (Or.inr (List.mem_of_getElem? (i := 1569) (by decide +kernel))) qX11_isOfKind_43 ?_
      refine v_zreturn hX (by first | exact Or.inl rfl | exact Or.inr rfl | exact bz01 _) qX11_isOfKind_46 (hP _ _ ?_)
      rw [ek]
      first | exact ⟨rz (bz_t (by decide)), rfl⟩ | exact ⟨rz (bz_f (by decide)), rfl⟩
    refine v_case (2 : Int32) (fun q1 => ?_) (fun q1_2 => ?_)
    · have ek : kk = 2 := (nI_eq (a := kk) (b := 2) (by omega) (by omega)).mp q1
      refine v_tableIn (off := 46) hX 47 qX11_isOfKind_1 (by first | exact (by rw [q1]; decide) | decide) (by first | exact (by rw [q1]; decide) | decide) (by first | exact (by rw [q1]; rfl) | rfl) rfl ?_
      refine v_aload_n hX rfl qX11_isOfKind_47 ?_
      refine v_instNo hX hk rfl (Nat.le_of_ble_eq_true rfl) l_X11_352 (hNc hX 16 rfl) qX11_isOfKind_48 ?_
      refine v_zreturn hX (by first | exact Or.inl rfl | exact Or.inr rfl | exact bz01 _) qX11_isOfKind_51 (hP _ _ ?_)
      rw [ek]
      first | exact ⟨rz (bz_t (by decide)), rfl⟩ | exact ⟨rz (bz_f (by decide)), rfl⟩
    refine v_case (3 : Int32) (fun q1 => ?_) (fun q1_3 => ?_)
    · have ek : kk = 3 := (nI_eq (a := kk) (b := 3) (by omega) (by omega)).mp q1
      refine v_tableIn (off := 51) hX 52 qX11_isOfKind_1 (by first | exact (by rw [q1]; decide) | decide) (by first | exact (by rw [q1]; decide) | decide) (by first | exact (by rw [q1]; rfl) | rfl) rfl ?_
      refine v_aload_n hX rfl qX11_isOfKind_52 ?_
      refine v_instNo hX hk rfl (Nat.le_of_ble_eq_true rfl) l_X11_355 (hNc hX 17 rfl) qX11_isOfKind_53 ?_
      refine v_zreturn hX (by first | exact Or.inl rfl | exact Or.inr rfl | exact bz01 _) qX11_isOfKind_56 (hP _ _ ?_)
      rw [ek]
      first | exact ⟨rz (bz_t (by decide)), rfl⟩ | exact ⟨rz (bz_f (by decide)), rfl⟩
    refine v_case (4 : Int32) (fun q1 => ?_) (fun q1_4 => ?_)
    · have ek : kk = 4 := (nI_eq (a := kk) (b := 4) (by omega) (by omega)).mp q1
      refine v_tableIn (off := 56) hX 57 qX11_isOfKind_1 (by first | exact (by rw [q1]; decide) | decide) (by first | exact (by rw [q1]; decide) | decide) (by first | exact (by rw [q1]; rfl) | rfl) rfl ?_
      refine v_aload_n hX rfl qX11_isOfKind_57 ?_
      refine v_instY hX hk rfl (Nat.le_of_ble_eq_true rfl) l_X11_358 (Or.inl rfl) qX11_isOfKind_58 ?_
      refine v_zreturn hX (by first | exact Or.inl rfl | exact Or.inr rfl | exact bz01 _) qX11_isOfKind_61 (hP _ _ ?_)
      rw [ek]
      first | exact ⟨rz (bz_t (by decide)), rfl⟩ | exact ⟨rz (bz_f (by decide)), rfl⟩
    refine v_case (5 : Int32) (fun q1 => ?_) (fun q1_5 => ?_)
    · have ek : kk = 5 := (nI_eq (a := kk) (b := 5) (by omega) (by omega)).mp q1
      refine v_tableIn (off := 61) hX 62 qX11_isOfKind_1 (by first | exact (by rw [q1]; decide) | decide) (by first | exact (by rw [q1]; decide) | decide) (by first | exact (by rw [q1]; rfl) | rfl) rfl ?_
      refine v_aload_n hX rfl qX11_isOfKind_62 ?_
      refine v_instNo hX hk rfl (Nat.le_of_ble_eq_true rfl) l_X11_361 (hNc hX 18 rfl) qX11_isOfKind_63 ?_
      refine v_zreturn hX (by first | exact Or.inl rfl | exact Or.inr rfl | exact bz01 _) qX11_isOfKind_66 (hP _ _ ?_)
      rw [ek]
      first | exact ⟨rz (bz_t (by decide)), rfl⟩ | exact ⟨rz (bz_f (by decide)), rfl⟩
    refine v_tableOut hX 67 qX11_isOfKind_1 ?_ rfl ?_
    · have z0 := ne_i (0) (by decide) q1_0; have z1 := ne_i (1) (by decide) q1_1; have z2 := ne_i (2) (by decide) q1_2; have z3 := ne_i (3) (by decide) q1_3; have z4 := ne_i (4) (by decide) q1_4; have z5 := ne_i (5) (by decide) q1_5; omega
    refine v_iconst hX li_0 qX11_isOfKind_67 ?_
    refine v_zreturn hX (by first | exact Or.inl rfl | exact Or.inr rfl | exact bz01 _) qX11_isOfKind_68 (hP _ _ ?_)
    have hk0 : kk = 0 ∨ kk = 1 ∨ kk = 2 ∨ kk = 3 ∨ kk = 4 ∨ kk = 5 := by omega
    rcases hk0 with rfl | rfl | rfl | rfl | rfl | rfl <;> first | exact absurd rfl q1_0 | exact absurd rfl q1_1 | exact absurd rfl q1_2 | exact absurd rfl q1_3 | exact absurd rfl q1_4 | exact absurd rfl q1_5
  · skip
    refine v_iload_n hX rfl qX11_isOfKind_0 ?_
    refine v_case (0 : Int32) (fun q1 => ?_) (fun q1_0 => ?_)
    · have ek : kk = 0 := (nI_eq (a := kk) (b := 0) (by omega) (by omega)).mp q1
      refine v_tableIn (off := 39) hX 40 qX11_isOfKind_1 (by first | exact (by rw [q1]; decide) | decide) (by first | exact (by rw [q1]; decide) | decide) (by first | exact (by rw [q1]; rfl) | rfl) rfl ?_
      refine v_iconst hX li_1 qX11_isOfKind_40 ?_
      refine v_zreturn hX (by first | exact Or.inl rfl | exact Or.inr rfl | exact bz01 _) qX11_isOfKind_41 (hP _ _ ?_)
      rw [ek]
      first | exact ⟨rz (bz_t (by decide)), rfl⟩ | exact ⟨rz (bz_f (by decide)), rfl⟩
    refine v_case (1 : Int32) (fun q1 => ?_) (fun q1_1 => ?_)
    · have ek : kk = 1 := (nI_eq (a := kk) (b := 1) (by omega) (by omega)).mp q1
      refine v_tableIn (off := 41) hX 42 qX11_isOfKind_1 (by first | exact (by rw [q1]; decide) | decide) (by first | exact (by rw [q1]; decide) | decide) (by first | exact (by rw [q1]; rfl) | rfl) rfl ?_
      refine v_aload_n hX rfl qX11_isOfKind_42 ?_
      refine v_instNo hX hk rfl (Nat.le_of_ble_eq_true rfl) l_X11_348 (hNc hX 19 rfl) qX11_isOfKind_43 ?_
      refine v_zreturn hX (by first | exact Or.inl rfl | exact Or.inr rfl | exact bz01 _) qX11_isOfKind_46 (hP _ _ ?_)
      rw [ek]
      first | exact ⟨rz (bz_t (by decide)), rfl⟩ | exact ⟨rz (bz_f (by decide)), rfl⟩
    refine v_case (2 : Int32) (fun q1 => ?_) (fun q1_2 => ?_)
    · have ek : kk = 2 := (nI_eq (a := kk) (b := 2) (by omega) (by omega)).mp q1
      refine v_tableIn (off := 46) hX 47 qX11_isOfKind_1 (by first | exact (by rw [q1]; decide) | decide) (by first | exact (by rw [q1]; decide) | decide) (by first | exact (by rw [q1]; rfl) | rfl) rfl ?_
      refine v_aload_n hX rfl qX11_isOfKind_47 ?_
      refine v_instNo hX hk rfl (Nat.le_of_ble_eq_true rfl) l_X11_352 (hNc hX 20 rfl) qX11_isOfKind_48 ?_
      refine v_zreturn hX (by first | exact Or.inl rfl | exact Or.inr rfl | exact bz01 _) qX11_isOfKind_51 (hP _ _ ?_)
      rw [ek]
      first | exact ⟨rz (bz_t (by decide)), rfl⟩ | exact ⟨rz (bz_f (by decide)), rfl⟩
    refine v_case (3 : Int32) (fun q1 => ?_) (fun q1_3 => ?_)
    · have ek : kk = 3 := (nI_eq (a := kk) (b := 3) (by omega) (by omega)).mp q1
      refine v_tableIn (off := 51) hX 52 qX11_isOfKind_1 (by first | exact (by rw [q1]; decide) | decide) (by first | exact (by rw [q1]; decide) | decide) (by first | exact (by rw [q1]; rfl) | rfl) rfl ?_
      refine v_aload_n hX rfl qX11_isOfKind_52 ?_
      refine v_instY hX hk rfl (Nat.le_of_ble_eq_true rfl) l_X11_355 (Or.inr (List.mem_of_getElem? (i := 1570) (by decide +kernel))) qX11_isOfKind_53 ?_
      refine v_zreturn hX (by first | exact Or.inl rfl | exact Or.inr rfl | exact bz01 _) qX11_isOfKind_56 (hP _ _ ?_)
      rw [ek]
      first | exact ⟨rz (bz_t (by decide)), rfl⟩ | exact ⟨rz (bz_f (by decide)), rfl⟩
    refine v_case (4 : Int32) (fun q1 => ?_) (fun q1_4 => ?_)
    · have ek : kk = 4 := (nI_eq (a := kk) (b := 4) (by omega) (by omega)).mp q1
      refine v_tableIn (off := 56) hX 57 qX11_isOfKind_1 (by first | exact (by rw [q1]; decide) | decide) (by first | exact (by rw [q1]; decide) | decide) (by first | exact (by rw [q1]; rfl) | rfl) rfl ?_
      refine v_aload_n hX rfl qX11_isOfKind_57 ?_
      refine v_instNo hX hk rfl (Nat.le_of_ble_eq_true rfl) l_X11_358 (hNc hX 21 rfl) qX11_isOfKind_58 ?_
      refine v_zreturn hX (by first | exact Or.inl rfl | exact Or.inr rfl | exact bz01 _) qX11_isOfKind_61 (hP _ _ ?_)
      rw [ek]
      first | exact ⟨rz (bz_t (by decide)), rfl⟩ | exact ⟨rz (bz_f (by decide)), rfl⟩
    refine v_case (5 : Int32) (fun q1 => ?_) (fun q1_5 => ?_)
    · have ek : kk = 5 := (nI_eq (a := kk) (b := 5) (by omega) (by omega)).mp q1
      refine v_tableIn (off := 61) hX 62 qX11_isOfKind_1 (by first | exact (by rw [q1]; decide) | decide) (by first | exact (by rw [q1]; decide) | decide) (by first | exact (by rw [q1]; rfl) | rfl) rfl ?_
      refine v_aload_n hX rfl qX11_isOfKind_62 ?_
      refine v_instY hX hk rfl (Nat.le_of_ble_eq_true rfl) l_X11_361 (Or.inl rfl) qX11_isOfKind_63 ?_
      refine v_zreturn hX (by first | exact Or.inl rfl | exact Or.inr rfl | exact bz01 _) qX11_isOfKind_66 (hP _ _ ?_)
      rw [ek]
      first | exact ⟨rz (bz_t (by decide)), rfl⟩ | exact ⟨rz (bz_f (by decide)), rfl⟩
    refine v_tableOut hX 67 qX11_isOfKind_1 ?_ rfl ?_
    · have z0 := ne_i (0) (by decide) q1_0; have z1 := ne_i (1) (by decide) q1_1; have z2 := ne_i (2) (by decide) q1_2; have z3 := ne_i (3) (by decide) q1_3; have z4 := ne_i (4) (by decide) q1_4; have z5 := ne_i (5) (by decide) q1_5; omega
    refine v_iconst hX li_0 qX11_isOfKind_67 ?_
    refine v_zreturn hX (by first | exact Or.inl rfl | exact Or.inr rfl | exact bz01 _) qX11_isOfKind_68 (hP _ _ ?_)
    have hk0 : kk = 0 ∨ kk = 1 ∨ kk = 2 ∨ kk = 3 ∨ kk = 4 ∨ kk = 5 := by omega
    rcases hk0 with rfl | rfl | rfl | rfl | rfl | rfl <;> first | exact absurd rfl q1_0 | exact absurd rfl q1_1 | exact absurd rfl q1_2 | exact absurd rfl q1_3 | exact absurd rfl q1_4 | exact absurd rfl q1_5
theorem qX11_taken_0 : Dq cX11_taken 0 (.iload_n 2) 1 1 := ⟨by decide +kernel, rfl⟩
theorem qX11_taken_1 : Dq cX11_taken 1 (.iconst 0) 1 2 := ⟨by decide +kernel, rfl⟩
theorem qX11_taken_2 : Dq cX11_taken 2 (.iconst 5) 1 3 := ⟨by decide +kernel, rfl⟩
theorem qX11_taken_3 : Dq cX11_taken 3 (.invokestatic 110) 3 6 := ⟨by decide +kernel, rfl⟩
theorem qX11_taken_6 : Dq cX11_taken 6 (.ifCond .ne 6) 3 9 := ⟨by decide +kernel, rfl⟩
theorem qX11_taken_9 : Dq cX11_taken 9 (.bipush (-2)) 2 11 := ⟨by decide +kernel, rfl⟩
theorem qX11_taken_11 : Dq cX11_taken 11 (.ireturn) 1 12 := ⟨by decide +kernel, rfl⟩
theorem qX11_taken_12 : Dq cX11_taken 12 (.aload_n 0) 1 13 := ⟨by decide +kernel, rfl⟩
theorem qX11_taken_13 : Dq cX11_taken 13 (.iload_n 1) 1 14 := ⟨by decide +kernel, rfl⟩
theorem qX11_taken_14 : Dq cX11_taken 14 (.invokevirtual 141) 3 17 := ⟨by decide +kernel, rfl⟩
theorem qX11_taken_17 : Dq cX11_taken 17 (.astore_n 3) 1 18 := ⟨by decide +kernel, rfl⟩
theorem qX11_taken_18 : Dq cX11_taken 18 (.aload_n 3) 1 19 := ⟨by decide +kernel, rfl⟩
theorem qX11_taken_19 : Dq cX11_taken 19 (.ifnonnull 6) 3 22 := ⟨by decide +kernel, rfl⟩
theorem qX11_taken_22 : Dq cX11_taken 22 (.bipush (-11)) 2 24 := ⟨by decide +kernel, rfl⟩
theorem qX11_taken_24 : Dq cX11_taken 24 (.ireturn) 1 25 := ⟨by decide +kernel, rfl⟩
theorem qX11_taken_25 : Dq cX11_taken 25 (.aload_n 3) 1 26 := ⟨by decide +kernel, rfl⟩
theorem qX11_taken_26 : Dq cX11_taken 26 (.iload_n 2) 1 27 := ⟨by decide +kernel, rfl⟩
theorem qX11_taken_27 : Dq cX11_taken 27 (.invokestatic 328) 3 30 := ⟨by decide +kernel, rfl⟩
theorem qX11_taken_30 : Dq cX11_taken 30 (.ifCond .eq 10) 3 33 := ⟨by decide +kernel, rfl⟩
theorem qX11_taken_33 : Dq cX11_taken 33 (.aload_n 3) 1 34 := ⟨by decide +kernel, rfl⟩
theorem qX11_taken_34 : Dq cX11_taken 34 (.getfield 332) 3 37 := ⟨by decide +kernel, rfl⟩
theorem qX11_taken_37 : Dq cX11_taken 37 (.goto 5) 3 40 := ⟨by decide +kernel, rfl⟩
theorem qX11_taken_40 : Dq cX11_taken 40 (.bipush (-13)) 2 42 := ⟨by decide +kernel, rfl⟩
theorem qX11_taken_42 : Dq cX11_taken 42 (.ireturn) 1 43 := ⟨by decide +kernel, rfl⟩
set_option maxRecDepth 100000 in
set_option maxHeartbeats 4000000 in
theorem c_taken {G : Glb} {h : AHp} {E : Sst} (hc : CV h E) (l k : Int32) : CP G m_X11_taken 3 0 0 [.ref 0, .int l, .int k] h (fun r h' => r = some (.int (takenI E l k)) ∧ h = h') := by
  suffices key : ∀ P : Option Value → AHp → Prop, (∀ r h', (r = some (.int (takenI E l k)) ∧ h = h') → P r h') → CP G m_X11_taken 3 0 0 [.ref 0, .int l, .int k] h P from key _ (fun _ _ z => z)
  intro P hP
  have hs := hc.sh
  have hru := hc.ru
  have hca := hc.ca
  have hbe := hc.be
  have hok := hc.ok
  obtain ⟨hrl, hrl5⟩ := hbe.rl hok.1
  rw [bv0 (by omega) (by omega)] at hrl5
  have hh3 := hbe.2.2.2.1
  rw [bv0 (by omega) (by omega)] at hh3
  obtain ⟨e, hp⟩ := hc.pt
  have hm6 := hp.2.1
  have hnu := hc.nu
  refine CP.of (by decide +kernel) (Nat.le_of_ble_eq_true rfl) fun X hX hR hnm => ?_
  show V X G 4 0 0 _ 0 [some (.ref 0), some (.int l), some (.int k), none] [] h
  refine v_iload_n hX rfl qX11_taken_0 ?_
  refine v_iconst hX li_0 qX11_taken_1 ?_
  refine v_iconst hX li_5 qX11_taken_2 ?_
  refine v_callSq hX hR k_X11_110 (c_isWithin _ _ _) rfl (Nat.le_of_ble_eq_true rfl) rfl (Nat.le_of_ble_eq_true rfl) ⟨Nat.le_of_ble_eq_true rfl, Nat.le_of_ble_eq_true rfl⟩ qX11_taken_3 ?_
  rintro _ _ ⟨rfl, rfl⟩
  first | refine v_if_neB hX 12 qX11_taken_6 rfl (fun q6 => ?_) (fun q6 => ?_) | refine v_if_ne hX 12 qX11_taken_6 rfl (fun q6 => ?_) (fun q6 => ?_)
  · obtain ⟨kk, hkk, rfl⟩ := rng_ex 5 (by omega) q6
    refine v_aload_n hX rfl qX11_taken_12 ?_
    refine v_iload_n hX rfl qX11_taken_13 ?_
    refine v_callVq hX hR k_X11_141 (hs.kd 0 rfl) (c_lookerAt (by exact hs) (by exact hp) _) rfl (Nat.le_of_ble_eq_true rfl) rfl (Nat.le_of_ble_eq_true rfl) ⟨Nat.le_of_ble_eq_true rfl, Nat.le_of_ble_eq_true rfl⟩ qX11_taken_14 ?_
    rintro _ _ ⟨⟨j, hj, rfl, rfl⟩ | ⟨hn, rfl⟩, rfl⟩
    · have hjr : 0 ≤ nI j ∧ nI j < nI (sM E) := ⟨nI_pos' (by omega), nI_lt hj (by omega)⟩
      refine v_astore_n hX (Nat.le_of_ble_eq_true rfl) rfl (ls' := [some _, some _, some _, some _]) rfl qX11_taken_17 ?_
      refine v_aload_n hX rfl qX11_taken_18 ?_
      refine v_ifnonnull hX 25 qX11_taken_19 rfl ?_
      refine v_aload_n hX rfl qX11_taken_25 ?_
      refine v_iload_n hX rfl qX11_taken_26 ?_
      refine v_callSq hX hR k_X11_328 (c_isOfKind (by exact (hp.2.2 j hj).2.1) (by exact (hp.2.2 j hj).2.2.1) (kk := kk) (by omega)) rfl (Nat.le_of_ble_eq_true rfl) rfl (Nat.le_of_ble_eq_true rfl) ⟨Nat.le_of_ble_eq_true rfl, Nat.le_of_ble_eq_true rfl⟩ qX11_taken_27 ?_
      rintro _ _ ⟨rfl, rfl⟩
      first | refine v_if_eqB hX 40 qX11_taken_30 rfl (fun q30 => ?_) (fun q30 => ?_) | refine v_if_eq hX 40 qX11_taken_30 rfl (fun q30 => ?_) (fun q30 => ?_)
      · skip
        refine v_bipush hX lb_n13 qX11_taken_40 ?_
        refine v_ireturn hX qX11_taken_42 (hP _ _ ?_)
        first | exact ⟨by rw [takenI, if_pos q6, if_pos hjr, tn_nI (show j < 2000000 by omega), tn_nI (show kk < 2000000 by omega), if_pos q30], rfl⟩ | exact ⟨by rw [takenI, if_pos q6, if_pos hjr, tn_nI (show j < 2000000 by omega), tn_nI (show kk < 2000000 by omega), if_neg q30], rfl⟩
      · skip
        have hk6 := (hp.2.2 j hj).2.1
        have hk0 : sK E j = 0 ∨ sK E j = 1 ∨ sK E j = 2 ∨ sK E j = 3 ∨ sK E j = 4 ∨ sK E j = 5 := by omega
        rcases hk0 with hk0 | hk0 | hk0 | hk0 | hk0 | hk0
        · have hkd : Kd h (e j) 1 := by have z := (hp.2.2 j hj).2.2.1; rw [hk0] at z; exact z
          refine v_aload_n hX rfl qX11_taken_33 ?_
          refine v_getIv hX g_X11_332_1 (Or.inl rfl) hkd (hp.2.2 j hj).2.2.2 qX11_taken_34 ?_
          refine v_goto hX 42 qX11_taken_37 rfl ?_
          refine v_ireturn hX qX11_taken_42 (hP _ _ ?_)
          first | exact ⟨by rw [takenI, if_pos q6, if_pos hjr, tn_nI (show j < 2000000 by omega), tn_nI (show kk < 2000000 by omega), if_pos q30], rfl⟩ | exact ⟨by rw [takenI, if_pos q6, if_pos hjr, tn_nI (show j < 2000000 by omega), tn_nI (show kk < 2000000 by omega), if_neg q30], rfl⟩
        · have hkd : Kd h (e j) 2 := by have z := (hp.2.2 j hj).2.2.1; rw [hk0] at z; exact z
          refine v_aload_n hX rfl qX11_taken_33 ?_
          refine v_getIv hX g_X11_332_2 (Or.inl rfl) hkd (hp.2.2 j hj).2.2.2 qX11_taken_34 ?_
          refine v_goto hX 42 qX11_taken_37 rfl ?_
          refine v_ireturn hX qX11_taken_42 (hP _ _ ?_)
          first | exact ⟨by rw [takenI, if_pos q6, if_pos hjr, tn_nI (show j < 2000000 by omega), tn_nI (show kk < 2000000 by omega), if_pos q30], rfl⟩ | exact ⟨by rw [takenI, if_pos q6, if_pos hjr, tn_nI (show j < 2000000 by omega), tn_nI (show kk < 2000000 by omega), if_neg q30], rfl⟩
        · have hkd : Kd h (e j) 7 := by have z := (hp.2.2 j hj).2.2.1; rw [hk0] at z; exact z
          refine v_aload_n hX rfl qX11_taken_33 ?_
          refine v_getIv hX g_X11_332_7 (Or.inl rfl) hkd (hp.2.2 j hj).2.2.2 qX11_taken_34 ?_
          refine v_goto hX 42 qX11_taken_37 rfl ?_
          refine v_ireturn hX qX11_taken_42 (hP _ _ ?_)
          first | exact ⟨by rw [takenI, if_pos q6, if_pos hjr, tn_nI (show j < 2000000 by omega), tn_nI (show kk < 2000000 by omega), if_pos q30], rfl⟩ | exact ⟨by rw [takenI, if_pos q6, if_pos hjr, tn_nI (show j < 2000000 by omega), tn_nI (show kk < 2000000 by omega), if_neg q30], rfl⟩
        · have hkd : Kd h (e j) 4 := by have z := (hp.2.2 j hj).2.2.1; rw [hk0] at z; exact z
          refine v_aload_n hX rfl qX11_taken_33 ?_
          refine v_getIv hX g_X11_332_4 (Or.inl rfl) hkd (hp.2.2 j hj).2.2.2 qX11_taken_34 ?_
          refine v_goto hX 42 qX11_taken_37 rfl ?_
          refine v_ireturn hX qX11_taken_42 (hP _ _ ?_)
          first | exact ⟨by rw [takenI, if_pos q6, if_pos hjr, tn_nI (show j < 2000000 by omega), tn_nI (show kk < 2000000 by omega), if_pos q30], rfl⟩ | exact ⟨by rw [takenI, if_pos q6, if_pos hjr, tn_nI (show j < 2000000 by omega), tn_nI (show kk < 2000000 by omega), if_neg q30], rfl⟩
        · have hkd : Kd h (e j) 8 := by have z := (hp.2.2 j hj).2.2.1; rw [hk0] at z; exact z
          refine v_aload_n hX rfl qX11_taken_33 ?_
          refine v_getIv hX g_X11_332_8 (Or.inl rfl) hkd (hp.2.2 j hj).2.2.2 qX11_taken_34 ?_
          refine v_goto hX 42 qX11_taken_37 rfl ?_
          refine v_ireturn hX qX11_taken_42 (hP _ _ ?_)
          first | exact ⟨by rw [takenI, if_pos q6, if_pos hjr, tn_nI (show j < 2000000 by omega), tn_nI (show kk < 2000000 by omega), if_pos q30], rfl⟩ | exact ⟨by rw [takenI, if_pos q6, if_pos hjr, tn_nI (show j < 2000000 by omega), tn_nI (show kk < 2000000 by omega), if_neg q30], rfl⟩
        · have hkd : Kd h (e j) 3 := by have z := (hp.2.2 j hj).2.2.1; rw [hk0] at z; exact z
          refine v_aload_n hX rfl qX11_taken_33 ?_
          refine v_getIv hX g_X11_332_3 (Or.inl rfl) hkd (hp.2.2 j hj).2.2.2 qX11_taken_34 ?_
          refine v_goto hX 42 qX11_taken_37 rfl ?_
          refine v_ireturn hX qX11_taken_42 (hP _ _ ?_)
          first | exact ⟨by rw [takenI, if_pos q6, if_pos hjr, tn_nI (show j < 2000000 by omega), tn_nI (show kk < 2000000 by omega), if_pos q30], rfl⟩ | exact ⟨by rw [takenI, if_pos q6, if_pos hjr, tn_nI (show j < 2000000 by omega), tn_nI (show kk < 2000000 by omega), if_neg q30], rfl⟩
    · skip
      refine v_astore_nN hX (Nat.le_of_ble_eq_true rfl) rfl (ls' := [some _, some _, some _, some _]) rfl qX11_taken_17 ?_
      refine v_aload_nN hX rfl qX11_taken_18 ?_
      refine v_ifnonnullN hX qX11_taken_19 ?_
      refine v_bipush hX lb_n11 qX11_taken_22 ?_
      refine v_ireturn hX qX11_taken_24 (hP _ _ ?_)
      exact ⟨by rw [takenI, if_pos q6, if_neg hn], rfl⟩
  · skip
    refine v_bipush hX lb_n2 qX11_taken_9 ?_
    refine v_ireturn hX qX11_taken_11 (hP _ _ ?_)
    exact ⟨by rw [takenI, if_neg q6], rfl⟩
theorem qJ7_fill_53178_0 : Dq cJ7_fill_53178 0 (.iconst 0) 1 1 := ⟨by decide +kernel, rfl⟩
theorem qJ7_fill_53178_1 : Dq cJ7_fill_53178 1 (.istore_n 2) 1 2 := ⟨by decide +kernel, rfl⟩
theorem qJ7_fill_53178_2 : Dq cJ7_fill_53178 2 (.aload_n 0) 1 3 := ⟨by decide +kernel, rfl⟩
theorem qJ7_fill_53178_3 : Dq cJ7_fill_53178 3 (.arraylength) 1 4 := ⟨by decide +kernel, rfl⟩
theorem qJ7_fill_53178_4 : Dq cJ7_fill_53178 4 (.istore_n 3) 1 5 := ⟨by decide +kernel, rfl⟩
theorem qJ7_fill_53178_5 : Dq cJ7_fill_53178 5 (.iload_n 2) 1 6 := ⟨by decide +kernel, rfl⟩
theorem qJ7_fill_53178_6 : Dq cJ7_fill_53178 6 (.iload_n 3) 1 7 := ⟨by decide +kernel, rfl⟩
theorem qJ7_fill_53178_7 : Dq cJ7_fill_53178 7 (.if_icmp .ge 13) 3 10 := ⟨by decide +kernel, rfl⟩
theorem qJ7_fill_53178_10 : Dq cJ7_fill_53178 10 (.aload_n 0) 1 11 := ⟨by decide +kernel, rfl⟩
theorem qJ7_fill_53178_11 : Dq cJ7_fill_53178 11 (.iload_n 2) 1 12 := ⟨by decide +kernel, rfl⟩
theorem qJ7_fill_53178_12 : Dq cJ7_fill_53178 12 (.iload_n 1) 1 13 := ⟨by decide +kernel, rfl⟩
theorem qJ7_fill_53178_13 : Dq cJ7_fill_53178 13 (.iastore) 1 14 := ⟨by decide +kernel, rfl⟩
theorem qJ7_fill_53178_14 : Dq cJ7_fill_53178 14 (.iinc 2 1) 3 17 := ⟨by decide +kernel, rfl⟩
theorem qJ7_fill_53178_17 : Dq cJ7_fill_53178 17 (.goto (-12)) 3 20 := ⟨by decide +kernel, rfl⟩
theorem qJ7_fill_53178_20 : Dq cJ7_fill_53178 20 (.return_) 1 21 := ⟨by decide +kernel, rfl⟩
set_option maxRecDepth 100000 in
set_option maxHeartbeats 4000000 in
theorem c_fill {G : Glb} {h : AHp} {a L : Nat} (hk : Kd h a 100) (hL : hpL h a = L) (hL9 : L ≤ 1000) (v : Int32) : CP G m_J7_fill_53178 1 0 0 [.ref a, .int v] h (fun r h' => r = none ∧ ∃ σ, h' = (σ, h.2) ∧ (∀ k, k < L → σ a k = v) ∧ ∀ b j, ¬ (b = a ∧ j < L) → σ b j = hpI h b j) := by
  suffices key : ∀ P : Option Value → AHp → Prop, (∀ r h', (r = none ∧ ∃ σ, h' = (σ, h.2) ∧ (∀ k, k < L → σ a k = v) ∧ ∀ b j, ¬ (b = a ∧ j < L) → σ b j = hpI h b j) → P r h') → CP G m_J7_fill_53178 1 0 0 [.ref a, .int v] h P from key _ (fun _ _ z => z)
  intro P hP
  refine CP.of (by decide +kernel) (Nat.le_of_ble_eq_true rfl) fun X hX hR hnm => ?_
  show V X G 4 0 0 _ 0 [some (.ref a), some (.int v), none, none] [] h
  refine v_iconst hX li_0 qJ7_fill_53178_0 ?_
  refine v_istore_n hX (Nat.le_of_ble_eq_true rfl) rfl (ls' := [some _, some _, some _, none]) rfl qJ7_fill_53178_1 ?_
  refine v_aload_n hX rfl qJ7_fill_53178_2 ?_
  refine v_alen hX hk hL qJ7_fill_53178_3 ?_
  refine v_istore_n hX (Nat.le_of_ble_eq_true rfl) rfl (ls' := [some _, some _, some _, some _]) rfl qJ7_fill_53178_4 ?_
  have L5 : ∀ (mz : Nat) (i : Nat) (σ : Nat → Nat → Int32), L - i = mz → (i ≤ L) → (∀ k, k < i → σ a k = v) → (∀ b j, ¬ (b = a ∧ j < L) → σ b j = hpI h b j) → V X G 4 0 0 (QM X G P 0 0) 5 [some (.ref a), some (.int v), some (.int (nI i)), some (.int (nI L))] [] (σ, h.2) := by
    intro mz
    induction mz using Nat.strongRecOn with
    | _ mz ih =>
    intro i σ hm hi hv hf
    refine v_iload_n hX rfl qJ7_fill_53178_5 ?_
    refine v_iload_n hX rfl qJ7_fill_53178_6 ?_
    refine v_icmp_geS hX 20 qJ7_fill_53178_7 rfl (fun q7 => ?_) (fun q7 => ?_)
    · have e1 : i = L := Nat.le_antisymm hi (nI_le' (by omega) (by omega) q7)
      subst e1
      refine v_return hX qJ7_fill_53178_20 (hP _ _ ?_)
      exact ⟨rfl, σ, rfl, hv, hf⟩
    · have hl := nI_lt' (by omega) (by omega) q7
      refine v_aload_n hX rfl qJ7_fill_53178_10 ?_
      refine v_iload_n hX rfl qJ7_fill_53178_11 ?_
      refine v_iload_n hX rfl qJ7_fill_53178_12 ?_
      refine v_iastJ hX hk hL (by exact ix_n (n := i) hl (Nat.ble_eq_true_of_le (by omega))) qJ7_fill_53178_13 ?_
      refine v_iinc hX rfl (by first | exact ii_nI _ | exact ii_1 _) (Nat.le_of_ble_eq_true rfl) rfl (ls' := [some _, some _, some _, some _]) rfl qJ7_fill_53178_14 ?_
      refine v_goto hX 5 qJ7_fill_53178_17 rfl ?_
      exact ih _ (by omega) (i + 1) (stI (σ, h.2) a i v).1 rfl (by omega) (fun k hk2 => by show hpI (stI _ _ _ _) _ _ = _; rw [hpI_st]; by_cases z : k = i; rw [if_pos ⟨rfl, z⟩]; rw [if_neg (fun y => z y.2)]; exact hv k (by omega)) (fun b j hbj => by show hpI (stI _ _ _ _) _ _ = _; rw [hpI_st, if_neg (fun y => hbj ⟨y.1, by omega⟩)]; exact hf b j hbj)
  exact L5 _ 0 h.1 rfl (by omega) (fun k hk2 => absurd hk2 (Nat.not_lt_zero _)) (fun _ _ _ => rfl)
theorem bnd_id {n : Nat} (h : n ≤ 40) : bnd (nI n) 0 40 = nI n := by
  have e40 : (40 : Int32) = nI 40 := rfl
  have e0 : (0 : Int32) = nI 0 := rfl
  unfold bnd
  rw [e40, e0]
  have e1 : (if nI n < nI 40 then nI n else nI 40) = nI n := by
    by_cases z : nI n < nI 40
    · rw [if_pos z]
    · rw [if_neg z]
      rw [nI_ltI (by omega) (by omega)] at z
      rw [show n = 40 by omega]
  rw [e1]
  by_cases z : nI 0 < nI n
  · rw [if_pos z]
  · rw [if_neg z]
    rw [nI_ltI (by omega) (by omega)] at z
    rw [show n = 0 by omega]
def sheetI (E : Sst) (s so n : Int32) : Int32 × (Nat → Int32) × (Nat → Nat) × (Nat → Nat → Int32) :=
  if (0 ≤ s ∧ s ≤ 3) ∧ (-1 ≤ so ∧ so ≤ 2) then
    (if so = -1 then (1, (fun i => if i = tn s then -1 else sS E i), (fun i => if i = tn s then 0 else sL E i), sI' E)
     else if 40 < n then (-2, sS E, sL E, sI' E)
     else if n < 0 then (-14, sS E, sL E, sI' E)
     else (1, (fun i => if i = tn s then so else sS E i), (fun i => if i = tn s then tn n else sL E i), fun i k => if i = tn s then 0 else sI' E i k))
  else (-2, sS E, sL E, sI' E)
theorem qX6_lay_0 : Dq cX6_lay 0 (.aload_n 0) 1 1 := ⟨by decide +kernel, rfl⟩
theorem qX6_lay_1 : Dq cX6_lay 1 (.iload_n 1) 1 2 := ⟨by decide +kernel, rfl⟩
theorem qX6_lay_2 : Dq cX6_lay 2 (.putfield 15) 3 5 := ⟨by decide +kernel, rfl⟩
theorem qX6_lay_5 : Dq cX6_lay 5 (.aload_n 0) 1 6 := ⟨by decide +kernel, rfl⟩
theorem qX6_lay_6 : Dq cX6_lay 6 (.iload_n 2) 1 7 := ⟨by decide +kernel, rfl⟩
theorem qX6_lay_7 : Dq cX6_lay 7 (.iconst 0) 1 8 := ⟨by decide +kernel, rfl⟩
theorem qX6_lay_8 : Dq cX6_lay 8 (.bipush 40) 2 10 := ⟨by decide +kernel, rfl⟩
theorem qX6_lay_10 : Dq cX6_lay 10 (.invokestatic 22) 3 13 := ⟨by decide +kernel, rfl⟩
theorem qX6_lay_13 : Dq cX6_lay 13 (.putfield 19) 3 16 := ⟨by decide +kernel, rfl⟩
theorem qX6_lay_16 : Dq cX6_lay 16 (.aload_n 0) 1 17 := ⟨by decide +kernel, rfl⟩
theorem qX6_lay_17 : Dq cX6_lay 17 (.getfield 9) 3 20 := ⟨by decide +kernel, rfl⟩
theorem qX6_lay_20 : Dq cX6_lay 20 (.iconst 0) 1 21 := ⟨by decide +kernel, rfl⟩
theorem qX6_lay_21 : Dq cX6_lay 21 (.invokestatic 26) 3 24 := ⟨by decide +kernel, rfl⟩
theorem qX6_lay_24 : Dq cX6_lay 24 (.return_) 1 25 := ⟨by decide +kernel, rfl⟩
set_option maxRecDepth 100000 in
set_option maxHeartbeats 4000000 in
theorem c_lay {G : Glb} {h : AHp} (hs : ShC h) {S : Nat} (hS : isS S) (so : Int32) {n : Nat} (hn : n ≤ 40) : CP G m_X6_lay 3 0 0 [.ref S, .int so, .int (nI n)] h (fun r h' => r = none ∧ ∃ σ, h' = (σ, h.2) ∧ σ S 1 = so ∧ σ S 2 = nI n ∧ (∀ k, k < 40 → σ (S + 1) k = 0) ∧ ∀ a, a ≠ S → a ≠ S + 1 → σ a = hpI h a) := by
  suffices key : ∀ P : Option Value → AHp → Prop, (∀ r h', (r = none ∧ ∃ σ, h' = (σ, h.2) ∧ σ S 1 = so ∧ σ S 2 = nI n ∧ (∀ k, k < 40 → σ (S + 1) k = 0) ∧ ∀ a, a ≠ S → a ≠ S + 1 → σ a = hpI h a) → P r h') → CP G m_X6_lay 3 0 0 [.ref S, .int so, .int (nI n)] h P from key _ (fun _ _ z => z)
  intro P hP
  refine CP.of (by decide +kernel) (Nat.le_of_ble_eq_true rfl) fun X hX hR hnm => ?_
  show V X G 3 0 0 _ 0 [some (.ref S), some (.int so), some (.int (nI n))] [] h
  refine v_aload_n hX rfl qX6_lay_0 ?_
  refine v_iload_n hX rfl qX6_lay_1 ?_
  refine v_putI hX p_X6_15 (hs.sk hS) (Or.inl rfl) qX6_lay_2 ?_
  refine v_aload_n hX rfl qX6_lay_5 ?_
  refine v_iload_n hX rfl qX6_lay_6 ?_
  refine v_iconst hX li_0 qX6_lay_7 ?_
  refine v_bipush hX lb_40 qX6_lay_8 ?_
  refine v_callNq hX hR k_X6_22 (c_bounded _ _ _) rfl (Nat.le_of_ble_eq_true rfl) rfl (Nat.le_of_ble_eq_true rfl) ⟨Nat.le_of_ble_eq_true rfl, Nat.le_of_ble_eq_true rfl⟩ qX6_lay_10 ?_
  rintro _ _ ⟨rfl, rfl⟩
  refine v_eqI (bnd_id hn) ?_
  refine v_putI hX p_X6_19 (hs.sk hS) (Or.inl rfl) qX6_lay_13 ?_
  refine v_aload_n hX rfl qX6_lay_16 ?_
  refine v_getR hX g_X6_9 (hs.sk hS) (hs.si hS) qX6_lay_17 ?_
  refine v_iconst hX li_0 qX6_lay_20 ?_
  refine v_callSq hX hR k_X6_26 (c_fill (by exact (hs.sik hS)) (by exact (hs.sil hS)) (by omega) _) rfl (Nat.le_of_ble_eq_true rfl) rfl (Nat.le_of_ble_eq_true rfl) ⟨Nat.le_of_ble_eq_true rfl, Nat.le_of_ble_eq_true rfl⟩ qX6_lay_21 ?_
  rintro _ _ ⟨rfl, σ, rfl, hv, hf⟩
  refine v_return hX qX6_lay_24 (hP _ _ ?_)
  refine ⟨rfl, σ, rfl, ?_, ?_, hv, fun a a1 a2 => funext fun k => ?_⟩
  · exact (hf S 1 (by omega)).trans (by rw [hpI_st, if_neg (by omega), hpI_st, if_pos ⟨rfl, rfl⟩])
  · exact (hf S 2 (by omega)).trans (by rw [hpI_st, if_pos ⟨rfl, rfl⟩])
  · exact (hf a k (by omega)).trans (by rw [hpI_st, if_neg (by omega), hpI_st, if_neg (by omega)])
theorem qX11_sheet_0 : Dq cX11_sheet 0 (.aload_n 0) 1 1 := ⟨by decide +kernel, rfl⟩
theorem qX11_sheet_1 : Dq cX11_sheet 1 (.iload_n 1) 1 2 := ⟨by decide +kernel, rfl⟩
theorem qX11_sheet_2 : Dq cX11_sheet 2 (.invokevirtual 234) 3 5 := ⟨by decide +kernel, rfl⟩
theorem qX11_sheet_5 : Dq cX11_sheet 5 (.astore 4) 2 7 := ⟨by decide +kernel, rfl⟩
theorem qX11_sheet_7 : Dq cX11_sheet 7 (.aload 4) 2 9 := ⟨by decide +kernel, rfl⟩
theorem qX11_sheet_9 : Dq cX11_sheet 9 (.ifnull 12) 3 12 := ⟨by decide +kernel, rfl⟩
theorem qX11_sheet_12 : Dq cX11_sheet 12 (.iload_n 2) 1 13 := ⟨by decide +kernel, rfl⟩
theorem qX11_sheet_13 : Dq cX11_sheet 13 (.iconst (-1)) 1 14 := ⟨by decide +kernel, rfl⟩
theorem qX11_sheet_14 : Dq cX11_sheet 14 (.iconst 2) 1 15 := ⟨by decide +kernel, rfl⟩
theorem qX11_sheet_15 : Dq cX11_sheet 15 (.invokestatic 110) 3 18 := ⟨by decide +kernel, rfl⟩
theorem qX11_sheet_18 : Dq cX11_sheet 18 (.ifCond .ne 6) 3 21 := ⟨by decide +kernel, rfl⟩
theorem qX11_sheet_21 : Dq cX11_sheet 21 (.bipush (-2)) 2 23 := ⟨by decide +kernel, rfl⟩
theorem qX11_sheet_23 : Dq cX11_sheet 23 (.ireturn) 1 24 := ⟨by decide +kernel, rfl⟩
theorem qX11_sheet_24 : Dq cX11_sheet 24 (.iload_n 2) 1 25 := ⟨by decide +kernel, rfl⟩
theorem qX11_sheet_25 : Dq cX11_sheet 25 (.iconst (-1)) 1 26 := ⟨by decide +kernel, rfl⟩
theorem qX11_sheet_26 : Dq cX11_sheet 26 (.if_icmp .ne 10) 3 29 := ⟨by decide +kernel, rfl⟩
theorem qX11_sheet_29 : Dq cX11_sheet 29 (.aload 4) 2 31 := ⟨by decide +kernel, rfl⟩
theorem qX11_sheet_31 : Dq cX11_sheet 31 (.invokevirtual 297) 3 34 := ⟨by decide +kernel, rfl⟩
theorem qX11_sheet_34 : Dq cX11_sheet 34 (.iconst 1) 1 35 := ⟨by decide +kernel, rfl⟩
theorem qX11_sheet_35 : Dq cX11_sheet 35 (.ireturn) 1 36 := ⟨by decide +kernel, rfl⟩
theorem qX11_sheet_36 : Dq cX11_sheet 36 (.iload_n 3) 1 37 := ⟨by decide +kernel, rfl⟩
theorem qX11_sheet_37 : Dq cX11_sheet 37 (.bipush 40) 2 39 := ⟨by decide +kernel, rfl⟩
theorem qX11_sheet_39 : Dq cX11_sheet 39 (.if_icmp .le 6) 3 42 := ⟨by decide +kernel, rfl⟩
theorem qX11_sheet_42 : Dq cX11_sheet 42 (.bipush (-2)) 2 44 := ⟨by decide +kernel, rfl⟩
theorem qX11_sheet_44 : Dq cX11_sheet 44 (.ireturn) 1 45 := ⟨by decide +kernel, rfl⟩
theorem qX11_sheet_45 : Dq cX11_sheet 45 (.iload_n 3) 1 46 := ⟨by decide +kernel, rfl⟩
theorem qX11_sheet_46 : Dq cX11_sheet 46 (.ifCond .ge 6) 3 49 := ⟨by decide +kernel, rfl⟩
theorem qX11_sheet_49 : Dq cX11_sheet 49 (.bipush (-14)) 2 51 := ⟨by decide +kernel, rfl⟩
theorem qX11_sheet_51 : Dq cX11_sheet 51 (.ireturn) 1 52 := ⟨by decide +kernel, rfl⟩
theorem qX11_sheet_52 : Dq cX11_sheet 52 (.aload 4) 2 54 := ⟨by decide +kernel, rfl⟩
theorem qX11_sheet_54 : Dq cX11_sheet 54 (.iload_n 2) 1 55 := ⟨by decide +kernel, rfl⟩
theorem qX11_sheet_55 : Dq cX11_sheet 55 (.iload_n 3) 1 56 := ⟨by decide +kernel, rfl⟩
theorem qX11_sheet_56 : Dq cX11_sheet 56 (.invokevirtual 300) 3 59 := ⟨by decide +kernel, rfl⟩
theorem qX11_sheet_59 : Dq cX11_sheet 59 (.iconst 1) 1 60 := ⟨by decide +kernel, rfl⟩
theorem qX11_sheet_60 : Dq cX11_sheet 60 (.ireturn) 1 61 := ⟨by decide +kernel, rfl⟩
theorem so_4 {so : Int32} (h : -1 ≤ so ∧ so ≤ 2) : so = -1 ∨ so = 0 ∨ so = 1 ∨ so = 2 := by
  have h1 := leI.mp h.1
  have h2 := leI.mp h.2
  have e1 : (-1 : Int32).toInt = -1 := rfl
  have e2 : (2 : Int32).toInt = 2 := rfl
  have e3 : (0 : Int32).toInt = 0 := rfl
  have e4 : (1 : Int32).toInt = 1 := rfl
  simp only [eqI]
  omega
set_option maxRecDepth 100000 in
set_option maxHeartbeats 4000000 in
theorem c_sheet {G : Glb} {h : AHp} {E : Sst} (hc : CV h E) (s so n : Int32) : CP G m_X11_sheet 4 0 0 [.ref 0, .int s, .int so, .int n] h (fun r h' => r = some (.int (sheetI E s so n).1) ∧ ∃ σ, h' = (σ, h.2) ∧ CV (σ, h.2) (setS E (sheetI E s so n).2.1 (sheetI E s so n).2.2.1 (sheetI E s so n).2.2.2) ∧ K38 h σ) := by
  suffices key : ∀ P : Option Value → AHp → Prop, (∀ r h', (r = some (.int (sheetI E s so n).1) ∧ ∃ σ, h' = (σ, h.2) ∧ CV (σ, h.2) (setS E (sheetI E s so n).2.1 (sheetI E s so n).2.2.1 (sheetI E s so n).2.2.2) ∧ K38 h σ) → P r h') → CP G m_X11_sheet 4 0 0 [.ref 0, .int s, .int so, .int n] h P from key _ (fun _ _ z => z)
  intro P hP
  have hs := hc.sh
  have hru := hc.ru
  have hca := hc.ca
  have hbe := hc.be
  have hok := hc.ok
  obtain ⟨hrl, hrl5⟩ := hbe.rl hok.1
  rw [bv0 (by omega) (by omega)] at hrl5
  have hh3 := hbe.2.2.2.1
  rw [bv0 (by omega) (by omega)] at hh3
  refine CP.of (by decide +kernel) (Nat.le_of_ble_eq_true rfl) fun X hX hR hnm => ?_
  show V X G 5 0 0 _ 0 [some (.ref 0), some (.int s), some (.int so), some (.int n), none] [] h
  refine v_aload_n hX rfl qX11_sheet_0 ?_
  refine v_iload_n hX rfl qX11_sheet_1 ?_
  refine v_callVq hX hR k_X11_234 (hs.kd 0 rfl) (c_sheetAt (by exact hs) _) rfl (Nat.le_of_ble_eq_true rfl) rfl (Nat.le_of_ble_eq_true rfl) ⟨Nat.le_of_ble_eq_true rfl, Nat.le_of_ble_eq_true rfl⟩ qX11_sheet_2 ?_
  rintro _ _ ⟨⟨j, hj, rfl, rfl⟩ | ⟨hn, rfl⟩, rfl⟩
  · obtain ⟨g1, g2, g3⟩ := hc.st j hj
    have hr3 := r3 hj
    have hl40 := (hok.2.2.2.2.2.2.2 j hj).1
    refine v_astore hX (Nat.le_of_ble_eq_true rfl) rfl (ls' := [some _, some _, some _, some _, some _]) rfl qX11_sheet_5 ?_
    refine v_aload hX rfl qX11_sheet_7 ?_
    refine v_ifnull hX qX11_sheet_9 ?_
    refine v_iload_n hX rfl qX11_sheet_12 ?_
    refine v_iconst hX li_n1 qX11_sheet_13 ?_
    refine v_iconst hX li_2 qX11_sheet_14 ?_
    refine v_callSq hX hR k_X11_110 (c_isWithin _ _ _) rfl (Nat.le_of_ble_eq_true rfl) rfl (Nat.le_of_ble_eq_true rfl) ⟨Nat.le_of_ble_eq_true rfl, Nat.le_of_ble_eq_true rfl⟩ qX11_sheet_15 ?_
    rintro _ _ ⟨rfl, rfl⟩
    first | refine v_if_neB hX 24 qX11_sheet_18 rfl (fun q18 => ?_) (fun q18 => ?_) | refine v_if_ne hX 24 qX11_sheet_18 rfl (fun q18 => ?_) (fun q18 => ?_)
    · have hcnd : (0 ≤ nI j ∧ nI j ≤ 3) ∧ (-1 ≤ so ∧ so ≤ 2) := ⟨hr3, q18⟩
      refine v_iload_n hX rfl qX11_sheet_24 ?_
      refine v_iconst hX li_n1 qX11_sheet_25 ?_
      refine v_icmp_ne hX 36 qX11_sheet_26 rfl (fun q26 => ?_) (fun q26 => ?_)
      · skip
        refine v_iload_n hX rfl qX11_sheet_36 ?_
        refine v_bipush hX lb_40 qX11_sheet_37 ?_
        refine v_icmp_leS hX 45 qX11_sheet_39 rfl (fun q39 => ?_) (fun q39 => ?_)
        · skip
          refine v_iload_n hX rfl qX11_sheet_45 ?_
          refine v_if_geS hX 52 qX11_sheet_46 rfl (fun q46 => ?_) (fun q46 => ?_)
          · obtain ⟨w, hw, rfl⟩ := rng_ex 40 (by omega) ⟨q46, q39⟩
            refine v_aload hX rfl qX11_sheet_52 ?_
            refine v_iload_n hX rfl qX11_sheet_54 ?_
            refine v_iload_n hX rfl qX11_sheet_55 ?_
            refine v_callVq hX hR k_X11_300 (hs.sk (isS_j hj)) (c_lay (by exact hs) (by exact (isS_j hj)) _ (by exact hw)) rfl (Nat.le_of_ble_eq_true rfl) rfl (Nat.le_of_ble_eq_true rfl) ⟨Nat.le_of_ble_eq_true rfl, Nat.le_of_ble_eq_true rfl⟩ qX11_sheet_56 ?_
            rintro _ _ ⟨rfl, σ, rfl, s1, s2, s3, s4⟩
            refine v_iconst hX li_1 qX11_sheet_59 ?_
            refine v_ireturn hX qX11_sheet_60 (hP _ _ ?_)
            rw [sheetI, if_pos hcnd, tn_nI (show j < 2000000 by omega), tn_nI (show w < 2000000 by omega), if_neg q26, if_neg (Int32.not_lt.mpr q39), if_neg (Int32.not_lt.mpr q46)]
            refine ⟨rfl, σ, rfl, hc.shts (fun a k a1 => ?_) (fun i hi => ?_) (fun i hi => ?_), fun a ha => s4 a (by omega) (by omega)⟩
            · exact congrFun (s4 a (by omega) (by omega)) k
            · obtain ⟨f1, f2, f3⟩ := hc.st i hi
              show σ (30 + 2 * i) 1 = (if i = j then so else sS E i) ∧ σ (30 + 2 * i) 2 = nI (if i = j then w else sL E i) ∧ ∀ k, k < (if i = j then w else sL E i) → σ (30 + 2 * i + 1) k = (if i = j then 0 else sI' E i k)
              by_cases e : i = j
              · rw [if_pos e, if_pos e, e]
                refine ⟨s1, s2, fun k hk => by rw [if_pos rfl]; exact s3 k (by omega)⟩
              · rw [if_neg e, if_neg e]
                refine ⟨(congrFun (s4 _ (by omega) (by omega)) 1).trans f1, (congrFun (s4 _ (by omega) (by omega)) 2).trans f2, fun k hk => by rw [if_neg e]; exact (congrFun (s4 _ (by omega) (by omega)) k).trans (f3 k hk)⟩
            · have hq := hok.2.2.2.2.2.2.2 i hi
              show (if i = j then w else sL E i) ≤ 40 ∧ ((if i = j then so else sS E i) = -1 ∨ (if i = j then so else sS E i) = 0 ∨ (if i = j then so else sS E i) = 1 ∨ (if i = j then so else sS E i) = 2)
              by_cases e : i = j
              · rw [if_pos e, if_pos e]; exact ⟨hw, so_4 q18⟩
              · rw [if_neg e, if_neg e]; exact hq
          · skip
            refine v_bipush hX lb_n14 qX11_sheet_49 ?_
            refine v_ireturn hX qX11_sheet_51 (hP _ _ ?_)
            rw [sheetI, if_pos hcnd, tn_nI (show j < 2000000 by omega), if_neg q26, if_neg (Int32.not_lt.mpr q39), if_pos q46]
            exact ⟨rfl, h.1, rfl, hc, fun a _ => rfl⟩
        · skip
          refine v_bipush hX lb_n2 qX11_sheet_42 ?_
          refine v_ireturn hX qX11_sheet_44 (hP _ _ ?_)
          rw [sheetI, if_pos hcnd, tn_nI (show j < 2000000 by omega), if_neg q26, if_pos q39]
          exact ⟨rfl, h.1, rfl, hc, fun a _ => rfl⟩
      · skip
        refine v_aload hX rfl qX11_sheet_29 ?_
        refine v_callVq hX hR k_X11_297 (hs.sk (isS_j hj)) (c_remove (by exact hs) (by exact (isS_j hj))) rfl (Nat.le_of_ble_eq_true rfl) rfl (Nat.le_of_ble_eq_true rfl) ⟨Nat.le_of_ble_eq_true rfl, Nat.le_of_ble_eq_true rfl⟩ qX11_sheet_31 ?_
        rintro _ _ ⟨rfl, rfl⟩
        refine v_iconst hX li_1 qX11_sheet_34 ?_
        refine v_ireturn hX qX11_sheet_35 (hP _ _ ?_)
        rw [sheetI, if_pos hcnd, tn_nI (show j < 2000000 by omega), if_pos q26]
        refine ⟨rfl, (stI (stI h (30 + 2 * j) 1 (-1)) (30 + 2 * j) 2 0).1, rfl, hc.shts (fun a k a1 => ?_) (fun i hi => ?_) (fun i hi => ?_), fun a ha => funext fun k => ?_⟩
        · show hpI (stI _ _ _ _) _ _ = _; rw [hpI_st, if_neg (by omega), hpI_st, if_neg (by omega)]
        · obtain ⟨f1, f2, f3⟩ := hc.st i hi
          show hpI (stI (stI h (30 + 2 * j) 1 (-1)) (30 + 2 * j) 2 0) (30 + 2 * i) 1 = (if i = j then -1 else sS E i) ∧ hpI (stI (stI h (30 + 2 * j) 1 (-1)) (30 + 2 * j) 2 0) (30 + 2 * i) 2 = nI (if i = j then 0 else sL E i) ∧ ∀ k, k < (if i = j then 0 else sL E i) → hpI (stI (stI h (30 + 2 * j) 1 (-1)) (30 + 2 * j) 2 0) (30 + 2 * i + 1) k = sI' E i k
          by_cases e : i = j
          · rw [if_pos e, if_pos e, e]
            refine ⟨by rw [hpI_st, if_neg (by omega), hpI_st, if_pos ⟨rfl, rfl⟩], by rw [hpI_st, if_pos ⟨rfl, rfl⟩]; rfl, fun k hk => absurd hk (Nat.not_lt_zero _)⟩
          · rw [if_neg e, if_neg e]
            refine ⟨by rw [hpI_st, if_neg (by omega), hpI_st, if_neg (by omega)]; exact f1, by rw [hpI_st, if_neg (by omega), hpI_st, if_neg (by omega)]; exact f2, fun k hk => by rw [hpI_st, if_neg (by omega), hpI_st, if_neg (by omega)]; exact f3 k hk⟩
        · have hq := hok.2.2.2.2.2.2.2 i hi
          show (if i = j then 0 else sL E i) ≤ 40 ∧ ((if i = j then -1 else sS E i) = -1 ∨ (if i = j then -1 else sS E i) = 0 ∨ (if i = j then -1 else sS E i) = 1 ∨ (if i = j then -1 else sS E i) = 2)
          by_cases e : i = j
          · rw [if_pos e, if_pos e]; exact ⟨by omega, Or.inl rfl⟩
          · rw [if_neg e, if_neg e]; exact hq
        · show hpI (stI _ _ _ _) _ _ = _; rw [hpI_st, if_neg (by omega), hpI_st, if_neg (by omega)]
    · skip
      refine v_bipush hX lb_n2 qX11_sheet_21 ?_
      refine v_ireturn hX qX11_sheet_23 (hP _ _ ?_)
      first | (rw [sheetI, if_neg (fun z : (0 ≤ s ∧ s ≤ 3) ∧ (-1 ≤ so ∧ so ≤ 2) => hn z.1)]; exact ⟨rfl, h.1, rfl, hc, fun a _ => rfl⟩) | (rw [sheetI, if_neg (fun z : (0 ≤ nI j ∧ nI j ≤ 3) ∧ (-1 ≤ so ∧ so ≤ 2) => q18 z.2)]; exact ⟨rfl, h.1, rfl, hc, fun a _ => rfl⟩)
  · skip
    refine v_astoreN hX (Nat.le_of_ble_eq_true rfl) rfl (ls' := [some _, some _, some _, some _, some _]) rfl qX11_sheet_5 ?_
    refine v_aloadN hX rfl qX11_sheet_7 ?_
    refine v_ifnullN hX 21 qX11_sheet_9 rfl ?_
    refine v_bipush hX lb_n2 qX11_sheet_21 ?_
    refine v_ireturn hX qX11_sheet_23 (hP _ _ ?_)
    first | (rw [sheetI, if_neg (fun z : (0 ≤ s ∧ s ≤ 3) ∧ (-1 ≤ so ∧ so ≤ 2) => hn z.1)]; exact ⟨rfl, h.1, rfl, hc, fun a _ => rfl⟩) | (rw [sheetI, if_neg (fun z : (0 ≤ nI j ∧ nI j ≤ 3) ∧ (-1 ≤ so ∧ so ≤ 2) => q18 z.2)]; exact ⟨rfl, h.1, rfl, hc, fun a _ => rfl⟩)
