/-! the readers of the class, each by the ones it calls -/
theorem qX10_readTerm_0 : Dq cX10_readTerm 0 (.aload_n 0) 1 1 := ⟨by decide +kernel, rfl⟩
theorem qX10_readTerm_1 : Dq cX10_readTerm 1 (.invokevirtual 97) 3 4 := ⟨by decide +kernel, rfl⟩
theorem qX10_readTerm_4 : Dq cX10_readTerm 4 (.ifCond .ne 5) 3 7 := ⟨by decide +kernel, rfl⟩
theorem qX10_readTerm_7 : Dq cX10_readTerm 7 (.iconst 0) 1 8 := ⟨by decide +kernel, rfl⟩
theorem qX10_readTerm_8 : Dq cX10_readTerm 8 (.ireturn) 1 9 := ⟨by decide +kernel, rfl⟩
theorem qX10_readTerm_9 : Dq cX10_readTerm 9 (.iconst 0) 1 10 := ⟨by decide +kernel, rfl⟩
theorem qX10_readTerm_10 : Dq cX10_readTerm 10 (.istore_n 1) 1 11 := ⟨by decide +kernel, rfl⟩
theorem qX10_readTerm_11 : Dq cX10_readTerm 11 (.iload_n 1) 1 12 := ⟨by decide +kernel, rfl⟩
theorem qX10_readTerm_12 : Dq cX10_readTerm 12 (.sipush 160) 3 15 := ⟨by decide +kernel, rfl⟩
theorem qX10_readTerm_15 : Dq cX10_readTerm 15 (.if_icmp .ge 43) 3 18 := ⟨by decide +kernel, rfl⟩
theorem qX10_readTerm_18 : Dq cX10_readTerm 18 (.aload_n 0) 1 19 := ⟨by decide +kernel, rfl⟩
theorem qX10_readTerm_19 : Dq cX10_readTerm 19 (.getfield 71) 3 22 := ⟨by decide +kernel, rfl⟩
theorem qX10_readTerm_22 : Dq cX10_readTerm 22 (.bipush 42) 2 24 := ⟨by decide +kernel, rfl⟩
theorem qX10_readTerm_24 : Dq cX10_readTerm 24 (.if_icmp .ne 34) 3 27 := ⟨by decide +kernel, rfl⟩
theorem qX10_readTerm_27 : Dq cX10_readTerm 27 (.aload_n 0) 1 28 := ⟨by decide +kernel, rfl⟩
theorem qX10_readTerm_28 : Dq cX10_readTerm 28 (.aload_n 0) 1 29 := ⟨by decide +kernel, rfl⟩
theorem qX10_readTerm_29 : Dq cX10_readTerm 29 (.getfield 74) 3 32 := ⟨by decide +kernel, rfl⟩
theorem qX10_readTerm_32 : Dq cX10_readTerm 32 (.iconst 1) 1 33 := ⟨by decide +kernel, rfl⟩
theorem qX10_readTerm_33 : Dq cX10_readTerm 33 (.iadd) 1 34 := ⟨by decide +kernel, rfl⟩
theorem qX10_readTerm_34 : Dq cX10_readTerm 34 (.invokevirtual 47) 3 37 := ⟨by decide +kernel, rfl⟩
theorem qX10_readTerm_37 : Dq cX10_readTerm 37 (.aload_n 0) 1 38 := ⟨by decide +kernel, rfl⟩
theorem qX10_readTerm_38 : Dq cX10_readTerm 38 (.invokevirtual 97) 3 41 := ⟨by decide +kernel, rfl⟩
theorem qX10_readTerm_41 : Dq cX10_readTerm 41 (.ifCond .ne 5) 3 44 := ⟨by decide +kernel, rfl⟩
theorem qX10_readTerm_44 : Dq cX10_readTerm 44 (.iconst 0) 1 45 := ⟨by decide +kernel, rfl⟩
theorem qX10_readTerm_45 : Dq cX10_readTerm 45 (.ireturn) 1 46 := ⟨by decide +kernel, rfl⟩
theorem qX10_readTerm_46 : Dq cX10_readTerm 46 (.aload_n 0) 1 47 := ⟨by decide +kernel, rfl⟩
theorem qX10_readTerm_47 : Dq cX10_readTerm 47 (.bipush (-14)) 2 49 := ⟨by decide +kernel, rfl⟩
theorem qX10_readTerm_49 : Dq cX10_readTerm 49 (.invokevirtual 79) 3 52 := ⟨by decide +kernel, rfl⟩
theorem qX10_readTerm_52 : Dq cX10_readTerm 52 (.iinc 1 1) 3 55 := ⟨by decide +kernel, rfl⟩
theorem qX10_readTerm_55 : Dq cX10_readTerm 55 (.goto (-44)) 3 58 := ⟨by decide +kernel, rfl⟩
theorem qX10_readTerm_58 : Dq cX10_readTerm 58 (.iconst 1) 1 59 := ⟨by decide +kernel, rfl⟩
theorem qX10_readTerm_59 : Dq cX10_readTerm 59 (.ireturn) 1 60 := ⟨by decide +kernel, rfl⟩
set_option maxRecDepth 100000 in
set_option maxHeartbeats 4000000 in
theorem c_readTerm {G : Glb} {K W : Nat → Int32} {Pl : Nat → Nat} {n sz : Nat} {d o : Nat} (hd : 10 ≤ d) {sub : Nat → PR} {N : Nat} (hsub : CSub G K W Pl n sz m_X10_readOne d o sub) (hok : SubOK n sub N) (hK : ∀ i, n ≤ i → K i = 0) (h : AHp) (i c : Nat) (hs : ShC h) (ht : TkC K W Pl n sz h) (hp0 : StP K h o c h.1 i []) (hi : i ≤ n) (hci : c ≤ i) : CP G m_X10_readTerm (d + 1) 0 0 [.ref 11] h (fun r h' => ∃ σ x, r = some (.int x) ∧ h' = (σ, h.2) ∧ PoR K Pl h o c σ x (pSeq K n opT sub i)) := by
  suffices key : ∀ P : Option Value → AHp → Prop, (∀ r h', (∃ σ x, r = some (.int x) ∧ h' = (σ, h.2) ∧ PoR K Pl h o c σ x (pSeq K n opT sub i)) → P r h') → CP G m_X10_readTerm (d + 1) 0 0 [.ref 11] h P from key _ (fun _ _ z => z)
  intro P hP
  refine CP.of (by decide +kernel) (Nat.le_of_ble_eq_true rfl) fun X hX hR hnm => ?_
  show V X G 2 0 0 _ 0 [some (.ref 11), none] [] h
  have hn160 := ht.2.1
  have e0 := hp0.2.2.2.2.1
  rw [show c + ([] : List Int32).length = c from rfl] at e0
  refine v_aload_n hX rfl qX10_readTerm_0 ?_
  refine v_callVq hX hR k_X10_97 (hs.kd 11 rfl) (hsub _ (by exact i) (by exact c) (by exact hs) (by exact ht) (by exact hp0) (by omega) (by omega)) rfl (by omega) rfl (Nat.le_of_ble_eq_true rfl) ⟨Nat.le_of_ble_eq_true rfl, Nat.le_of_ble_eq_true rfl⟩ qX10_readTerm_1 ?_
  rintro _ _ ⟨σ1, x1, rfl, rfl, hp1⟩
  rcases e1 : sub i with g | ⟨j1, cs1, v1⟩
  · rw [e1] at hp1
    obtain ⟨rfl, hfa, hfl⟩ := hp1
    first | refine v_if_neB hX 9 qX10_readTerm_4 rfl (fun q4 => ?_) (fun q4 => ?_) | refine v_if_ne hX 9 qX10_readTerm_4 rfl (fun q4 => ?_) (fun q4 => ?_)
    · exact absurd rfl q4
    · skip
      refine v_iconst hX li_0 qX10_readTerm_7 ?_
      refine v_zreturn hX (by first | exact Or.inl rfl | exact Or.inr rfl | exact bz01 _) qX10_readTerm_8 (hP _ _ ?_)
      exact ⟨σ1, 0, rfl, rfl, PoR.of (r := .inl g) ⟨rfl, hfa, hfl⟩ (pSeq_in e1)⟩
  · rw [e1] at hp1
    obtain ⟨rfl, hst⟩ := hp1
    obtain ⟨y1, y2, y3, -⟩ := hok _ _ _ _ e1
    first | refine v_if_neB hX 9 qX10_readTerm_4 rfl (fun q4 => ?_) (fun q4 => ?_) | refine v_if_ne hX 9 qX10_readTerm_4 rfl (fun q4 => ?_) (fun q4 => ?_)
    · skip
      refine v_iconst hX li_0 qX10_readTerm_9 ?_
      refine v_istore_n hX (Nat.le_of_ble_eq_true rfl) rfl (ls' := [some _, some _]) rfl qX10_readTerm_10 ?_
      have L11 : ∀ (mz : Nat) (k j f : Nat) (cs : List Int32) (v : (Nat → Int32) → Int32) (σ : Nat → Nat → Int32), n - j = mz → (i + k < j) → (j ≤ n) → (n ≤ j + f) → (i + cs.length ≤ j) → (StP K h o c σ j cs) → (pLoop K opT sub f j cs v = pSeq K n opT sub i) → V X G 2 0 0 (QM X G P 0 0) 11 [some (.ref 11), some (.int (nI k))] [] (σ, h.2) := by
        intro mz
        induction mz using Nat.strongRecOn with
        | _ mz ih =>
        intro k j f cs v σ hmz hk hj hf hcl hp2 hlp
        refine v_iload_n hX rfl qX10_readTerm_11 ?_
        refine v_sipush hX ls_160 qX10_readTerm_12 ?_
        refine v_icmp_geS hX 58 qX10_readTerm_15 rfl (fun q15 => ?_) (fun q15 => ?_)
        · exact absurd q15 (nI_ge (a := k) (b := 160) (by omega) (by omega))
        · skip
          refine v_aload_n hX rfl qX10_readTerm_18 ?_
          refine v_getIv hX g_X10_71 (Or.inl rfl) (hs.kd 11 rfl) (show _ = K j from hp2.2.2.1) qX10_readTerm_19 ?_
          refine v_bipush hX lb_42 qX10_readTerm_22 ?_
          refine v_icmp_ne hX 58 qX10_readTerm_24 rfl (fun q24 => ?_) (fun q24 => ?_)
          · have ho : opT (K j) = none := if_neg q24
            refine v_iconst hX li_1 qX10_readTerm_58 ?_
            refine v_zreturn hX (by first | exact Or.inl rfl | exact Or.inr rfl | exact bz01 _) qX10_readTerm_59 (hP _ _ ?_)
            exact ⟨σ, 1, rfl, rfl, PoR.of (r := .inr (j, cs, v)) ⟨rfl, hp2⟩ (hlp.symm.trans (pLoop_no ho))⟩
          · obtain ⟨cc, hcc, ho⟩ : ∃ cc : Int32, cc = -14 ∧ opT (K j) = some cc := ⟨_, rfl, if_pos q24⟩
            have hjn : j < n := kLt hK q24 (by decide)
            obtain ⟨f, rfl⟩ : ∃ f2, f = f2 + 1 := ⟨f - 1, by omega⟩
            refine v_aload_n hX rfl qX10_readTerm_27 ?_
            refine v_aload_n hX rfl qX10_readTerm_28 ?_
            refine v_getIv hX g_X10_74 (Or.inl rfl) (hs.kd 11 rfl) (show _ = nI j from hp2.2.1) qX10_readTerm_29 ?_
            refine v_iconst hX li_1 qX10_readTerm_32 ?_
            refine v_iadd hX qX10_readTerm_33 ?_
            refine v_eqI (nI_1 j) ?_
            refine v_callVq hX hR k_X10_47 (hs.kd 11 rfl) (c_goTo (h := (σ, h.2)) (by exact hs) (by exact (ht.fr hp2.1)) (i := j + 1) (by omega)) rfl (by omega) rfl (Nat.le_of_ble_eq_true rfl) ⟨Nat.le_of_ble_eq_true rfl, Nat.le_of_ble_eq_true rfl⟩ qX10_readTerm_34 ?_
            rintro _ _ ⟨rfl, rfl⟩
            have hp3 := hp2.go (j + 1)
            refine v_aload_n hX rfl qX10_readTerm_37 ?_
            refine v_callVq hX hR k_X10_97 (hs.kd 11 rfl) (hsub _ (by exact (j + 1)) (by exact (c + cs.length)) (by exact hs) (by exact (ht.fr hp3.1)) (by exact hp3.at) (by omega) (by omega)) rfl (by omega) rfl (Nat.le_of_ble_eq_true rfl) ⟨Nat.le_of_ble_eq_true rfl, Nat.le_of_ble_eq_true rfl⟩ qX10_readTerm_38 ?_
            rintro _ _ ⟨σ4, x4, rfl, rfl, hp4⟩
            rcases e3 : sub (j + 1) with g | ⟨j3, cs3, v3⟩
            · rw [e3] at hp4
              obtain ⟨rfl, hfa, hfl⟩ := hp4
              first | refine v_if_neB hX 46 qX10_readTerm_41 rfl (fun q41 => ?_) (fun q41 => ?_) | refine v_if_ne hX 46 qX10_readTerm_41 rfl (fun q41 => ?_) (fun q41 => ?_)
              · exact absurd rfl q41
              · skip
                refine v_iconst hX li_0 qX10_readTerm_44 ?_
                refine v_zreturn hX (by first | exact Or.inl rfl | exact Or.inr rfl | exact bz01 _) qX10_readTerm_45 (hP _ _ ?_)
                exact ⟨σ4, 0, rfl, rfl, PoR.of (r := .inl g) ⟨rfl, hp3.1.tr hfa, hfl⟩ (hlp.symm.trans (pLoop_in ho e3))⟩
            · rw [e3] at hp4
              obtain ⟨rfl, hst4⟩ := hp4
              obtain ⟨z1, z2, z3, -⟩ := hok _ _ _ _ e3
              have hp4 := hp3.sub hst4
              first | refine v_if_neB hX 46 qX10_readTerm_41 rfl (fun q41 => ?_) (fun q41 => ?_) | refine v_if_ne hX 46 qX10_readTerm_41 rfl (fun q41 => ?_) (fun q41 => ?_)
              · skip
                refine v_aload_n hX rfl qX10_readTerm_46 ?_
                refine v_bipush hX lb_n14 qX10_readTerm_47 ?_
                refine v_callVq hX hR k_X10_79 (hs.kd 11 rfl) (c_emit (h := (σ4, h.2)) (by exact hs) (c := c + (cs ++ cs3).length) (by rw [List.length_append]; omega) (by exact hp4.2.2.2.2.1) _) rfl (by omega) rfl (Nat.le_of_ble_eq_true rfl) ⟨Nat.le_of_ble_eq_true rfl, Nat.le_of_ble_eq_true rfl⟩ qX10_readTerm_49 ?_
                rintro _ _ ⟨rfl, rfl⟩
                rw [← hcc]
                have hp5 := hp4.emit cc
                refine v_iinc hX rfl (by first | exact ii_nI _ | exact ii_1 _) (Nat.le_of_ble_eq_true rfl) rfl (ls' := [some _, some _]) rfl qX10_readTerm_52 ?_
                refine v_goto hX 11 qX10_readTerm_55 rfl ?_
                exact ih _ (by omega) (k + 1) j3 f (cs ++ cs3 ++ [cc]) _ _ rfl (by omega) z2 (by omega) (by rw [List.length_append, List.length_append]; show i + (cs.length + cs3.length + 1) ≤ j3; omega) hp5 ((pLoop_go ho e3).symm.trans hlp)
              · exact absurd q41 (by decide)
      exact L11 _ 0 j1 n cs1 v1 σ1 rfl (by omega) y2 (by omega) y3 hst (pSeq_go e1).symm
    · exact absurd q4 (by decide)
theorem qX10_readSum_0 : Dq cX10_readSum 0 (.aload_n 0) 1 1 := ⟨by decide +kernel, rfl⟩
theorem qX10_readSum_1 : Dq cX10_readSum 1 (.invokevirtual 94) 3 4 := ⟨by decide +kernel, rfl⟩
theorem qX10_readSum_4 : Dq cX10_readSum 4 (.ifCond .ne 5) 3 7 := ⟨by decide +kernel, rfl⟩
theorem qX10_readSum_7 : Dq cX10_readSum 7 (.iconst 0) 1 8 := ⟨by decide +kernel, rfl⟩
theorem qX10_readSum_8 : Dq cX10_readSum 8 (.ireturn) 1 9 := ⟨by decide +kernel, rfl⟩
theorem qX10_readSum_9 : Dq cX10_readSum 9 (.iconst 0) 1 10 := ⟨by decide +kernel, rfl⟩
theorem qX10_readSum_10 : Dq cX10_readSum 10 (.istore_n 1) 1 11 := ⟨by decide +kernel, rfl⟩
theorem qX10_readSum_11 : Dq cX10_readSum 11 (.iload_n 1) 1 12 := ⟨by decide +kernel, rfl⟩
theorem qX10_readSum_12 : Dq cX10_readSum 12 (.sipush 160) 3 15 := ⟨by decide +kernel, rfl⟩
theorem qX10_readSum_15 : Dq cX10_readSum 15 (.if_icmp .ge 68) 3 18 := ⟨by decide +kernel, rfl⟩
theorem qX10_readSum_18 : Dq cX10_readSum 18 (.aload_n 0) 1 19 := ⟨by decide +kernel, rfl⟩
theorem qX10_readSum_19 : Dq cX10_readSum 19 (.getfield 71) 3 22 := ⟨by decide +kernel, rfl⟩
theorem qX10_readSum_22 : Dq cX10_readSum 22 (.bipush 43) 2 24 := ⟨by decide +kernel, rfl⟩
theorem qX10_readSum_24 : Dq cX10_readSum 24 (.if_icmp .eq 12) 3 27 := ⟨by decide +kernel, rfl⟩
theorem qX10_readSum_27 : Dq cX10_readSum 27 (.aload_n 0) 1 28 := ⟨by decide +kernel, rfl⟩
theorem qX10_readSum_28 : Dq cX10_readSum 28 (.getfield 71) 3 31 := ⟨by decide +kernel, rfl⟩
theorem qX10_readSum_31 : Dq cX10_readSum 31 (.bipush 45) 2 33 := ⟨by decide +kernel, rfl⟩
theorem qX10_readSum_33 : Dq cX10_readSum 33 (.if_icmp .ne 50) 3 36 := ⟨by decide +kernel, rfl⟩
theorem qX10_readSum_36 : Dq cX10_readSum 36 (.aload_n 0) 1 37 := ⟨by decide +kernel, rfl⟩
theorem qX10_readSum_37 : Dq cX10_readSum 37 (.getfield 71) 3 40 := ⟨by decide +kernel, rfl⟩
theorem qX10_readSum_40 : Dq cX10_readSum 40 (.bipush 43) 2 42 := ⟨by decide +kernel, rfl⟩
theorem qX10_readSum_42 : Dq cX10_readSum 42 (.if_icmp .ne 8) 3 45 := ⟨by decide +kernel, rfl⟩
theorem qX10_readSum_45 : Dq cX10_readSum 45 (.bipush (-12)) 2 47 := ⟨by decide +kernel, rfl⟩
theorem qX10_readSum_47 : Dq cX10_readSum 47 (.goto 5) 3 50 := ⟨by decide +kernel, rfl⟩
theorem qX10_readSum_50 : Dq cX10_readSum 50 (.bipush (-13)) 2 52 := ⟨by decide +kernel, rfl⟩
theorem qX10_readSum_52 : Dq cX10_readSum 52 (.istore_n 2) 1 53 := ⟨by decide +kernel, rfl⟩
theorem qX10_readSum_53 : Dq cX10_readSum 53 (.aload_n 0) 1 54 := ⟨by decide +kernel, rfl⟩
theorem qX10_readSum_54 : Dq cX10_readSum 54 (.aload_n 0) 1 55 := ⟨by decide +kernel, rfl⟩
theorem qX10_readSum_55 : Dq cX10_readSum 55 (.getfield 74) 3 58 := ⟨by decide +kernel, rfl⟩
theorem qX10_readSum_58 : Dq cX10_readSum 58 (.iconst 1) 1 59 := ⟨by decide +kernel, rfl⟩
theorem qX10_readSum_59 : Dq cX10_readSum 59 (.iadd) 1 60 := ⟨by decide +kernel, rfl⟩
theorem qX10_readSum_60 : Dq cX10_readSum 60 (.invokevirtual 47) 3 63 := ⟨by decide +kernel, rfl⟩
theorem qX10_readSum_63 : Dq cX10_readSum 63 (.aload_n 0) 1 64 := ⟨by decide +kernel, rfl⟩
theorem qX10_readSum_64 : Dq cX10_readSum 64 (.invokevirtual 94) 3 67 := ⟨by decide +kernel, rfl⟩
theorem qX10_readSum_67 : Dq cX10_readSum 67 (.ifCond .ne 5) 3 70 := ⟨by decide +kernel, rfl⟩
theorem qX10_readSum_70 : Dq cX10_readSum 70 (.iconst 0) 1 71 := ⟨by decide +kernel, rfl⟩
theorem qX10_readSum_71 : Dq cX10_readSum 71 (.ireturn) 1 72 := ⟨by decide +kernel, rfl⟩
theorem qX10_readSum_72 : Dq cX10_readSum 72 (.aload_n 0) 1 73 := ⟨by decide +kernel, rfl⟩
theorem qX10_readSum_73 : Dq cX10_readSum 73 (.iload_n 2) 1 74 := ⟨by decide +kernel, rfl⟩
theorem qX10_readSum_74 : Dq cX10_readSum 74 (.invokevirtual 79) 3 77 := ⟨by decide +kernel, rfl⟩
theorem qX10_readSum_77 : Dq cX10_readSum 77 (.iinc 1 1) 3 80 := ⟨by decide +kernel, rfl⟩
theorem qX10_readSum_80 : Dq cX10_readSum 80 (.goto (-69)) 3 83 := ⟨by decide +kernel, rfl⟩
theorem qX10_readSum_83 : Dq cX10_readSum 83 (.iconst 1) 1 84 := ⟨by decide +kernel, rfl⟩
theorem qX10_readSum_84 : Dq cX10_readSum 84 (.ireturn) 1 85 := ⟨by decide +kernel, rfl⟩
set_option maxRecDepth 100000 in
set_option maxHeartbeats 4000000 in
theorem c_readSum {G : Glb} {K W : Nat → Int32} {Pl : Nat → Nat} {n sz : Nat} {d o : Nat} (hd : 10 ≤ d) {sub : Nat → PR} {N : Nat} (hsub : CSub G K W Pl n sz m_X10_readTerm d o sub) (hok : SubOK n sub N) (hK : ∀ i, n ≤ i → K i = 0) (h : AHp) (i c : Nat) (hs : ShC h) (ht : TkC K W Pl n sz h) (hp0 : StP K h o c h.1 i []) (hi : i ≤ n) (hci : c ≤ i) : CP G m_X10_readSum (d + 1) 0 0 [.ref 11] h (fun r h' => ∃ σ x, r = some (.int x) ∧ h' = (σ, h.2) ∧ PoR K Pl h o c σ x (pSeq K n opS sub i)) := by
  suffices key : ∀ P : Option Value → AHp → Prop, (∀ r h', (∃ σ x, r = some (.int x) ∧ h' = (σ, h.2) ∧ PoR K Pl h o c σ x (pSeq K n opS sub i)) → P r h') → CP G m_X10_readSum (d + 1) 0 0 [.ref 11] h P from key _ (fun _ _ z => z)
  intro P hP
  refine CP.of (by decide +kernel) (Nat.le_of_ble_eq_true rfl) fun X hX hR hnm => ?_
  show V X G 3 0 0 _ 0 [some (.ref 11), none, none] [] h
  have hn160 := ht.2.1
  have e0 := hp0.2.2.2.2.1
  rw [show c + ([] : List Int32).length = c from rfl] at e0
  refine v_aload_n hX rfl qX10_readSum_0 ?_
  refine v_callVq hX hR k_X10_94 (hs.kd 11 rfl) (hsub _ (by exact i) (by exact c) (by exact hs) (by exact ht) (by exact hp0) (by omega) (by omega)) rfl (by omega) rfl (Nat.le_of_ble_eq_true rfl) ⟨Nat.le_of_ble_eq_true rfl, Nat.le_of_ble_eq_true rfl⟩ qX10_readSum_1 ?_
  rintro _ _ ⟨σ1, x1, rfl, rfl, hp1⟩
  rcases e1 : sub i with g | ⟨j1, cs1, v1⟩
  · rw [e1] at hp1
    obtain ⟨rfl, hfa, hfl⟩ := hp1
    first | refine v_if_neB hX 9 qX10_readSum_4 rfl (fun q4 => ?_) (fun q4 => ?_) | refine v_if_ne hX 9 qX10_readSum_4 rfl (fun q4 => ?_) (fun q4 => ?_)
    · exact absurd rfl q4
    · skip
      refine v_iconst hX li_0 qX10_readSum_7 ?_
      refine v_zreturn hX (by first | exact Or.inl rfl | exact Or.inr rfl | exact bz01 _) qX10_readSum_8 (hP _ _ ?_)
      exact ⟨σ1, 0, rfl, rfl, PoR.of (r := .inl g) ⟨rfl, hfa, hfl⟩ (pSeq_in e1)⟩
  · rw [e1] at hp1
    obtain ⟨rfl, hst⟩ := hp1
    obtain ⟨y1, y2, y3, -⟩ := hok _ _ _ _ e1
    first | refine v_if_neB hX 9 qX10_readSum_4 rfl (fun q4 => ?_) (fun q4 => ?_) | refine v_if_ne hX 9 qX10_readSum_4 rfl (fun q4 => ?_) (fun q4 => ?_)
    · skip
      refine v_iconst hX li_0 qX10_readSum_9 ?_
      refine v_istore_n hX (Nat.le_of_ble_eq_true rfl) rfl (ls' := [some _, some _, none]) rfl qX10_readSum_10 ?_
      have L11 : ∀ (mz : Nat) (k j f : Nat) (cs : List Int32) (v : (Nat → Int32) → Int32) (σ : Nat → Nat → Int32), n - j = mz → (i + k < j) → (j ≤ n) → (n ≤ j + f) → (i + cs.length ≤ j) → (StP K h o c σ j cs) → (pLoop K opS sub f j cs v = pSeq K n opS sub i) → V X G 3 0 0 (QM X G P 0 0) 11 [some (.ref 11), some (.int (nI k)), none] [] (σ, h.2) := by
        intro mz
        induction mz using Nat.strongRecOn with
        | _ mz ih =>
        intro k j f cs v σ hmz hk hj hf hcl hp2 hlp
        refine v_iload_n hX rfl qX10_readSum_11 ?_
        refine v_sipush hX ls_160 qX10_readSum_12 ?_
        refine v_icmp_geS hX 83 qX10_readSum_15 rfl (fun q15 => ?_) (fun q15 => ?_)
        · exact absurd q15 (nI_ge (a := k) (b := 160) (by omega) (by omega))
        · skip
          refine v_aload_n hX rfl qX10_readSum_18 ?_
          refine v_getIv hX g_X10_71 (Or.inl rfl) (hs.kd 11 rfl) (show _ = K j from hp2.2.2.1) qX10_readSum_19 ?_
          refine v_bipush hX lb_43 qX10_readSum_22 ?_
          refine v_icmp_eq hX 36 qX10_readSum_24 rfl (fun q24 => ?_) (fun q24 => ?_)
          · skip
            refine v_aload_n hX rfl qX10_readSum_36 ?_
            refine v_getIv hX g_X10_71 (Or.inl rfl) (hs.kd 11 rfl) (show _ = K j from hp2.2.2.1) qX10_readSum_37 ?_
            refine v_bipush hX lb_43 qX10_readSum_40 ?_
            refine v_icmp_ne hX 50 qX10_readSum_42 rfl (fun q42 => ?_) (fun q42 => ?_)
            · exact absurd q24 q42
            · skip
              refine v_bipush hX lb_n12 qX10_readSum_45 ?_
              refine v_goto hX 52 qX10_readSum_47 rfl ?_
              obtain ⟨cc, hcc, ho⟩ : ∃ cc : Int32, cc = -12 ∧ opS (K j) = some cc := ⟨_, rfl, by unfold opS; rw [if_pos q24]⟩
              have hjn : j < n := kLt hK q24 (by decide)
              obtain ⟨f, rfl⟩ : ∃ f2, f = f2 + 1 := ⟨f - 1, by omega⟩
              rw [← hcc]
              refine v_istore_n hX (Nat.le_of_ble_eq_true rfl) rfl (ls' := [some _, some _, some _]) rfl qX10_readSum_52 ?_
              refine v_aload_n hX rfl qX10_readSum_53 ?_
              refine v_aload_n hX rfl qX10_readSum_54 ?_
              refine v_getIv hX g_X10_74 (Or.inl rfl) (hs.kd 11 rfl) (show _ = nI j from hp2.2.1) qX10_readSum_55 ?_
              refine v_iconst hX li_1 qX10_readSum_58 ?_
              refine v_iadd hX qX10_readSum_59 ?_
              refine v_eqI (nI_1 j) ?_
              refine v_callVq hX hR k_X10_47 (hs.kd 11 rfl) (c_goTo (h := (σ, h.2)) (by exact hs) (by exact (ht.fr hp2.1)) (i := j + 1) (by omega)) rfl (by omega) rfl (Nat.le_of_ble_eq_true rfl) ⟨Nat.le_of_ble_eq_true rfl, Nat.le_of_ble_eq_true rfl⟩ qX10_readSum_60 ?_
              rintro _ _ ⟨rfl, rfl⟩
              have hp3 := hp2.go (j + 1)
              refine v_aload_n hX rfl qX10_readSum_63 ?_
              refine v_callVq hX hR k_X10_94 (hs.kd 11 rfl) (hsub _ (by exact (j + 1)) (by exact (c + cs.length)) (by exact hs) (by exact (ht.fr hp3.1)) (by exact hp3.at) (by omega) (by omega)) rfl (by omega) rfl (Nat.le_of_ble_eq_true rfl) ⟨Nat.le_of_ble_eq_true rfl, Nat.le_of_ble_eq_true rfl⟩ qX10_readSum_64 ?_
              rintro _ _ ⟨σ4, x4, rfl, rfl, hp4⟩
              rcases e3 : sub (j + 1) with g | ⟨j3, cs3, v3⟩
              · rw [e3] at hp4
                obtain ⟨rfl, hfa, hfl⟩ := hp4
                first | refine v_if_neB hX 72 qX10_readSum_67 rfl (fun q67 => ?_) (fun q67 => ?_) | refine v_if_ne hX 72 qX10_readSum_67 rfl (fun q67 => ?_) (fun q67 => ?_)
                · exact absurd rfl q67
                · skip
                  refine v_iconst hX li_0 qX10_readSum_70 ?_
                  refine v_zreturn hX (by first | exact Or.inl rfl | exact Or.inr rfl | exact bz01 _) qX10_readSum_71 (hP _ _ ?_)
                  exact ⟨σ4, 0, rfl, rfl, PoR.of (r := .inl g) ⟨rfl, hp3.1.tr hfa, hfl⟩ (hlp.symm.trans (pLoop_in ho e3))⟩
              · rw [e3] at hp4
                obtain ⟨rfl, hst4⟩ := hp4
                obtain ⟨z1, z2, z3, -⟩ := hok _ _ _ _ e3
                have hp4 := hp3.sub hst4
                first | refine v_if_neB hX 72 qX10_readSum_67 rfl (fun q67 => ?_) (fun q67 => ?_) | refine v_if_ne hX 72 qX10_readSum_67 rfl (fun q67 => ?_) (fun q67 => ?_)
                · skip
                  refine v_aload_n hX rfl qX10_readSum_72 ?_
                  refine v_iload_n hX rfl qX10_readSum_73 ?_
                  refine v_callVq hX hR k_X10_79 (hs.kd 11 rfl) (c_emit (h := (σ4, h.2)) (by exact hs) (c := c + (cs ++ cs3).length) (by rw [List.length_append]; omega) (by exact hp4.2.2.2.2.1) _) rfl (by omega) rfl (Nat.le_of_ble_eq_true rfl) ⟨Nat.le_of_ble_eq_true rfl, Nat.le_of_ble_eq_true rfl⟩ qX10_readSum_74 ?_
                  rintro _ _ ⟨rfl, rfl⟩
                  have hp5 := hp4.emit cc
                  refine v_iinc hX rfl (by first | exact ii_nI _ | exact ii_1 _) (Nat.le_of_ble_eq_true rfl) rfl (ls' := [some _, some _, some _]) rfl qX10_readSum_77 ?_
                  refine v_goto hX 11 qX10_readSum_80 rfl ?_
                  refine v_forget (ls' := [_, _, none]) ⟨Or.inr rfl, Or.inr rfl, Or.inl rfl, trivial⟩ ?_
                  exact ih _ (by omega) (k + 1) j3 f (cs ++ cs3 ++ [cc]) _ _ rfl (by omega) z2 (by omega) (by rw [List.length_append, List.length_append]; show i + (cs.length + cs3.length + 1) ≤ j3; omega) hp5 ((pLoop_go ho e3).symm.trans hlp)
                · exact absurd q67 (by decide)
          · skip
            refine v_aload_n hX rfl qX10_readSum_27 ?_
            refine v_getIv hX g_X10_71 (Or.inl rfl) (hs.kd 11 rfl) (show _ = K j from hp2.2.2.1) qX10_readSum_28 ?_
            refine v_bipush hX lb_45 qX10_readSum_31 ?_
            refine v_icmp_ne hX 83 qX10_readSum_33 rfl (fun q33 => ?_) (fun q33 => ?_)
            · have ho : opS (K j) = none := by unfold opS; rw [if_neg q24, if_neg q33]
              refine v_iconst hX li_1 qX10_readSum_83 ?_
              refine v_zreturn hX (by first | exact Or.inl rfl | exact Or.inr rfl | exact bz01 _) qX10_readSum_84 (hP _ _ ?_)
              exact ⟨σ, 1, rfl, rfl, PoR.of (r := .inr (j, cs, v)) ⟨rfl, hp2⟩ (hlp.symm.trans (pLoop_no ho))⟩
            · skip
              refine v_aload_n hX rfl qX10_readSum_36 ?_
              refine v_getIv hX g_X10_71 (Or.inl rfl) (hs.kd 11 rfl) (show _ = K j from hp2.2.2.1) qX10_readSum_37 ?_
              refine v_bipush hX lb_43 qX10_readSum_40 ?_
              refine v_icmp_ne hX 50 qX10_readSum_42 rfl (fun q42 => ?_) (fun q42 => ?_)
              · skip
                refine v_bipush hX lb_n13 qX10_readSum_50 ?_
                obtain ⟨cc, hcc, ho⟩ : ∃ cc : Int32, cc = -13 ∧ opS (K j) = some cc := ⟨_, rfl, by unfold opS; rw [if_neg q24, if_pos q33]⟩
                have hjn : j < n := kLt hK q33 (by decide)
                obtain ⟨f, rfl⟩ : ∃ f2, f = f2 + 1 := ⟨f - 1, by omega⟩
                rw [← hcc]
                refine v_istore_n hX (Nat.le_of_ble_eq_true rfl) rfl (ls' := [some _, some _, some _]) rfl qX10_readSum_52 ?_
                refine v_aload_n hX rfl qX10_readSum_53 ?_
                refine v_aload_n hX rfl qX10_readSum_54 ?_
                refine v_getIv hX g_X10_74 (Or.inl rfl) (hs.kd 11 rfl) (show _ = nI j from hp2.2.1) qX10_readSum_55 ?_
                refine v_iconst hX li_1 qX10_readSum_58 ?_
                refine v_iadd hX qX10_readSum_59 ?_
                refine v_eqI (nI_1 j) ?_
                refine v_callVq hX hR k_X10_47 (hs.kd 11 rfl) (c_goTo (h := (σ, h.2)) (by exact hs) (by exact (ht.fr hp2.1)) (i := j + 1) (by omega)) rfl (by omega) rfl (Nat.le_of_ble_eq_true rfl) ⟨Nat.le_of_ble_eq_true rfl, Nat.le_of_ble_eq_true rfl⟩ qX10_readSum_60 ?_
                rintro _ _ ⟨rfl, rfl⟩
                have hp3 := hp2.go (j + 1)
                refine v_aload_n hX rfl qX10_readSum_63 ?_
                refine v_callVq hX hR k_X10_94 (hs.kd 11 rfl) (hsub _ (by exact (j + 1)) (by exact (c + cs.length)) (by exact hs) (by exact (ht.fr hp3.1)) (by exact hp3.at) (by omega) (by omega)) rfl (by omega) rfl (Nat.le_of_ble_eq_true rfl) ⟨Nat.le_of_ble_eq_true rfl, Nat.le_of_ble_eq_true rfl⟩ qX10_readSum_64 ?_
                rintro _ _ ⟨σ4, x4, rfl, rfl, hp4⟩
                rcases e3 : sub (j + 1) with g | ⟨j3, cs3, v3⟩
                · rw [e3] at hp4
                  obtain ⟨rfl, hfa, hfl⟩ := hp4
                  first | refine v_if_neB hX 72 qX10_readSum_67 rfl (fun q67 => ?_) (fun q67 => ?_) | refine v_if_ne hX 72 qX10_readSum_67 rfl (fun q67 => ?_) (fun q67 => ?_)
                  · exact absurd rfl q67
                  · skip
                    refine v_iconst hX li_0 qX10_readSum_70 ?_
                    refine v_zreturn hX (by first | exact Or.inl rfl | exact Or.inr rfl | exact bz01 _) qX10_readSum_71 (hP _ _ ?_)
                    exact ⟨σ4, 0, rfl, rfl, PoR.of (r := .inl g) ⟨rfl, hp3.1.tr hfa, hfl⟩ (hlp.symm.trans (pLoop_in ho e3))⟩
                · rw [e3] at hp4
                  obtain ⟨rfl, hst4⟩ := hp4
                  obtain ⟨z1, z2, z3, -⟩ := hok _ _ _ _ e3
                  have hp4 := hp3.sub hst4
                  first | refine v_if_neB hX 72 qX10_readSum_67 rfl (fun q67 => ?_) (fun q67 => ?_) | refine v_if_ne hX 72 qX10_readSum_67 rfl (fun q67 => ?_) (fun q67 => ?_)
                  · skip
                    refine v_aload_n hX rfl qX10_readSum_72 ?_
                    refine v_iload_n hX rfl qX10_readSum_73 ?_
                    refine v_callVq hX hR k_X10_79 (hs.kd 11 rfl) (c_emit (h := (σ4, h.2)) (by exact hs) (c := c + (cs ++ cs3).length) (by rw [List.length_append]; omega) (by exact hp4.2.2.2.2.1) _) rfl (by omega) rfl (Nat.le_of_ble_eq_true rfl) ⟨Nat.le_of_ble_eq_true rfl, Nat.le_of_ble_eq_true rfl⟩ qX10_readSum_74 ?_
                    rintro _ _ ⟨rfl, rfl⟩
                    have hp5 := hp4.emit cc
                    refine v_iinc hX rfl (by first | exact ii_nI _ | exact ii_1 _) (Nat.le_of_ble_eq_true rfl) rfl (ls' := [some _, some _, some _]) rfl qX10_readSum_77 ?_
                    refine v_goto hX 11 qX10_readSum_80 rfl ?_
                    refine v_forget (ls' := [_, _, none]) ⟨Or.inr rfl, Or.inr rfl, Or.inl rfl, trivial⟩ ?_
                    exact ih _ (by omega) (k + 1) j3 f (cs ++ cs3 ++ [cc]) _ _ rfl (by omega) z2 (by omega) (by rw [List.length_append, List.length_append]; show i + (cs.length + cs3.length + 1) ≤ j3; omega) hp5 ((pLoop_go ho e3).symm.trans hlp)
                  · exact absurd q67 (by decide)
              · exact absurd q42 q24
      exact L11 _ 0 j1 n cs1 v1 σ1 rfl (by omega) y2 (by omega) y3 hst (pSeq_go e1).symm
    · exact absurd q4 (by decide)
theorem qX10_readAnd_0 : Dq cX10_readAnd 0 (.aload_n 0) 1 1 := ⟨by decide +kernel, rfl⟩
theorem qX10_readAnd_1 : Dq cX10_readAnd 1 (.invokevirtual 82) 3 4 := ⟨by decide +kernel, rfl⟩
theorem qX10_readAnd_4 : Dq cX10_readAnd 4 (.ifCond .ne 5) 3 7 := ⟨by decide +kernel, rfl⟩
theorem qX10_readAnd_7 : Dq cX10_readAnd 7 (.iconst 0) 1 8 := ⟨by decide +kernel, rfl⟩
theorem qX10_readAnd_8 : Dq cX10_readAnd 8 (.ireturn) 1 9 := ⟨by decide +kernel, rfl⟩
theorem qX10_readAnd_9 : Dq cX10_readAnd 9 (.iconst 0) 1 10 := ⟨by decide +kernel, rfl⟩
theorem qX10_readAnd_10 : Dq cX10_readAnd 10 (.istore_n 1) 1 11 := ⟨by decide +kernel, rfl⟩
theorem qX10_readAnd_11 : Dq cX10_readAnd 11 (.iload_n 1) 1 12 := ⟨by decide +kernel, rfl⟩
theorem qX10_readAnd_12 : Dq cX10_readAnd 12 (.sipush 160) 3 15 := ⟨by decide +kernel, rfl⟩
theorem qX10_readAnd_15 : Dq cX10_readAnd 15 (.if_icmp .ge 43) 3 18 := ⟨by decide +kernel, rfl⟩
theorem qX10_readAnd_18 : Dq cX10_readAnd 18 (.aload_n 0) 1 19 := ⟨by decide +kernel, rfl⟩
theorem qX10_readAnd_19 : Dq cX10_readAnd 19 (.getfield 71) 3 22 := ⟨by decide +kernel, rfl⟩
theorem qX10_readAnd_22 : Dq cX10_readAnd 22 (.bipush 8) 2 24 := ⟨by decide +kernel, rfl⟩
theorem qX10_readAnd_24 : Dq cX10_readAnd 24 (.if_icmp .ne 34) 3 27 := ⟨by decide +kernel, rfl⟩
theorem qX10_readAnd_27 : Dq cX10_readAnd 27 (.aload_n 0) 1 28 := ⟨by decide +kernel, rfl⟩
theorem qX10_readAnd_28 : Dq cX10_readAnd 28 (.aload_n 0) 1 29 := ⟨by decide +kernel, rfl⟩
theorem qX10_readAnd_29 : Dq cX10_readAnd 29 (.getfield 74) 3 32 := ⟨by decide +kernel, rfl⟩
theorem qX10_readAnd_32 : Dq cX10_readAnd 32 (.iconst 1) 1 33 := ⟨by decide +kernel, rfl⟩
theorem qX10_readAnd_33 : Dq cX10_readAnd 33 (.iadd) 1 34 := ⟨by decide +kernel, rfl⟩
theorem qX10_readAnd_34 : Dq cX10_readAnd 34 (.invokevirtual 47) 3 37 := ⟨by decide +kernel, rfl⟩
theorem qX10_readAnd_37 : Dq cX10_readAnd 37 (.aload_n 0) 1 38 := ⟨by decide +kernel, rfl⟩
theorem qX10_readAnd_38 : Dq cX10_readAnd 38 (.invokevirtual 82) 3 41 := ⟨by decide +kernel, rfl⟩
theorem qX10_readAnd_41 : Dq cX10_readAnd 41 (.ifCond .ne 5) 3 44 := ⟨by decide +kernel, rfl⟩
theorem qX10_readAnd_44 : Dq cX10_readAnd 44 (.iconst 0) 1 45 := ⟨by decide +kernel, rfl⟩
theorem qX10_readAnd_45 : Dq cX10_readAnd 45 (.ireturn) 1 46 := ⟨by decide +kernel, rfl⟩
theorem qX10_readAnd_46 : Dq cX10_readAnd 46 (.aload_n 0) 1 47 := ⟨by decide +kernel, rfl⟩
theorem qX10_readAnd_47 : Dq cX10_readAnd 47 (.bipush (-8)) 2 49 := ⟨by decide +kernel, rfl⟩
theorem qX10_readAnd_49 : Dq cX10_readAnd 49 (.invokevirtual 79) 3 52 := ⟨by decide +kernel, rfl⟩
theorem qX10_readAnd_52 : Dq cX10_readAnd 52 (.iinc 1 1) 3 55 := ⟨by decide +kernel, rfl⟩
theorem qX10_readAnd_55 : Dq cX10_readAnd 55 (.goto (-44)) 3 58 := ⟨by decide +kernel, rfl⟩
theorem qX10_readAnd_58 : Dq cX10_readAnd 58 (.iconst 1) 1 59 := ⟨by decide +kernel, rfl⟩
theorem qX10_readAnd_59 : Dq cX10_readAnd 59 (.ireturn) 1 60 := ⟨by decide +kernel, rfl⟩
set_option maxRecDepth 100000 in
set_option maxHeartbeats 4000000 in
theorem c_readAnd {G : Glb} {K W : Nat → Int32} {Pl : Nat → Nat} {n sz : Nat} {d o : Nat} (hd : 10 ≤ d) {sub : Nat → PR} {N : Nat} (hsub : CSub G K W Pl n sz m_X10_readNot d o sub) (hok : SubOK n sub N) (hK : ∀ i, n ≤ i → K i = 0) (h : AHp) (i c : Nat) (hs : ShC h) (ht : TkC K W Pl n sz h) (hp0 : StP K h o c h.1 i []) (hi : i ≤ n) (hci : c ≤ i) : CP G m_X10_readAnd (d + 1) 0 0 [.ref 11] h (fun r h' => ∃ σ x, r = some (.int x) ∧ h' = (σ, h.2) ∧ PoR K Pl h o c σ x (pSeq K n opA sub i)) := by
  suffices key : ∀ P : Option Value → AHp → Prop, (∀ r h', (∃ σ x, r = some (.int x) ∧ h' = (σ, h.2) ∧ PoR K Pl h o c σ x (pSeq K n opA sub i)) → P r h') → CP G m_X10_readAnd (d + 1) 0 0 [.ref 11] h P from key _ (fun _ _ z => z)
  intro P hP
  refine CP.of (by decide +kernel) (Nat.le_of_ble_eq_true rfl) fun X hX hR hnm => ?_
  show V X G 2 0 0 _ 0 [some (.ref 11), none] [] h
  have hn160 := ht.2.1
  have e0 := hp0.2.2.2.2.1
  rw [show c + ([] : List Int32).length = c from rfl] at e0
  refine v_aload_n hX rfl qX10_readAnd_0 ?_
  refine v_callVq hX hR k_X10_82 (hs.kd 11 rfl) (hsub _ (by exact i) (by exact c) (by exact hs) (by exact ht) (by exact hp0) (by omega) (by omega)) rfl (by omega) rfl (Nat.le_of_ble_eq_true rfl) ⟨Nat.le_of_ble_eq_true rfl, Nat.le_of_ble_eq_true rfl⟩ qX10_readAnd_1 ?_
  rintro _ _ ⟨σ1, x1, rfl, rfl, hp1⟩
  rcases e1 : sub i with g | ⟨j1, cs1, v1⟩
  · rw [e1] at hp1
    obtain ⟨rfl, hfa, hfl⟩ := hp1
    first | refine v_if_neB hX 9 qX10_readAnd_4 rfl (fun q4 => ?_) (fun q4 => ?_) | refine v_if_ne hX 9 qX10_readAnd_4 rfl (fun q4 => ?_) (fun q4 => ?_)
    · exact absurd rfl q4
    · skip
      refine v_iconst hX li_0 qX10_readAnd_7 ?_
      refine v_zreturn hX (by first | exact Or.inl rfl | exact Or.inr rfl | exact bz01 _) qX10_readAnd_8 (hP _ _ ?_)
      exact ⟨σ1, 0, rfl, rfl, PoR.of (r := .inl g) ⟨rfl, hfa, hfl⟩ (pSeq_in e1)⟩
  · rw [e1] at hp1
    obtain ⟨rfl, hst⟩ := hp1
    obtain ⟨y1, y2, y3, -⟩ := hok _ _ _ _ e1
    first | refine v_if_neB hX 9 qX10_readAnd_4 rfl (fun q4 => ?_) (fun q4 => ?_) | refine v_if_ne hX 9 qX10_readAnd_4 rfl (fun q4 => ?_) (fun q4 => ?_)
    · skip
      refine v_iconst hX li_0 qX10_readAnd_9 ?_
      refine v_istore_n hX (Nat.le_of_ble_eq_true rfl) rfl (ls' := [some _, some _]) rfl qX10_readAnd_10 ?_
      have L11 : ∀ (mz : Nat) (k j f : Nat) (cs : List Int32) (v : (Nat → Int32) → Int32) (σ : Nat → Nat → Int32), n - j = mz → (i + k < j) → (j ≤ n) → (n ≤ j + f) → (i + cs.length ≤ j) → (StP K h o c σ j cs) → (pLoop K opA sub f j cs v = pSeq K n opA sub i) → V X G 2 0 0 (QM X G P 0 0) 11 [some (.ref 11), some (.int (nI k))] [] (σ, h.2) := by
        intro mz
        induction mz using Nat.strongRecOn with
        | _ mz ih =>
        intro k j f cs v σ hmz hk hj hf hcl hp2 hlp
        refine v_iload_n hX rfl qX10_readAnd_11 ?_
        refine v_sipush hX ls_160 qX10_readAnd_12 ?_
        refine v_icmp_geS hX 58 qX10_readAnd_15 rfl (fun q15 => ?_) (fun q15 => ?_)
        · exact absurd q15 (nI_ge (a := k) (b := 160) (by omega) (by omega))
        · skip
          refine v_aload_n hX rfl qX10_readAnd_18 ?_
          refine v_getIv hX g_X10_71 (Or.inl rfl) (hs.kd 11 rfl) (show _ = K j from hp2.2.2.1) qX10_readAnd_19 ?_
          refine v_bipush hX lb_8 qX10_readAnd_22 ?_
          refine v_icmp_ne hX 58 qX10_readAnd_24 rfl (fun q24 => ?_) (fun q24 => ?_)
          · have ho : opA (K j) = none := if_neg q24
            refine v_iconst hX li_1 qX10_readAnd_58 ?_
            refine v_zreturn hX (by first | exact Or.inl rfl | exact Or.inr rfl | exact bz01 _) qX10_readAnd_59 (hP _ _ ?_)
            exact ⟨σ, 1, rfl, rfl, PoR.of (r := .inr (j, cs, v)) ⟨rfl, hp2⟩ (hlp.symm.trans (pLoop_no ho))⟩
          · obtain ⟨cc, hcc, ho⟩ : ∃ cc : Int32, cc = -8 ∧ opA (K j) = some cc := ⟨_, rfl, if_pos q24⟩
            have hjn : j < n := kLt hK q24 (by decide)
            obtain ⟨f, rfl⟩ : ∃ f2, f = f2 + 1 := ⟨f - 1, by omega⟩
            refine v_aload_n hX rfl qX10_readAnd_27 ?_
            refine v_aload_n hX rfl qX10_readAnd_28 ?_
            refine v_getIv hX g_X10_74 (Or.inl rfl) (hs.kd 11 rfl) (show _ = nI j from hp2.2.1) qX10_readAnd_29 ?_
            refine v_iconst hX li_1 qX10_readAnd_32 ?_
            refine v_iadd hX qX10_readAnd_33 ?_
            refine v_eqI (nI_1 j) ?_
            refine v_callVq hX hR k_X10_47 (hs.kd 11 rfl) (c_goTo (h := (σ, h.2)) (by exact hs) (by exact (ht.fr hp2.1)) (i := j + 1) (by omega)) rfl (by omega) rfl (Nat.le_of_ble_eq_true rfl) ⟨Nat.le_of_ble_eq_true rfl, Nat.le_of_ble_eq_true rfl⟩ qX10_readAnd_34 ?_
            rintro _ _ ⟨rfl, rfl⟩
            have hp3 := hp2.go (j + 1)
            refine v_aload_n hX rfl qX10_readAnd_37 ?_
            refine v_callVq hX hR k_X10_82 (hs.kd 11 rfl) (hsub _ (by exact (j + 1)) (by exact (c + cs.length)) (by exact hs) (by exact (ht.fr hp3.1)) (by exact hp3.at) (by omega) (by omega)) rfl (by omega) rfl (Nat.le_of_ble_eq_true rfl) ⟨Nat.le_of_ble_eq_true rfl, Nat.le_of_ble_eq_true rfl⟩ qX10_readAnd_38 ?_
            rintro _ _ ⟨σ4, x4, rfl, rfl, hp4⟩
            rcases e3 : sub (j + 1) with g | ⟨j3, cs3, v3⟩
            · rw [e3] at hp4
              obtain ⟨rfl, hfa, hfl⟩ := hp4
              first | refine v_if_neB hX 46 qX10_readAnd_41 rfl (fun q41 => ?_) (fun q41 => ?_) | refine v_if_ne hX 46 qX10_readAnd_41 rfl (fun q41 => ?_) (fun q41 => ?_)
              · exact absurd rfl q41
              · skip
                refine v_iconst hX li_0 qX10_readAnd_44 ?_
                refine v_zreturn hX (by first | exact Or.inl rfl | exact Or.inr rfl | exact bz01 _) qX10_readAnd_45 (hP _ _ ?_)
                exact ⟨σ4, 0, rfl, rfl, PoR.of (r := .inl g) ⟨rfl, hp3.1.tr hfa, hfl⟩ (hlp.symm.trans (pLoop_in ho e3))⟩
            · rw [e3] at hp4
              obtain ⟨rfl, hst4⟩ := hp4
              obtain ⟨z1, z2, z3, -⟩ := hok _ _ _ _ e3
              have hp4 := hp3.sub hst4
              first | refine v_if_neB hX 46 qX10_readAnd_41 rfl (fun q41 => ?_) (fun q41 => ?_) | refine v_if_ne hX 46 qX10_readAnd_41 rfl (fun q41 => ?_) (fun q41 => ?_)
              · skip
                refine v_aload_n hX rfl qX10_readAnd_46 ?_
                refine v_bipush hX lb_n8 qX10_readAnd_47 ?_
                refine v_callVq hX hR k_X10_79 (hs.kd 11 rfl) (c_emit (h := (σ4, h.2)) (by exact hs) (c := c + (cs ++ cs3).length) (by rw [List.length_append]; omega) (by exact hp4.2.2.2.2.1) _) rfl (by omega) rfl (Nat.le_of_ble_eq_true rfl) ⟨Nat.le_of_ble_eq_true rfl, Nat.le_of_ble_eq_true rfl⟩ qX10_readAnd_49 ?_
                rintro _ _ ⟨rfl, rfl⟩
                rw [← hcc]
                have hp5 := hp4.emit cc
                refine v_iinc hX rfl (by first | exact ii_nI _ | exact ii_1 _) (Nat.le_of_ble_eq_true rfl) rfl (ls' := [some _, some _]) rfl qX10_readAnd_52 ?_
                refine v_goto hX 11 qX10_readAnd_55 rfl ?_
                exact ih _ (by omega) (k + 1) j3 f (cs ++ cs3 ++ [cc]) _ _ rfl (by omega) z2 (by omega) (by rw [List.length_append, List.length_append]; show i + (cs.length + cs3.length + 1) ≤ j3; omega) hp5 ((pLoop_go ho e3).symm.trans hlp)
              · exact absurd q41 (by decide)
      exact L11 _ 0 j1 n cs1 v1 σ1 rfl (by omega) y2 (by omega) y3 hst (pSeq_go e1).symm
    · exact absurd q4 (by decide)
theorem qX10_readOr_0 : Dq cX10_readOr 0 (.aload_n 0) 1 1 := ⟨by decide +kernel, rfl⟩
theorem qX10_readOr_1 : Dq cX10_readOr 1 (.invokevirtual 68) 3 4 := ⟨by decide +kernel, rfl⟩
theorem qX10_readOr_4 : Dq cX10_readOr 4 (.ifCond .ne 5) 3 7 := ⟨by decide +kernel, rfl⟩
theorem qX10_readOr_7 : Dq cX10_readOr 7 (.iconst 0) 1 8 := ⟨by decide +kernel, rfl⟩
theorem qX10_readOr_8 : Dq cX10_readOr 8 (.ireturn) 1 9 := ⟨by decide +kernel, rfl⟩
theorem qX10_readOr_9 : Dq cX10_readOr 9 (.iconst 0) 1 10 := ⟨by decide +kernel, rfl⟩
theorem qX10_readOr_10 : Dq cX10_readOr 10 (.istore_n 1) 1 11 := ⟨by decide +kernel, rfl⟩
theorem qX10_readOr_11 : Dq cX10_readOr 11 (.iload_n 1) 1 12 := ⟨by decide +kernel, rfl⟩
theorem qX10_readOr_12 : Dq cX10_readOr 12 (.sipush 160) 3 15 := ⟨by decide +kernel, rfl⟩
theorem qX10_readOr_15 : Dq cX10_readOr 15 (.if_icmp .ge 43) 3 18 := ⟨by decide +kernel, rfl⟩
theorem qX10_readOr_18 : Dq cX10_readOr 18 (.aload_n 0) 1 19 := ⟨by decide +kernel, rfl⟩
theorem qX10_readOr_19 : Dq cX10_readOr 19 (.getfield 71) 3 22 := ⟨by decide +kernel, rfl⟩
theorem qX10_readOr_22 : Dq cX10_readOr 22 (.bipush 7) 2 24 := ⟨by decide +kernel, rfl⟩
theorem qX10_readOr_24 : Dq cX10_readOr 24 (.if_icmp .ne 34) 3 27 := ⟨by decide +kernel, rfl⟩
theorem qX10_readOr_27 : Dq cX10_readOr 27 (.aload_n 0) 1 28 := ⟨by decide +kernel, rfl⟩
theorem qX10_readOr_28 : Dq cX10_readOr 28 (.aload_n 0) 1 29 := ⟨by decide +kernel, rfl⟩
theorem qX10_readOr_29 : Dq cX10_readOr 29 (.getfield 74) 3 32 := ⟨by decide +kernel, rfl⟩
theorem qX10_readOr_32 : Dq cX10_readOr 32 (.iconst 1) 1 33 := ⟨by decide +kernel, rfl⟩
theorem qX10_readOr_33 : Dq cX10_readOr 33 (.iadd) 1 34 := ⟨by decide +kernel, rfl⟩
theorem qX10_readOr_34 : Dq cX10_readOr 34 (.invokevirtual 47) 3 37 := ⟨by decide +kernel, rfl⟩
theorem qX10_readOr_37 : Dq cX10_readOr 37 (.aload_n 0) 1 38 := ⟨by decide +kernel, rfl⟩
theorem qX10_readOr_38 : Dq cX10_readOr 38 (.invokevirtual 68) 3 41 := ⟨by decide +kernel, rfl⟩
theorem qX10_readOr_41 : Dq cX10_readOr 41 (.ifCond .ne 5) 3 44 := ⟨by decide +kernel, rfl⟩
theorem qX10_readOr_44 : Dq cX10_readOr 44 (.iconst 0) 1 45 := ⟨by decide +kernel, rfl⟩
theorem qX10_readOr_45 : Dq cX10_readOr 45 (.ireturn) 1 46 := ⟨by decide +kernel, rfl⟩
theorem qX10_readOr_46 : Dq cX10_readOr 46 (.aload_n 0) 1 47 := ⟨by decide +kernel, rfl⟩
theorem qX10_readOr_47 : Dq cX10_readOr 47 (.bipush (-7)) 2 49 := ⟨by decide +kernel, rfl⟩
theorem qX10_readOr_49 : Dq cX10_readOr 49 (.invokevirtual 79) 3 52 := ⟨by decide +kernel, rfl⟩
theorem qX10_readOr_52 : Dq cX10_readOr 52 (.iinc 1 1) 3 55 := ⟨by decide +kernel, rfl⟩
theorem qX10_readOr_55 : Dq cX10_readOr 55 (.goto (-44)) 3 58 := ⟨by decide +kernel, rfl⟩
theorem qX10_readOr_58 : Dq cX10_readOr 58 (.iconst 1) 1 59 := ⟨by decide +kernel, rfl⟩
theorem qX10_readOr_59 : Dq cX10_readOr 59 (.ireturn) 1 60 := ⟨by decide +kernel, rfl⟩
set_option maxRecDepth 100000 in
set_option maxHeartbeats 4000000 in
theorem c_readOr {G : Glb} {K W : Nat → Int32} {Pl : Nat → Nat} {n sz : Nat} {d o : Nat} (hd : 10 ≤ d) {sub : Nat → PR} {N : Nat} (hsub : CSub G K W Pl n sz m_X10_readAnd d o sub) (hok : SubOK n sub N) (hK : ∀ i, n ≤ i → K i = 0) (h : AHp) (i c : Nat) (hs : ShC h) (ht : TkC K W Pl n sz h) (hp0 : StP K h o c h.1 i []) (hi : i ≤ n) (hci : c ≤ i) : CP G m_X10_readOr (d + 1) 0 0 [.ref 11] h (fun r h' => ∃ σ x, r = some (.int x) ∧ h' = (σ, h.2) ∧ PoR K Pl h o c σ x (pSeq K n opO sub i)) := by
  suffices key : ∀ P : Option Value → AHp → Prop, (∀ r h', (∃ σ x, r = some (.int x) ∧ h' = (σ, h.2) ∧ PoR K Pl h o c σ x (pSeq K n opO sub i)) → P r h') → CP G m_X10_readOr (d + 1) 0 0 [.ref 11] h P from key _ (fun _ _ z => z)
  intro P hP
  refine CP.of (by decide +kernel) (Nat.le_of_ble_eq_true rfl) fun X hX hR hnm => ?_
  show V X G 2 0 0 _ 0 [some (.ref 11), none] [] h
  have hn160 := ht.2.1
  have e0 := hp0.2.2.2.2.1
  rw [show c + ([] : List Int32).length = c from rfl] at e0
  refine v_aload_n hX rfl qX10_readOr_0 ?_
  refine v_callVq hX hR k_X10_68 (hs.kd 11 rfl) (hsub _ (by exact i) (by exact c) (by exact hs) (by exact ht) (by exact hp0) (by omega) (by omega)) rfl (by omega) rfl (Nat.le_of_ble_eq_true rfl) ⟨Nat.le_of_ble_eq_true rfl, Nat.le_of_ble_eq_true rfl⟩ qX10_readOr_1 ?_
  rintro _ _ ⟨σ1, x1, rfl, rfl, hp1⟩
  rcases e1 : sub i with g | ⟨j1, cs1, v1⟩
  · rw [e1] at hp1
    obtain ⟨rfl, hfa, hfl⟩ := hp1
    first | refine v_if_neB hX 9 qX10_readOr_4 rfl (fun q4 => ?_) (fun q4 => ?_) | refine v_if_ne hX 9 qX10_readOr_4 rfl (fun q4 => ?_) (fun q4 => ?_)
    · exact absurd rfl q4
    · skip
      refine v_iconst hX li_0 qX10_readOr_7 ?_
      refine v_zreturn hX (by first | exact Or.inl rfl | exact Or.inr rfl | exact bz01 _) qX10_readOr_8 (hP _ _ ?_)
      exact ⟨σ1, 0, rfl, rfl, PoR.of (r := .inl g) ⟨rfl, hfa, hfl⟩ (pSeq_in e1)⟩
  · rw [e1] at hp1
    obtain ⟨rfl, hst⟩ := hp1
    obtain ⟨y1, y2, y3, -⟩ := hok _ _ _ _ e1
    first | refine v_if_neB hX 9 qX10_readOr_4 rfl (fun q4 => ?_) (fun q4 => ?_) | refine v_if_ne hX 9 qX10_readOr_4 rfl (fun q4 => ?_) (fun q4 => ?_)
    · skip
      refine v_iconst hX li_0 qX10_readOr_9 ?_
      refine v_istore_n hX (Nat.le_of_ble_eq_true rfl) rfl (ls' := [some _, some _]) rfl qX10_readOr_10 ?_
      have L11 : ∀ (mz : Nat) (k j f : Nat) (cs : List Int32) (v : (Nat → Int32) → Int32) (σ : Nat → Nat → Int32), n - j = mz → (i + k < j) → (j ≤ n) → (n ≤ j + f) → (i + cs.length ≤ j) → (StP K h o c σ j cs) → (pLoop K opO sub f j cs v = pSeq K n opO sub i) → V X G 2 0 0 (QM X G P 0 0) 11 [some (.ref 11), some (.int (nI k))] [] (σ, h.2) := by
        intro mz
        induction mz using Nat.strongRecOn with
        | _ mz ih =>
        intro k j f cs v σ hmz hk hj hf hcl hp2 hlp
        refine v_iload_n hX rfl qX10_readOr_11 ?_
        refine v_sipush hX ls_160 qX10_readOr_12 ?_
        refine v_icmp_geS hX 58 qX10_readOr_15 rfl (fun q15 => ?_) (fun q15 => ?_)
        · exact absurd q15 (nI_ge (a := k) (b := 160) (by omega) (by omega))
        · skip
          refine v_aload_n hX rfl qX10_readOr_18 ?_
          refine v_getIv hX g_X10_71 (Or.inl rfl) (hs.kd 11 rfl) (show _ = K j from hp2.2.2.1) qX10_readOr_19 ?_
          refine v_bipush hX lb_7 qX10_readOr_22 ?_
          refine v_icmp_ne hX 58 qX10_readOr_24 rfl (fun q24 => ?_) (fun q24 => ?_)
          · have ho : opO (K j) = none := if_neg q24
            refine v_iconst hX li_1 qX10_readOr_58 ?_
            refine v_zreturn hX (by first | exact Or.inl rfl | exact Or.inr rfl | exact bz01 _) qX10_readOr_59 (hP _ _ ?_)
            exact ⟨σ, 1, rfl, rfl, PoR.of (r := .inr (j, cs, v)) ⟨rfl, hp2⟩ (hlp.symm.trans (pLoop_no ho))⟩
          · obtain ⟨cc, hcc, ho⟩ : ∃ cc : Int32, cc = -7 ∧ opO (K j) = some cc := ⟨_, rfl, if_pos q24⟩
            have hjn : j < n := kLt hK q24 (by decide)
            obtain ⟨f, rfl⟩ : ∃ f2, f = f2 + 1 := ⟨f - 1, by omega⟩
            refine v_aload_n hX rfl qX10_readOr_27 ?_
            refine v_aload_n hX rfl qX10_readOr_28 ?_
            refine v_getIv hX g_X10_74 (Or.inl rfl) (hs.kd 11 rfl) (show _ = nI j from hp2.2.1) qX10_readOr_29 ?_
            refine v_iconst hX li_1 qX10_readOr_32 ?_
            refine v_iadd hX qX10_readOr_33 ?_
            refine v_eqI (nI_1 j) ?_
            refine v_callVq hX hR k_X10_47 (hs.kd 11 rfl) (c_goTo (h := (σ, h.2)) (by exact hs) (by exact (ht.fr hp2.1)) (i := j + 1) (by omega)) rfl (by omega) rfl (Nat.le_of_ble_eq_true rfl) ⟨Nat.le_of_ble_eq_true rfl, Nat.le_of_ble_eq_true rfl⟩ qX10_readOr_34 ?_
            rintro _ _ ⟨rfl, rfl⟩
            have hp3 := hp2.go (j + 1)
            refine v_aload_n hX rfl qX10_readOr_37 ?_
            refine v_callVq hX hR k_X10_68 (hs.kd 11 rfl) (hsub _ (by exact (j + 1)) (by exact (c + cs.length)) (by exact hs) (by exact (ht.fr hp3.1)) (by exact hp3.at) (by omega) (by omega)) rfl (by omega) rfl (Nat.le_of_ble_eq_true rfl) ⟨Nat.le_of_ble_eq_true rfl, Nat.le_of_ble_eq_true rfl⟩ qX10_readOr_38 ?_
            rintro _ _ ⟨σ4, x4, rfl, rfl, hp4⟩
            rcases e3 : sub (j + 1) with g | ⟨j3, cs3, v3⟩
            · rw [e3] at hp4
              obtain ⟨rfl, hfa, hfl⟩ := hp4
              first | refine v_if_neB hX 46 qX10_readOr_41 rfl (fun q41 => ?_) (fun q41 => ?_) | refine v_if_ne hX 46 qX10_readOr_41 rfl (fun q41 => ?_) (fun q41 => ?_)
              · exact absurd rfl q41
              · skip
                refine v_iconst hX li_0 qX10_readOr_44 ?_
                refine v_zreturn hX (by first | exact Or.inl rfl | exact Or.inr rfl | exact bz01 _) qX10_readOr_45 (hP _ _ ?_)
                exact ⟨σ4, 0, rfl, rfl, PoR.of (r := .inl g) ⟨rfl, hp3.1.tr hfa, hfl⟩ (hlp.symm.trans (pLoop_in ho e3))⟩
            · rw [e3] at hp4
              obtain ⟨rfl, hst4⟩ := hp4
              obtain ⟨z1, z2, z3, -⟩ := hok _ _ _ _ e3
              have hp4 := hp3.sub hst4
              first | refine v_if_neB hX 46 qX10_readOr_41 rfl (fun q41 => ?_) (fun q41 => ?_) | refine v_if_ne hX 46 qX10_readOr_41 rfl (fun q41 => ?_) (fun q41 => ?_)
              · skip
                refine v_aload_n hX rfl qX10_readOr_46 ?_
                refine v_bipush hX lb_n7 qX10_readOr_47 ?_
                refine v_callVq hX hR k_X10_79 (hs.kd 11 rfl) (c_emit (h := (σ4, h.2)) (by exact hs) (c := c + (cs ++ cs3).length) (by rw [List.length_append]; omega) (by exact hp4.2.2.2.2.1) _) rfl (by omega) rfl (Nat.le_of_ble_eq_true rfl) ⟨Nat.le_of_ble_eq_true rfl, Nat.le_of_ble_eq_true rfl⟩ qX10_readOr_49 ?_
                rintro _ _ ⟨rfl, rfl⟩
                rw [← hcc]
                have hp5 := hp4.emit cc
                refine v_iinc hX rfl (by first | exact ii_nI _ | exact ii_1 _) (Nat.le_of_ble_eq_true rfl) rfl (ls' := [some _, some _]) rfl qX10_readOr_52 ?_
                refine v_goto hX 11 qX10_readOr_55 rfl ?_
                exact ih _ (by omega) (k + 1) j3 f (cs ++ cs3 ++ [cc]) _ _ rfl (by omega) z2 (by omega) (by rw [List.length_append, List.length_append]; show i + (cs.length + cs3.length + 1) ≤ j3; omega) hp5 ((pLoop_go ho e3).symm.trans hlp)
              · exact absurd q41 (by decide)
      exact L11 _ 0 j1 n cs1 v1 σ1 rfl (by omega) y2 (by omega) y3 hst (pSeq_go e1).symm
    · exact absurd q4 (by decide)
