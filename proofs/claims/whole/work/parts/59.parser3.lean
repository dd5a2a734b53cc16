/-! the readers of the class: comparison, not, one; all levels; parts, the text -/
theorem qX10_readComparison_0 : Dq cX10_readComparison 0 (.aload_n 0) 1 1 := ⟨by decide +kernel, rfl⟩
theorem qX10_readComparison_1 : Dq cX10_readComparison 1 (.invokevirtual 91) 3 4 := ⟨by decide +kernel, rfl⟩
theorem qX10_readComparison_4 : Dq cX10_readComparison 4 (.ifCond .ne 5) 3 7 := ⟨by decide +kernel, rfl⟩
theorem qX10_readComparison_7 : Dq cX10_readComparison 7 (.iconst 0) 1 8 := ⟨by decide +kernel, rfl⟩
theorem qX10_readComparison_8 : Dq cX10_readComparison 8 (.ireturn) 1 9 := ⟨by decide +kernel, rfl⟩
theorem qX10_readComparison_9 : Dq cX10_readComparison 9 (.aload_n 0) 1 10 := ⟨by decide +kernel, rfl⟩
theorem qX10_readComparison_10 : Dq cX10_readComparison 10 (.getfield 71) 3 13 := ⟨by decide +kernel, rfl⟩
theorem qX10_readComparison_13 : Dq cX10_readComparison 13 (.bipush 60) 2 15 := ⟨by decide +kernel, rfl⟩
theorem qX10_readComparison_15 : Dq cX10_readComparison 15 (.if_icmp .eq 14) 3 18 := ⟨by decide +kernel, rfl⟩
theorem qX10_readComparison_18 : Dq cX10_readComparison 18 (.aload_n 0) 1 19 := ⟨by decide +kernel, rfl⟩
theorem qX10_readComparison_19 : Dq cX10_readComparison 19 (.getfield 71) 3 22 := ⟨by decide +kernel, rfl⟩
theorem qX10_readComparison_22 : Dq cX10_readComparison 22 (.bipush 61) 2 24 := ⟨by decide +kernel, rfl⟩
theorem qX10_readComparison_24 : Dq cX10_readComparison 24 (.if_icmp .eq 5) 3 27 := ⟨by decide +kernel, rfl⟩
theorem qX10_readComparison_27 : Dq cX10_readComparison 27 (.iconst 1) 1 28 := ⟨by decide +kernel, rfl⟩
theorem qX10_readComparison_28 : Dq cX10_readComparison 28 (.ireturn) 1 29 := ⟨by decide +kernel, rfl⟩
theorem qX10_readComparison_29 : Dq cX10_readComparison 29 (.aload_n 0) 1 30 := ⟨by decide +kernel, rfl⟩
theorem qX10_readComparison_30 : Dq cX10_readComparison 30 (.getfield 71) 3 33 := ⟨by decide +kernel, rfl⟩
theorem qX10_readComparison_33 : Dq cX10_readComparison 33 (.bipush 60) 2 35 := ⟨by decide +kernel, rfl⟩
theorem qX10_readComparison_35 : Dq cX10_readComparison 35 (.if_icmp .ne 8) 3 38 := ⟨by decide +kernel, rfl⟩
theorem qX10_readComparison_38 : Dq cX10_readComparison 38 (.bipush (-10)) 2 40 := ⟨by decide +kernel, rfl⟩
theorem qX10_readComparison_40 : Dq cX10_readComparison 40 (.goto 5) 3 43 := ⟨by decide +kernel, rfl⟩
theorem qX10_readComparison_43 : Dq cX10_readComparison 43 (.bipush (-11)) 2 45 := ⟨by decide +kernel, rfl⟩
theorem qX10_readComparison_45 : Dq cX10_readComparison 45 (.istore_n 1) 1 46 := ⟨by decide +kernel, rfl⟩
theorem qX10_readComparison_46 : Dq cX10_readComparison 46 (.aload_n 0) 1 47 := ⟨by decide +kernel, rfl⟩
theorem qX10_readComparison_47 : Dq cX10_readComparison 47 (.aload_n 0) 1 48 := ⟨by decide +kernel, rfl⟩
theorem qX10_readComparison_48 : Dq cX10_readComparison 48 (.getfield 74) 3 51 := ⟨by decide +kernel, rfl⟩
theorem qX10_readComparison_51 : Dq cX10_readComparison 51 (.iconst 1) 1 52 := ⟨by decide +kernel, rfl⟩
theorem qX10_readComparison_52 : Dq cX10_readComparison 52 (.iadd) 1 53 := ⟨by decide +kernel, rfl⟩
theorem qX10_readComparison_53 : Dq cX10_readComparison 53 (.invokevirtual 47) 3 56 := ⟨by decide +kernel, rfl⟩
theorem qX10_readComparison_56 : Dq cX10_readComparison 56 (.aload_n 0) 1 57 := ⟨by decide +kernel, rfl⟩
theorem qX10_readComparison_57 : Dq cX10_readComparison 57 (.invokevirtual 91) 3 60 := ⟨by decide +kernel, rfl⟩
theorem qX10_readComparison_60 : Dq cX10_readComparison 60 (.ifCond .ne 5) 3 63 := ⟨by decide +kernel, rfl⟩
theorem qX10_readComparison_63 : Dq cX10_readComparison 63 (.iconst 0) 1 64 := ⟨by decide +kernel, rfl⟩
theorem qX10_readComparison_64 : Dq cX10_readComparison 64 (.ireturn) 1 65 := ⟨by decide +kernel, rfl⟩
theorem qX10_readComparison_65 : Dq cX10_readComparison 65 (.aload_n 0) 1 66 := ⟨by decide +kernel, rfl⟩
theorem qX10_readComparison_66 : Dq cX10_readComparison 66 (.iload_n 1) 1 67 := ⟨by decide +kernel, rfl⟩
theorem qX10_readComparison_67 : Dq cX10_readComparison 67 (.invokevirtual 79) 3 70 := ⟨by decide +kernel, rfl⟩
theorem qX10_readComparison_70 : Dq cX10_readComparison 70 (.iconst 1) 1 71 := ⟨by decide +kernel, rfl⟩
theorem qX10_readComparison_71 : Dq cX10_readComparison 71 (.ireturn) 1 72 := ⟨by decide +kernel, rfl⟩
set_option maxRecDepth 100000 in
set_option maxHeartbeats 4000000 in
theorem c_readComparison {G : Glb} {K W : Nat → Int32} {Pl : Nat → Nat} {n sz : Nat} {d o : Nat} (hd : 10 ≤ d) {sub : Nat → PR} {N : Nat} (hsub : CSub G K W Pl n sz m_X10_readSum d o sub) (hok : SubOK n sub N) (hK : ∀ i, n ≤ i → K i = 0) (h : AHp) (i c : Nat) (hs : ShC h) (ht : TkC K W Pl n sz h) (hp0 : StP K h o c h.1 i []) (hi : i ≤ n) (hci : c ≤ i) : CP G m_X10_readComparison (d + 1) 0 0 [.ref 11] h (fun r h' => ∃ σ x, r = some (.int x) ∧ h' = (σ, h.2) ∧ PoR K Pl h o c σ x (pCmp K sub i)) := by
  suffices key : ∀ P : Option Value → AHp → Prop, (∀ r h', (∃ σ x, r = some (.int x) ∧ h' = (σ, h.2) ∧ PoR K Pl h o c σ x (pCmp K sub i)) → P r h') → CP G m_X10_readComparison (d + 1) 0 0 [.ref 11] h P from key _ (fun _ _ z => z)
  intro P hP
  refine CP.of (by decide +kernel) (Nat.le_of_ble_eq_true rfl) fun X hX hR hnm => ?_
  show V X G 2 0 0 _ 0 [some (.ref 11), none] [] h
  have hn160 := ht.2.1
  have e0 := hp0.2.2.2.2.1
  rw [show c + ([] : List Int32).length = c from rfl] at e0
  refine v_aload_n hX rfl qX10_readComparison_0 ?_
  refine v_callVq hX hR k_X10_91 (hs.kd 11 rfl) (hsub _ (by exact i) (by exact c) (by exact hs) (by exact ht) (by exact hp0) (by omega) (by omega)) rfl (by omega) rfl (Nat.le_of_ble_eq_true rfl) ⟨Nat.le_of_ble_eq_true rfl, Nat.le_of_ble_eq_true rfl⟩ qX10_readComparison_1 ?_
  rintro _ _ ⟨σ1, x1, rfl, rfl, hp1⟩
  rcases e1 : sub i with g | ⟨j, cs, v⟩
  · rw [e1] at hp1
    obtain ⟨rfl, hfa, hfl⟩ := hp1
    first | refine v_if_neB hX 9 qX10_readComparison_4 rfl (fun q4 => ?_) (fun q4 => ?_) | refine v_if_ne hX 9 qX10_readComparison_4 rfl (fun q4 => ?_) (fun q4 => ?_)
    · exact absurd rfl q4
    · skip
      refine v_iconst hX li_0 qX10_readComparison_7 ?_
      refine v_zreturn hX (by first | exact Or.inl rfl | exact Or.inr rfl | exact bz01 _) qX10_readComparison_8 (hP _ _ ?_)
      exact ⟨σ1, 0, rfl, rfl, PoR.of (r := .inl g) ⟨rfl, hfa, hfl⟩ (by unfold pCmp; rw [e1])⟩
  · rw [e1] at hp1
    obtain ⟨rfl, hp2⟩ := hp1
    obtain ⟨y1, y2, y3, -⟩ := hok _ _ _ _ e1
    first | refine v_if_neB hX 9 qX10_readComparison_4 rfl (fun q4 => ?_) (fun q4 => ?_) | refine v_if_ne hX 9 qX10_readComparison_4 rfl (fun q4 => ?_) (fun q4 => ?_)
    · skip
      refine v_aload_n hX rfl qX10_readComparison_9 ?_
      refine v_getIv hX g_X10_71 (Or.inl rfl) (hs.kd 11 rfl) (show _ = K j from hp2.2.2.1) qX10_readComparison_10 ?_
      refine v_bipush hX lb_60 qX10_readComparison_13 ?_
      refine v_icmp_eq hX 29 qX10_readComparison_15 rfl (fun q15 => ?_) (fun q15 => ?_)
      · skip
        refine v_aload_n hX rfl qX10_readComparison_29 ?_
        refine v_getIv hX g_X10_71 (Or.inl rfl) (hs.kd 11 rfl) (show _ = K j from hp2.2.2.1) qX10_readComparison_30 ?_
        refine v_bipush hX lb_60 qX10_readComparison_33 ?_
        refine v_icmp_ne hX 43 qX10_readComparison_35 rfl (fun q35 => ?_) (fun q35 => ?_)
        · exact absurd q15 q35
        · skip
          refine v_bipush hX lb_n10 qX10_readComparison_38 ?_
          refine v_goto hX 45 qX10_readComparison_40 rfl ?_
          obtain ⟨cc, hcc, ho⟩ : ∃ cc : Int32, cc = -10 ∧ pCmp K sub i = biP cc cs v (sub (j + 1)) := ⟨_, rfl, by unfold pCmp; rw [e1]; show (if K j = 60 then _ else if K j = 61 then _ else _) = _; rw [if_pos q15]⟩
          have hjn : j < n := kLt hK q15 (by decide)
          rw [← hcc]
          refine v_istore_n hX (Nat.le_of_ble_eq_true rfl) rfl (ls' := [some _, some _]) rfl qX10_readComparison_45 ?_
          refine v_aload_n hX rfl qX10_readComparison_46 ?_
          refine v_aload_n hX rfl qX10_readComparison_47 ?_
          refine v_getIv hX g_X10_74 (Or.inl rfl) (hs.kd 11 rfl) (show _ = nI j from hp2.2.1) qX10_readComparison_48 ?_
          refine v_iconst hX li_1 qX10_readComparison_51 ?_
          refine v_iadd hX qX10_readComparison_52 ?_
          refine v_eqI (nI_1 j) ?_
          refine v_callVq hX hR k_X10_47 (hs.kd 11 rfl) (c_goTo (h := (σ1, h.2)) (by exact hs) (by exact (ht.fr hp2.1)) (i := j + 1) (by omega)) rfl (by omega) rfl (Nat.le_of_ble_eq_true rfl) ⟨Nat.le_of_ble_eq_true rfl, Nat.le_of_ble_eq_true rfl⟩ qX10_readComparison_53 ?_
          rintro _ _ ⟨rfl, rfl⟩
          have hp3 := hp2.go (j + 1)
          refine v_aload_n hX rfl qX10_readComparison_56 ?_
          refine v_callVq hX hR k_X10_91 (hs.kd 11 rfl) (hsub _ (by exact (j + 1)) (by exact (c + cs.length)) (by exact hs) (by exact (ht.fr hp3.1)) (by exact hp3.at) (by omega) (by omega)) rfl (by omega) rfl (Nat.le_of_ble_eq_true rfl) ⟨Nat.le_of_ble_eq_true rfl, Nat.le_of_ble_eq_true rfl⟩ qX10_readComparison_57 ?_
          rintro _ _ ⟨σ4, x4, rfl, rfl, hp4⟩
          rcases e3 : sub (j + 1) with g | ⟨j3, cs3, v3⟩
          · rw [e3] at hp4
            obtain ⟨rfl, hfa, hfl⟩ := hp4
            first | refine v_if_neB hX 65 qX10_readComparison_60 rfl (fun q60 => ?_) (fun q60 => ?_) | refine v_if_ne hX 65 qX10_readComparison_60 rfl (fun q60 => ?_) (fun q60 => ?_)
            · exact absurd rfl q60
            · skip
              refine v_iconst hX li_0 qX10_readComparison_63 ?_
              refine v_zreturn hX (by first | exact Or.inl rfl | exact Or.inr rfl | exact bz01 _) qX10_readComparison_64 (hP _ _ ?_)
              exact ⟨σ4, 0, rfl, rfl, PoR.of (r := .inl g) ⟨rfl, hp3.1.tr hfa, hfl⟩ (by rw [ho, e3]; rfl)⟩
          · rw [e3] at hp4
            obtain ⟨rfl, hst4⟩ := hp4
            obtain ⟨z1, z2, z3, -⟩ := hok _ _ _ _ e3
            have hp4 := hp3.sub hst4
            first | refine v_if_neB hX 65 qX10_readComparison_60 rfl (fun q60 => ?_) (fun q60 => ?_) | refine v_if_ne hX 65 qX10_readComparison_60 rfl (fun q60 => ?_) (fun q60 => ?_)
            · skip
              refine v_aload_n hX rfl qX10_readComparison_65 ?_
              refine v_iload_n hX rfl qX10_readComparison_66 ?_
              refine v_callVq hX hR k_X10_79 (hs.kd 11 rfl) (c_emit (h := (σ4, h.2)) (by exact hs) (c := c + (cs ++ cs3).length) (by rw [List.length_append]; omega) (by exact hp4.2.2.2.2.1) _) rfl (by omega) rfl (Nat.le_of_ble_eq_true rfl) ⟨Nat.le_of_ble_eq_true rfl, Nat.le_of_ble_eq_true rfl⟩ qX10_readComparison_67 ?_
              rintro _ _ ⟨rfl, rfl⟩
              have hp5 := hp4.emit cc
              refine v_iconst hX li_1 qX10_readComparison_70 ?_
              refine v_zreturn hX (by first | exact Or.inl rfl | exact Or.inr rfl | exact bz01 _) qX10_readComparison_71 (hP _ _ ?_)
              exact ⟨_, 1, rfl, rfl, PoR.of (r := .inr (j3, cs ++ cs3 ++ [cc], fun env => joinI cc (v env) (v3 env))) ⟨rfl, hp5⟩ (by rw [ho, e3]; rfl)⟩
            · exact absurd q60 (by decide)
      · skip
        refine v_aload_n hX rfl qX10_readComparison_18 ?_
        refine v_getIv hX g_X10_71 (Or.inl rfl) (hs.kd 11 rfl) (show _ = K j from hp2.2.2.1) qX10_readComparison_19 ?_
        refine v_bipush hX lb_61 qX10_readComparison_22 ?_
        refine v_icmp_eq hX 29 qX10_readComparison_24 rfl (fun q24 => ?_) (fun q24 => ?_)
        · skip
          refine v_aload_n hX rfl qX10_readComparison_29 ?_
          refine v_getIv hX g_X10_71 (Or.inl rfl) (hs.kd 11 rfl) (show _ = K j from hp2.2.2.1) qX10_readComparison_30 ?_
          refine v_bipush hX lb_60 qX10_readComparison_33 ?_
          refine v_icmp_ne hX 43 qX10_readComparison_35 rfl (fun q35 => ?_) (fun q35 => ?_)
          · skip
            refine v_bipush hX lb_n11 qX10_readComparison_43 ?_
            obtain ⟨cc, hcc, ho⟩ : ∃ cc : Int32, cc = -11 ∧ pCmp K sub i = biP cc cs v (sub (j + 1)) := ⟨_, rfl, by unfold pCmp; rw [e1]; show (if K j = 60 then _ else if K j = 61 then _ else _) = _; rw [if_neg q15, if_pos q24]⟩
            have hjn : j < n := kLt hK q24 (by decide)
            rw [← hcc]
            refine v_istore_n hX (Nat.le_of_ble_eq_true rfl) rfl (ls' := [some _, some _]) rfl qX10_readComparison_45 ?_
            refine v_aload_n hX rfl qX10_readComparison_46 ?_
            refine v_aload_n hX rfl qX10_readComparison_47 ?_
            refine v_getIv hX g_X10_74 (Or.inl rfl) (hs.kd 11 rfl) (show _ = nI j from hp2.2.1) qX10_readComparison_48 ?_
            refine v_iconst hX li_1 qX10_readComparison_51 ?_
            refine v_iadd hX qX10_readComparison_52 ?_
            refine v_eqI (nI_1 j) ?_
            refine v_callVq hX hR k_X10_47 (hs.kd 11 rfl) (c_goTo (h := (σ1, h.2)) (by exact hs) (by exact (ht.fr hp2.1)) (i := j + 1) (by omega)) rfl (by omega) rfl (Nat.le_of_ble_eq_true rfl) ⟨Nat.le_of_ble_eq_true rfl, Nat.le_of_ble_eq_true rfl⟩ qX10_readComparison_53 ?_
            rintro _ _ ⟨rfl, rfl⟩
            have hp3 := hp2.go (j + 1)
            refine v_aload_n hX rfl qX10_readComparison_56 ?_
            refine v_callVq hX hR k_X10_91 (hs.kd 11 rfl) (hsub _ (by exact (j + 1)) (by exact (c + cs.length)) (by exact hs) (by exact (ht.fr hp3.1)) (by exact hp3.at) (by omega) (by omega)) rfl (by omega) rfl (Nat.le_of_ble_eq_true rfl) ⟨Nat.le_of_ble_eq_true rfl, Nat.le_of_ble_eq_true rfl⟩ qX10_readComparison_57 ?_
            rintro _ _ ⟨σ4, x4, rfl, rfl, hp4⟩
            rcases e3 : sub (j + 1) with g | ⟨j3, cs3, v3⟩
            · rw [e3] at hp4
              obtain ⟨rfl, hfa, hfl⟩ := hp4
              first | refine v_if_neB hX 65 qX10_readComparison_60 rfl (fun q60 => ?_) (fun q60 => ?_) | refine v_if_ne hX 65 qX10_readComparison_60 rfl (fun q60 => ?_) (fun q60 => ?_)
              · exact absurd rfl q60
              · skip
                refine v_iconst hX li_0 qX10_readComparison_63 ?_
                refine v_zreturn hX (by first | exact Or.inl rfl | exact Or.inr rfl | exact bz01 _) qX10_readComparison_64 (hP _ _ ?_)
                exact ⟨σ4, 0, rfl, rfl, PoR.of (r := .inl g) ⟨rfl, hp3.1.tr hfa, hfl⟩ (by rw [ho, e3]; rfl)⟩
            · rw [e3] at hp4
              obtain ⟨rfl, hst4⟩ := hp4
              obtain ⟨z1, z2, z3, -⟩ := hok _ _ _ _ e3
              have hp4 := hp3.sub hst4
              first | refine v_if_neB hX 65 qX10_readComparison_60 rfl (fun q60 => ?_) (fun q60 => ?_) | refine v_if_ne hX 65 qX10_readComparison_60 rfl (fun q60 => ?_) (fun q60 => ?_)
              · skip
                refine v_aload_n hX rfl qX10_readComparison_65 ?_
                refine v_iload_n hX rfl qX10_readComparison_66 ?_
                refine v_callVq hX hR k_X10_79 (hs.kd 11 rfl) (c_emit (h := (σ4, h.2)) (by exact hs) (c := c + (cs ++ cs3).length) (by rw [List.length_append]; omega) (by exact hp4.2.2.2.2.1) _) rfl (by omega) rfl (Nat.le_of_ble_eq_true rfl) ⟨Nat.le_of_ble_eq_true rfl, Nat.le_of_ble_eq_true rfl⟩ qX10_readComparison_67 ?_
                rintro _ _ ⟨rfl, rfl⟩
                have hp5 := hp4.emit cc
                refine v_iconst hX li_1 qX10_readComparison_70 ?_
                refine v_zreturn hX (by first | exact Or.inl rfl | exact Or.inr rfl | exact bz01 _) qX10_readComparison_71 (hP _ _ ?_)
                exact ⟨_, 1, rfl, rfl, PoR.of (r := .inr (j3, cs ++ cs3 ++ [cc], fun env => joinI cc (v env) (v3 env))) ⟨rfl, hp5⟩ (by rw [ho, e3]; rfl)⟩
              · exact absurd q60 (by decide)
          · exact absurd q35 q15
        · skip
          refine v_iconst hX li_1 qX10_readComparison_27 ?_
          refine v_zreturn hX (by first | exact Or.inl rfl | exact Or.inr rfl | exact bz01 _) qX10_readComparison_28 (hP _ _ ?_)
          exact ⟨σ1, 1, rfl, rfl, PoR.of (r := .inr (j, cs, v)) ⟨rfl, hp2⟩ (by unfold pCmp; rw [e1]; show (if K j = 60 then _ else if K j = 61 then _ else _) = _; rw [if_neg q15, if_neg q24])⟩
    · exact absurd q4 (by decide)
theorem qX10_readNot_0 : Dq cX10_readNot 0 (.aload_n 0) 1 1 := ⟨by decide +kernel, rfl⟩
theorem qX10_readNot_1 : Dq cX10_readNot 1 (.getfield 71) 3 4 := ⟨by decide +kernel, rfl⟩
theorem qX10_readNot_4 : Dq cX10_readNot 4 (.bipush 9) 2 6 := ⟨by decide +kernel, rfl⟩
theorem qX10_readNot_6 : Dq cX10_readNot 6 (.if_icmp .eq 8) 3 9 := ⟨by decide +kernel, rfl⟩
theorem qX10_readNot_9 : Dq cX10_readNot 9 (.aload_n 0) 1 10 := ⟨by decide +kernel, rfl⟩
theorem qX10_readNot_10 : Dq cX10_readNot 10 (.invokevirtual 85) 3 13 := ⟨by decide +kernel, rfl⟩
theorem qX10_readNot_13 : Dq cX10_readNot 13 (.ireturn) 1 14 := ⟨by decide +kernel, rfl⟩
theorem qX10_readNot_14 : Dq cX10_readNot 14 (.aload_n 0) 1 15 := ⟨by decide +kernel, rfl⟩
theorem qX10_readNot_15 : Dq cX10_readNot 15 (.invokevirtual 88) 3 18 := ⟨by decide +kernel, rfl⟩
theorem qX10_readNot_18 : Dq cX10_readNot 18 (.ifCond .eq 10) 3 21 := ⟨by decide +kernel, rfl⟩
theorem qX10_readNot_21 : Dq cX10_readNot 21 (.aload_n 0) 1 22 := ⟨by decide +kernel, rfl⟩
theorem qX10_readNot_22 : Dq cX10_readNot 22 (.invokevirtual 82) 3 25 := ⟨by decide +kernel, rfl⟩
theorem qX10_readNot_25 : Dq cX10_readNot 25 (.ifCond .ne 5) 3 28 := ⟨by decide +kernel, rfl⟩
theorem qX10_readNot_28 : Dq cX10_readNot 28 (.iconst 0) 1 29 := ⟨by decide +kernel, rfl⟩
theorem qX10_readNot_29 : Dq cX10_readNot 29 (.ireturn) 1 30 := ⟨by decide +kernel, rfl⟩
theorem qX10_readNot_30 : Dq cX10_readNot 30 (.aload_n 0) 1 31 := ⟨by decide +kernel, rfl⟩
theorem qX10_readNot_31 : Dq cX10_readNot 31 (.dup) 1 32 := ⟨by decide +kernel, rfl⟩
theorem qX10_readNot_32 : Dq cX10_readNot 32 (.getfield 41) 3 35 := ⟨by decide +kernel, rfl⟩
theorem qX10_readNot_35 : Dq cX10_readNot 35 (.iconst 1) 1 36 := ⟨by decide +kernel, rfl⟩
theorem qX10_readNot_36 : Dq cX10_readNot 36 (.isub) 1 37 := ⟨by decide +kernel, rfl⟩
theorem qX10_readNot_37 : Dq cX10_readNot 37 (.putfield 41) 3 40 := ⟨by decide +kernel, rfl⟩
theorem qX10_readNot_40 : Dq cX10_readNot 40 (.aload_n 0) 1 41 := ⟨by decide +kernel, rfl⟩
theorem qX10_readNot_41 : Dq cX10_readNot 41 (.bipush (-9)) 2 43 := ⟨by decide +kernel, rfl⟩
theorem qX10_readNot_43 : Dq cX10_readNot 43 (.invokevirtual 79) 3 46 := ⟨by decide +kernel, rfl⟩
theorem qX10_readNot_46 : Dq cX10_readNot 46 (.iconst 1) 1 47 := ⟨by decide +kernel, rfl⟩
theorem qX10_readNot_47 : Dq cX10_readNot 47 (.ireturn) 1 48 := ⟨by decide +kernel, rfl⟩
set_option maxRecDepth 100000 in
set_option maxHeartbeats 4000000 in
theorem c_readNot {G : Glb} {K W : Nat → Int32} {Pl : Nat → Nat} {n sz : Nat} {d o : Nat} (hd : 10 ≤ d) {room : Bool} (hroom : room = true ↔ o < 5) (ho5 : o ≤ 5) {d2 : Nat} (hd2 : d2 ≤ d) {ln cmp : Nat → PR} {N : Nat} (hln : o < 5 → CSub G K W Pl n sz m_X10_readNot d2 (o + 1) ln) (hcmp : CSub G K W Pl n sz m_X10_readComparison d o cmp) (hokl : o < 5 → SubOK n ln N) (hK : ∀ i, n ≤ i → K i = 0) (h : AHp) (i c : Nat) (hs : ShC h) (ht : TkC K W Pl n sz h) (hp0 : StP K h o c h.1 i []) (hi : i ≤ n) (hci : c ≤ i) : CP G m_X10_readNot (d + 1) 0 0 [.ref 11] h (fun r h' => ∃ σ x, r = some (.int x) ∧ h' = (σ, h.2) ∧ PoR K Pl h o c σ x (pNot K room ln cmp i)) := by
  suffices key : ∀ P : Option Value → AHp → Prop, (∀ r h', (∃ σ x, r = some (.int x) ∧ h' = (σ, h.2) ∧ PoR K Pl h o c σ x (pNot K room ln cmp i)) → P r h') → CP G m_X10_readNot (d + 1) 0 0 [.ref 11] h P from key _ (fun _ _ z => z)
  intro P hP
  refine CP.of (by decide +kernel) (Nat.le_of_ble_eq_true rfl) fun X hX hR hnm => ?_
  show V X G 1 0 0 _ 0 [some (.ref 11)] [] h
  have hn160 := ht.2.1
  have e0 := hp0.2.2.2.2.1
  rw [show c + ([] : List Int32).length = c from rfl] at e0
  refine v_aload_n hX rfl qX10_readNot_0 ?_
  refine v_getIv hX g_X10_71 (Or.inl rfl) (hs.kd 11 rfl) hp0.2.2.1 qX10_readNot_1 ?_
  refine v_bipush hX lb_9 qX10_readNot_4 ?_
  refine v_icmp_eq hX 14 qX10_readNot_6 rfl (fun q6 => ?_) (fun q6 => ?_)
  · skip
    refine v_aload_n hX rfl qX10_readNot_14 ?_
    have hin : i < n := kLt hK q6 (by decide)
    refine v_callVq hX hR k_X10_88 (hs.kd 11 rfl) (c_enter (by exact hs) (by exact ht) (by exact hi) (by exact ho5) (by exact hp0.2.1) (by exact hp0.2.2.2.1)) rfl (by omega) rfl (Nat.le_of_ble_eq_true rfl) ⟨Nat.le_of_ble_eq_true rfl, Nat.le_of_ble_eq_true rfl⟩ qX10_readNot_15 ?_
    rintro _ _ (⟨hr, rfl, rfl⟩ | ⟨hr, rfl, rfl⟩)
    · have hp3 := (hp0.opn (o + 1)).go (i + 1)
      first | refine v_if_eqB hX 28 qX10_readNot_18 rfl (fun q18 => ?_) (fun q18 => ?_) | refine v_if_eq hX 28 qX10_readNot_18 rfl (fun q18 => ?_) (fun q18 => ?_)
      · exact absurd q18 (by decide)
      · skip
        refine v_aload_n hX rfl qX10_readNot_21 ?_
        refine v_callVq hX hR k_X10_82 (hs.kd 11 rfl) ((hln hr) _ (by exact (i + 1)) (by exact c) (by exact hs) (by exact (ht.fr hp3.1)) (by exact hp3.at) (by omega) (by omega)) rfl (by omega) rfl (Nat.le_of_ble_eq_true rfl) ⟨Nat.le_of_ble_eq_true rfl, Nat.le_of_ble_eq_true rfl⟩ qX10_readNot_22 ?_
        rintro _ _ ⟨σ4, x4, rfl, rfl, hp4⟩
        rcases e3 : ln (i + 1) with g | ⟨j3, cs3, v3⟩
        · rw [e3] at hp4
          obtain ⟨rfl, hfa, hfl⟩ := hp4
          first | refine v_if_neB hX 30 qX10_readNot_25 rfl (fun q25 => ?_) (fun q25 => ?_) | refine v_if_ne hX 30 qX10_readNot_25 rfl (fun q25 => ?_) (fun q25 => ?_)
          · exact absurd rfl q25
          · skip
            refine v_iconst hX li_0 qX10_readNot_28 ?_
            refine v_zreturn hX (by first | exact Or.inl rfl | exact Or.inr rfl | exact bz01 _) qX10_readNot_29 (hP _ _ ?_)
            exact ⟨σ4, 0, rfl, rfl, PoR.of (r := .inl g) ⟨rfl, hp3.1.tr hfa, hfl⟩ (by unfold pNot; rw [if_pos q6, hroom.mpr hr, e3]; rfl)⟩
        · rw [e3] at hp4
          obtain ⟨rfl, hst4⟩ := hp4
          obtain ⟨z1, z2, z3, -⟩ := hokl hr _ _ _ _ e3
          have hp4 := (hp3.sub hst4).opn o
          first | refine v_if_neB hX 30 qX10_readNot_25 rfl (fun q25 => ?_) (fun q25 => ?_) | refine v_if_ne hX 30 qX10_readNot_25 rfl (fun q25 => ?_) (fun q25 => ?_)
          · skip
            refine v_aload_n hX rfl qX10_readNot_30 ?_
            refine v_dup hX rfl qX10_readNot_31 ?_
            refine v_getIv hX g_X10_41 (Or.inl rfl) (hs.kd 11 rfl) (show _ = nI (o + 1) from hst4.2.2.2.1) qX10_readNot_32 ?_
            refine v_iconst hX li_1 qX10_readNot_35 ?_
            refine v_isub hX qX10_readNot_36 ?_
            refine v_eqI (nI_pred _) ?_
            refine v_putI hX p_X10_41 (hs.kd 11 rfl) (Or.inl rfl) qX10_readNot_37 ?_
            refine v_aload_n hX rfl qX10_readNot_40 ?_
            refine v_bipush hX lb_n9 qX10_readNot_41 ?_
            refine v_callVq hX hR k_X10_79 (hs.kd 11 rfl) (c_emit (h := (stI (σ4, h.2) 11 9 (nI o))) (by exact hs) (c := c + cs3.length) (by omega) (by exact hp4.2.2.2.2.1) _) rfl (by omega) rfl (Nat.le_of_ble_eq_true rfl) ⟨Nat.le_of_ble_eq_true rfl, Nat.le_of_ble_eq_true rfl⟩ qX10_readNot_43 ?_
            rintro _ _ ⟨rfl, rfl⟩
            have hp5 := hp4.emit (-9)
            refine v_iconst hX li_1 qX10_readNot_46 ?_
            refine v_zreturn hX (by first | exact Or.inl rfl | exact Or.inr rfl | exact bz01 _) qX10_readNot_47 (hP _ _ ?_)
            exact ⟨_, 1, rfl, rfl, PoR.of (r := .inr (j3, cs3 ++ [-9], fun env => bz (v3 env = 0))) ⟨rfl, hp5⟩ (by unfold pNot; rw [if_pos q6, hroom.mpr hr, e3]; rfl)⟩
          · exact absurd q25 (by decide)
    · skip
      first | refine v_if_eqB hX 28 qX10_readNot_18 rfl (fun q18 => ?_) (fun q18 => ?_) | refine v_if_eq hX 28 qX10_readNot_18 rfl (fun q18 => ?_) (fun q18 => ?_)
      · skip
        refine v_iconst hX li_0 qX10_readNot_28 ?_
        refine v_zreturn hX (by first | exact Or.inl rfl | exact Or.inr rfl | exact bz01 _) qX10_readNot_29 (hP _ _ ?_)
        exact ⟨(stI h 11 2 (nI (Pl i))).1, 0, rfl, rfl, PoR.of (r := .inl i) ⟨rfl, fun a k a1 a2 => by show hpI (stI _ _ _ _) _ _ = _; rw [hpI_st, if_neg (by omega)], rfl⟩ (by unfold pNot; rw [if_pos q6, Bool.eq_false_iff.mpr (fun z => hr (hroom.mp z))]; rfl)⟩
      · exact absurd rfl q18
  · skip
    refine v_aload_n hX rfl qX10_readNot_9 ?_
    refine v_callVq hX hR k_X10_85 (hs.kd 11 rfl) (hcmp _ (by exact i) (by exact c) (by exact hs) (by exact ht) (by exact hp0) (by omega) (by omega)) rfl (by omega) rfl (Nat.le_of_ble_eq_true rfl) ⟨Nat.le_of_ble_eq_true rfl, Nat.le_of_ble_eq_true rfl⟩ qX10_readNot_10 ?_
    rintro _ _ ⟨σ1, x1, rfl, rfl, hp1⟩
    refine v_zreturn hX hp1.b qX10_readNot_13 (hP _ _ ?_)
    exact ⟨σ1, x1, rfl, rfl, hp1.of (if_neg q6)⟩
theorem qX10_readNegated_0 : Dq cX10_readNegated 0 (.aload_n 0) 1 1 := ⟨by decide +kernel, rfl⟩
theorem qX10_readNegated_1 : Dq cX10_readNegated 1 (.invokevirtual 88) 3 4 := ⟨by decide +kernel, rfl⟩
theorem qX10_readNegated_4 : Dq cX10_readNegated 4 (.ifCond .eq 10) 3 7 := ⟨by decide +kernel, rfl⟩
theorem qX10_readNegated_7 : Dq cX10_readNegated 7 (.aload_n 0) 1 8 := ⟨by decide +kernel, rfl⟩
theorem qX10_readNegated_8 : Dq cX10_readNegated 8 (.invokevirtual 97) 3 11 := ⟨by decide +kernel, rfl⟩
theorem qX10_readNegated_11 : Dq cX10_readNegated 11 (.ifCond .ne 5) 3 14 := ⟨by decide +kernel, rfl⟩
theorem qX10_readNegated_14 : Dq cX10_readNegated 14 (.iconst 0) 1 15 := ⟨by decide +kernel, rfl⟩
theorem qX10_readNegated_15 : Dq cX10_readNegated 15 (.ireturn) 1 16 := ⟨by decide +kernel, rfl⟩
theorem qX10_readNegated_16 : Dq cX10_readNegated 16 (.aload_n 0) 1 17 := ⟨by decide +kernel, rfl⟩
theorem qX10_readNegated_17 : Dq cX10_readNegated 17 (.dup) 1 18 := ⟨by decide +kernel, rfl⟩
theorem qX10_readNegated_18 : Dq cX10_readNegated 18 (.getfield 41) 3 21 := ⟨by decide +kernel, rfl⟩
theorem qX10_readNegated_21 : Dq cX10_readNegated 21 (.iconst 1) 1 22 := ⟨by decide +kernel, rfl⟩
theorem qX10_readNegated_22 : Dq cX10_readNegated 22 (.isub) 1 23 := ⟨by decide +kernel, rfl⟩
theorem qX10_readNegated_23 : Dq cX10_readNegated 23 (.putfield 41) 3 26 := ⟨by decide +kernel, rfl⟩
theorem qX10_readNegated_26 : Dq cX10_readNegated 26 (.aload_n 0) 1 27 := ⟨by decide +kernel, rfl⟩
theorem qX10_readNegated_27 : Dq cX10_readNegated 27 (.bipush (-15)) 2 29 := ⟨by decide +kernel, rfl⟩
theorem qX10_readNegated_29 : Dq cX10_readNegated 29 (.invokevirtual 79) 3 32 := ⟨by decide +kernel, rfl⟩
theorem qX10_readNegated_32 : Dq cX10_readNegated 32 (.iconst 1) 1 33 := ⟨by decide +kernel, rfl⟩
theorem qX10_readNegated_33 : Dq cX10_readNegated 33 (.ireturn) 1 34 := ⟨by decide +kernel, rfl⟩
set_option maxRecDepth 100000 in
set_option maxHeartbeats 4000000 in
theorem c_readNegated {G : Glb} {K W : Nat → Int32} {Pl : Nat → Nat} {n sz : Nat} {d o : Nat} (hd : 10 ≤ d) {room : Bool} (hroom : room = true ↔ o < 5) (ho5 : o ≤ 5) {d2 : Nat} (hd2 : d2 ≤ d) {l1 : Nat → PR} {N : Nat} (hl1 : o < 5 → CSub G K W Pl n sz m_X10_readOne d2 (o + 1) l1) (hokl : o < 5 → SubOK n l1 N) (h : AHp) (i c : Nat) (hs : ShC h) (ht : TkC K W Pl n sz h) (hp0 : StP K h o c h.1 i []) (hi : i ≤ n) (hci : c ≤ i) (hin : i < n) : CP G m_X10_readNegated (d + 1) 0 0 [.ref 11] h (fun r h' => ∃ σ x, r = some (.int x) ∧ h' = (σ, h.2) ∧ PoR K Pl h o c σ x ((fun i => if room = true then neP (l1 (i + 1)) else .inl i) i)) := by
  suffices key : ∀ P : Option Value → AHp → Prop, (∀ r h', (∃ σ x, r = some (.int x) ∧ h' = (σ, h.2) ∧ PoR K Pl h o c σ x ((fun i => if room = true then neP (l1 (i + 1)) else .inl i) i)) → P r h') → CP G m_X10_readNegated (d + 1) 0 0 [.ref 11] h P from key _ (fun _ _ z => z)
  intro P hP
  refine CP.of (by decide +kernel) (Nat.le_of_ble_eq_true rfl) fun X hX hR hnm => ?_
  show V X G 1 0 0 _ 0 [some (.ref 11)] [] h
  have hn160 := ht.2.1
  have e0 := hp0.2.2.2.2.1
  rw [show c + ([] : List Int32).length = c from rfl] at e0
  refine v_aload_n hX rfl qX10_readNegated_0 ?_
  refine v_callVq hX hR k_X10_88 (hs.kd 11 rfl) (c_enter (by exact hs) (by exact ht) (by exact hi) (by exact ho5) (by exact hp0.2.1) (by exact hp0.2.2.2.1)) rfl (by omega) rfl (Nat.le_of_ble_eq_true rfl) ⟨Nat.le_of_ble_eq_true rfl, Nat.le_of_ble_eq_true rfl⟩ qX10_readNegated_1 ?_
  rintro _ _ (⟨hr, rfl, rfl⟩ | ⟨hr, rfl, rfl⟩)
  · have hp3 := (hp0.opn (o + 1)).go (i + 1)
    first | refine v_if_eqB hX 14 qX10_readNegated_4 rfl (fun q4 => ?_) (fun q4 => ?_) | refine v_if_eq hX 14 qX10_readNegated_4 rfl (fun q4 => ?_) (fun q4 => ?_)
    · exact absurd q4 (by decide)
    · skip
      refine v_aload_n hX rfl qX10_readNegated_7 ?_
      refine v_callVq hX hR k_X10_97 (hs.kd 11 rfl) ((hl1 hr) _ (by exact (i + 1)) (by exact c) (by exact hs) (by exact (ht.fr hp3.1)) (by exact hp3.at) (by omega) (by omega)) rfl (by omega) rfl (Nat.le_of_ble_eq_true rfl) ⟨Nat.le_of_ble_eq_true rfl, Nat.le_of_ble_eq_true rfl⟩ qX10_readNegated_8 ?_
      rintro _ _ ⟨σ4, x4, rfl, rfl, hp4⟩
      rcases e3 : l1 (i + 1) with g | ⟨j3, cs3, v3⟩
      · rw [e3] at hp4
        obtain ⟨rfl, hfa, hfl⟩ := hp4
        first | refine v_if_neB hX 16 qX10_readNegated_11 rfl (fun q11 => ?_) (fun q11 => ?_) | refine v_if_ne hX 16 qX10_readNegated_11 rfl (fun q11 => ?_) (fun q11 => ?_)
        · exact absurd rfl q11
        · skip
          refine v_iconst hX li_0 qX10_readNegated_14 ?_
          refine v_zreturn hX (by first | exact Or.inl rfl | exact Or.inr rfl | exact bz01 _) qX10_readNegated_15 (hP _ _ ?_)
          exact ⟨σ4, 0, rfl, rfl, PoR.of (r := .inl g) ⟨rfl, hp3.1.tr hfa, hfl⟩ (by show (if room = true then _ else _) = _; rw [hroom.mpr hr, e3]; rfl)⟩
      · rw [e3] at hp4
        obtain ⟨rfl, hst4⟩ := hp4
        obtain ⟨z1, z2, z3, -⟩ := hokl hr _ _ _ _ e3
        have hp4 := (hp3.sub hst4).opn o
        first | refine v_if_neB hX 16 qX10_readNegated_11 rfl (fun q11 => ?_) (fun q11 => ?_) | refine v_if_ne hX 16 qX10_readNegated_11 rfl (fun q11 => ?_) (fun q11 => ?_)
        · skip
          refine v_aload_n hX rfl qX10_readNegated_16 ?_
          refine v_dup hX rfl qX10_readNegated_17 ?_
          refine v_getIv hX g_X10_41 (Or.inl rfl) (hs.kd 11 rfl) (show _ = nI (o + 1) from hst4.2.2.2.1) qX10_readNegated_18 ?_
          refine v_iconst hX li_1 qX10_readNegated_21 ?_
          refine v_isub hX qX10_readNegated_22 ?_
          refine v_eqI (nI_pred _) ?_
          refine v_putI hX p_X10_41 (hs.kd 11 rfl) (Or.inl rfl) qX10_readNegated_23 ?_
          refine v_aload_n hX rfl qX10_readNegated_26 ?_
          refine v_bipush hX lb_n15 qX10_readNegated_27 ?_
          refine v_callVq hX hR k_X10_79 (hs.kd 11 rfl) (c_emit (h := (stI (σ4, h.2) 11 9 (nI o))) (by exact hs) (c := c + cs3.length) (by omega) (by exact hp4.2.2.2.2.1) _) rfl (by omega) rfl (Nat.le_of_ble_eq_true rfl) ⟨Nat.le_of_ble_eq_true rfl, Nat.le_of_ble_eq_true rfl⟩ qX10_readNegated_29 ?_
          rintro _ _ ⟨rfl, rfl⟩
          have hp5 := hp4.emit (-15)
          refine v_iconst hX li_1 qX10_readNegated_32 ?_
          refine v_zreturn hX (by first | exact Or.inl rfl | exact Or.inr rfl | exact bz01 _) qX10_readNegated_33 (hP _ _ ?_)
          exact ⟨_, 1, rfl, rfl, PoR.of (r := .inr (j3, cs3 ++ [-15], fun env => - v3 env)) ⟨rfl, hp5⟩ (by show (if room = true then _ else _) = _; rw [hroom.mpr hr, e3]; rfl)⟩
        · exact absurd q11 (by decide)
  · skip
    first | refine v_if_eqB hX 14 qX10_readNegated_4 rfl (fun q4 => ?_) (fun q4 => ?_) | refine v_if_eq hX 14 qX10_readNegated_4 rfl (fun q4 => ?_) (fun q4 => ?_)
    · skip
      refine v_iconst hX li_0 qX10_readNegated_14 ?_
      refine v_zreturn hX (by first | exact Or.inl rfl | exact Or.inr rfl | exact bz01 _) qX10_readNegated_15 (hP _ _ ?_)
      exact ⟨(stI h 11 2 (nI (Pl i))).1, 0, rfl, rfl, PoR.of (r := .inl i) ⟨rfl, fun a k a1 a2 => by show hpI (stI _ _ _ _) _ _ = _; rw [hpI_st, if_neg (by omega)], rfl⟩ (by show (if room = true then _ else _) = _; rw [Bool.eq_false_iff.mpr (fun z => hr (hroom.mp z))]; rfl)⟩
    · exact absurd rfl q4
theorem qX10_readBracket_0 : Dq cX10_readBracket 0 (.aload_n 0) 1 1 := ⟨by decide +kernel, rfl⟩
theorem qX10_readBracket_1 : Dq cX10_readBracket 1 (.invokevirtual 88) 3 4 := ⟨by decide +kernel, rfl⟩
theorem qX10_readBracket_4 : Dq cX10_readBracket 4 (.ifCond .eq 19) 3 7 := ⟨by decide +kernel, rfl⟩
theorem qX10_readBracket_7 : Dq cX10_readBracket 7 (.aload_n 0) 1 8 := ⟨by decide +kernel, rfl⟩
theorem qX10_readBracket_8 : Dq cX10_readBracket 8 (.invokevirtual 64) 3 11 := ⟨by decide +kernel, rfl⟩
theorem qX10_readBracket_11 : Dq cX10_readBracket 11 (.ifCond .eq 12) 3 14 := ⟨by decide +kernel, rfl⟩
theorem qX10_readBracket_14 : Dq cX10_readBracket 14 (.aload_n 0) 1 15 := ⟨by decide +kernel, rfl⟩
theorem qX10_readBracket_15 : Dq cX10_readBracket 15 (.bipush 41) 2 17 := ⟨by decide +kernel, rfl⟩
theorem qX10_readBracket_17 : Dq cX10_readBracket 17 (.invokevirtual 61) 3 20 := ⟨by decide +kernel, rfl⟩
theorem qX10_readBracket_20 : Dq cX10_readBracket 20 (.ifCond .ne 5) 3 23 := ⟨by decide +kernel, rfl⟩
theorem qX10_readBracket_23 : Dq cX10_readBracket 23 (.iconst 0) 1 24 := ⟨by decide +kernel, rfl⟩
theorem qX10_readBracket_24 : Dq cX10_readBracket 24 (.ireturn) 1 25 := ⟨by decide +kernel, rfl⟩
theorem qX10_readBracket_25 : Dq cX10_readBracket 25 (.aload_n 0) 1 26 := ⟨by decide +kernel, rfl⟩
theorem qX10_readBracket_26 : Dq cX10_readBracket 26 (.dup) 1 27 := ⟨by decide +kernel, rfl⟩
theorem qX10_readBracket_27 : Dq cX10_readBracket 27 (.getfield 41) 3 30 := ⟨by decide +kernel, rfl⟩
theorem qX10_readBracket_30 : Dq cX10_readBracket 30 (.iconst 1) 1 31 := ⟨by decide +kernel, rfl⟩
theorem qX10_readBracket_31 : Dq cX10_readBracket 31 (.isub) 1 32 := ⟨by decide +kernel, rfl⟩
theorem qX10_readBracket_32 : Dq cX10_readBracket 32 (.putfield 41) 3 35 := ⟨by decide +kernel, rfl⟩
theorem qX10_readBracket_35 : Dq cX10_readBracket 35 (.iconst 1) 1 36 := ⟨by decide +kernel, rfl⟩
theorem qX10_readBracket_36 : Dq cX10_readBracket 36 (.ireturn) 1 37 := ⟨by decide +kernel, rfl⟩
set_option maxRecDepth 100000 in
set_option maxHeartbeats 4000000 in
theorem c_readBracket {G : Glb} {K W : Nat → Int32} {Pl : Nat → Nat} {n sz : Nat} {d o : Nat} (hd : 10 ≤ d) {room : Bool} (hroom : room = true ↔ o < 5) (ho5 : o ≤ 5) {d2 : Nat} (hd2 : d2 ≤ d) {lo : Nat → PR} {N : Nat} (hlo : o < 5 → CSub G K W Pl n sz m_X10_readOr d2 (o + 1) lo) (hokl : o < 5 → SubOK n lo N) (h : AHp) (i c : Nat) (hs : ShC h) (ht : TkC K W Pl n sz h) (hp0 : StP K h o c h.1 i []) (hi : i ≤ n) (hci : c ≤ i) (hin : i < n) : CP G m_X10_readBracket (d + 1) 0 0 [.ref 11] h (fun r h' => ∃ σ x, r = some (.int x) ∧ h' = (σ, h.2) ∧ PoR K Pl h o c σ x ((fun i => if room = true then clP K (lo (i + 1)) else .inl i) i)) := by
  suffices key : ∀ P : Option Value → AHp → Prop, (∀ r h', (∃ σ x, r = some (.int x) ∧ h' = (σ, h.2) ∧ PoR K Pl h o c σ x ((fun i => if room = true then clP K (lo (i + 1)) else .inl i) i)) → P r h') → CP G m_X10_readBracket (d + 1) 0 0 [.ref 11] h P from key _ (fun _ _ z => z)
  intro P hP
  refine CP.of (by decide +kernel) (Nat.le_of_ble_eq_true rfl) fun X hX hR hnm => ?_
  show V X G 1 0 0 _ 0 [some (.ref 11)] [] h
  have hn160 := ht.2.1
  have e0 := hp0.2.2.2.2.1
  rw [show c + ([] : List Int32).length = c from rfl] at e0
  refine v_aload_n hX rfl qX10_readBracket_0 ?_
  refine v_callVq hX hR k_X10_88 (hs.kd 11 rfl) (c_enter (by exact hs) (by exact ht) (by exact hi) (by exact ho5) (by exact hp0.2.1) (by exact hp0.2.2.2.1)) rfl (by omega) rfl (Nat.le_of_ble_eq_true rfl) ⟨Nat.le_of_ble_eq_true rfl, Nat.le_of_ble_eq_true rfl⟩ qX10_readBracket_1 ?_
  rintro _ _ (⟨hr, rfl, rfl⟩ | ⟨hr, rfl, rfl⟩)
  · have hp3 := (hp0.opn (o + 1)).go (i + 1)
    first | refine v_if_eqB hX 23 qX10_readBracket_4 rfl (fun q4 => ?_) (fun q4 => ?_) | refine v_if_eq hX 23 qX10_readBracket_4 rfl (fun q4 => ?_) (fun q4 => ?_)
    · exact absurd q4 (by decide)
    · skip
      refine v_aload_n hX rfl qX10_readBracket_7 ?_
      refine v_callVq hX hR k_X10_64 (hs.kd 11 rfl) ((hlo hr) _ (by exact (i + 1)) (by exact c) (by exact hs) (by exact (ht.fr hp3.1)) (by exact hp3.at) (by omega) (by omega)) rfl (by omega) rfl (Nat.le_of_ble_eq_true rfl) ⟨Nat.le_of_ble_eq_true rfl, Nat.le_of_ble_eq_true rfl⟩ qX10_readBracket_8 ?_
      rintro _ _ ⟨σ4, x4, rfl, rfl, hp4⟩
      rcases e3 : lo (i + 1) with g | ⟨j3, cs3, v3⟩
      · rw [e3] at hp4
        obtain ⟨rfl, hfa, hfl⟩ := hp4
        first | refine v_if_eqB hX 23 qX10_readBracket_11 rfl (fun q11 => ?_) (fun q11 => ?_) | refine v_if_eq hX 23 qX10_readBracket_11 rfl (fun q11 => ?_) (fun q11 => ?_)
        · skip
          refine v_iconst hX li_0 qX10_readBracket_23 ?_
          refine v_zreturn hX (by first | exact Or.inl rfl | exact Or.inr rfl | exact bz01 _) qX10_readBracket_24 (hP _ _ ?_)
          exact ⟨σ4, 0, rfl, rfl, PoR.of (r := .inl g) ⟨rfl, hp3.1.tr hfa, hfl⟩ (by show (if room = true then _ else _) = _; rw [hroom.mpr hr, e3]; rfl)⟩
        · exact absurd rfl q11
      · rw [e3] at hp4
        obtain ⟨rfl, hst4⟩ := hp4
        obtain ⟨z1, z2, z3, -⟩ := hokl hr _ _ _ _ e3
        have hp4 := hp3.sub hst4
        first | refine v_if_eqB hX 23 qX10_readBracket_11 rfl (fun q11 => ?_) (fun q11 => ?_) | refine v_if_eq hX 23 qX10_readBracket_11 rfl (fun q11 => ?_) (fun q11 => ?_)
        · exact absurd q11 (by decide)
        · skip
          refine v_aload_n hX rfl qX10_readBracket_14 ?_
          refine v_bipush hX lb_41 qX10_readBracket_15 ?_
          refine v_callVq hX hR k_X10_61 (hs.kd 11 rfl) (c_expect (h := (σ4, h.2)) (by exact hs) (by exact (ht.fr hp4.1)) (i := j3) (by exact z2) (by exact hp4.2.1) (by exact hp4.2.2.1) (by exact 41)) rfl (by omega) rfl (Nat.le_of_ble_eq_true rfl) ⟨Nat.le_of_ble_eq_true rfl, Nat.le_of_ble_eq_true rfl⟩ qX10_readBracket_17 ?_
          rintro _ _ (⟨hq, rfl, rfl⟩ | ⟨hq, rfl, rfl⟩)
          · have hp5 := (hp4.go (j3 + 1)).opn o
            first | refine v_if_neB hX 25 qX10_readBracket_20 rfl (fun q20 => ?_) (fun q20 => ?_) | refine v_if_ne hX 25 qX10_readBracket_20 rfl (fun q20 => ?_) (fun q20 => ?_)
            · skip
              refine v_aload_n hX rfl qX10_readBracket_25 ?_
              refine v_dup hX rfl qX10_readBracket_26 ?_
              refine v_getIv hX g_X10_41 (Or.inl rfl) (hs.kd 11 rfl) (show _ = nI (o + 1) from hst4.2.2.2.1) qX10_readBracket_27 ?_
              refine v_iconst hX li_1 qX10_readBracket_30 ?_
              refine v_isub hX qX10_readBracket_31 ?_
              refine v_eqI (nI_pred _) ?_
              refine v_putI hX p_X10_41 (hs.kd 11 rfl) (Or.inl rfl) qX10_readBracket_32 ?_
              refine v_iconst hX li_1 qX10_readBracket_35 ?_
              refine v_zreturn hX (by first | exact Or.inl rfl | exact Or.inr rfl | exact bz01 _) qX10_readBracket_36 (hP _ _ ?_)
              exact ⟨_, 1, rfl, rfl, PoR.of (r := .inr (j3 + 1, cs3, v3)) ⟨rfl, hp5⟩ (by show (if room = true then clP K (lo (i + 1)) else _) = _; rw [hroom.mpr hr, e3]; exact if_pos hq)⟩
            · exact absurd q20 (by decide)
          · skip
            first | refine v_if_neB hX 25 qX10_readBracket_20 rfl (fun q20 => ?_) (fun q20 => ?_) | refine v_if_ne hX 25 qX10_readBracket_20 rfl (fun q20 => ?_) (fun q20 => ?_)
            · exact absurd rfl q20
            · skip
              refine v_iconst hX li_0 qX10_readBracket_23 ?_
              refine v_zreturn hX (by first | exact Or.inl rfl | exact Or.inr rfl | exact bz01 _) qX10_readBracket_24 (hP _ _ ?_)
              exact ⟨(stI (σ4, h.2) 11 2 (nI (Pl j3))).1, 0, rfl, rfl, PoR.of (r := .inl j3) ⟨rfl, fun a k a1 a2 => by show hpI (stI _ _ _ _) _ _ = _; rw [hpI_st, if_neg (by omega)]; exact hp4.1 a k a1 a2, rfl⟩ (by show (if room = true then clP K (lo (i + 1)) else _) = _; rw [hroom.mpr hr, e3]; exact if_neg hq)⟩
  · skip
    first | refine v_if_eqB hX 23 qX10_readBracket_4 rfl (fun q4 => ?_) (fun q4 => ?_) | refine v_if_eq hX 23 qX10_readBracket_4 rfl (fun q4 => ?_) (fun q4 => ?_)
    · skip
      refine v_iconst hX li_0 qX10_readBracket_23 ?_
      refine v_zreturn hX (by first | exact Or.inl rfl | exact Or.inr rfl | exact bz01 _) qX10_readBracket_24 (hP _ _ ?_)
      exact ⟨(stI h 11 2 (nI (Pl i))).1, 0, rfl, rfl, PoR.of (r := .inl i) ⟨rfl, fun a k a1 a2 => by show hpI (stI _ _ _ _) _ _ = _; rw [hpI_st, if_neg (by omega)], rfl⟩ (by show (if room = true then _ else _) = _; rw [Bool.eq_false_iff.mpr (fun z => hr (hroom.mp z))]; rfl)⟩
    · exact absurd rfl q4
theorem qX10_readOne_0 : Dq cX10_readOne 0 (.aload_n 0) 1 1 := ⟨by decide +kernel, rfl⟩
theorem qX10_readOne_1 : Dq cX10_readOne 1 (.getfield 71) 3 4 := ⟨by decide +kernel, rfl⟩
theorem qX10_readOne_4 : Dq cX10_readOne 4 (.lookupswitch 74 #[(2, 44), (3, 44), (40, 69), (45, 64)]) 44 48 := ⟨by decide +kernel, rfl⟩
theorem qX10_readOne_48 : Dq cX10_readOne 48 (.aload_n 0) 1 49 := ⟨by decide +kernel, rfl⟩
theorem qX10_readOne_49 : Dq cX10_readOne 49 (.aload_n 0) 1 50 := ⟨by decide +kernel, rfl⟩
theorem qX10_readOne_50 : Dq cX10_readOne 50 (.invokevirtual 100) 3 53 := ⟨by decide +kernel, rfl⟩
theorem qX10_readOne_53 : Dq cX10_readOne 53 (.invokevirtual 79) 3 56 := ⟨by decide +kernel, rfl⟩
theorem qX10_readOne_56 : Dq cX10_readOne 56 (.aload_n 0) 1 57 := ⟨by decide +kernel, rfl⟩
theorem qX10_readOne_57 : Dq cX10_readOne 57 (.aload_n 0) 1 58 := ⟨by decide +kernel, rfl⟩
theorem qX10_readOne_58 : Dq cX10_readOne 58 (.getfield 74) 3 61 := ⟨by decide +kernel, rfl⟩
theorem qX10_readOne_61 : Dq cX10_readOne 61 (.iconst 1) 1 62 := ⟨by decide +kernel, rfl⟩
theorem qX10_readOne_62 : Dq cX10_readOne 62 (.iadd) 1 63 := ⟨by decide +kernel, rfl⟩
theorem qX10_readOne_63 : Dq cX10_readOne 63 (.invokevirtual 47) 3 66 := ⟨by decide +kernel, rfl⟩
theorem qX10_readOne_66 : Dq cX10_readOne 66 (.iconst 1) 1 67 := ⟨by decide +kernel, rfl⟩
theorem qX10_readOne_67 : Dq cX10_readOne 67 (.ireturn) 1 68 := ⟨by decide +kernel, rfl⟩
theorem qX10_readOne_68 : Dq cX10_readOne 68 (.aload_n 0) 1 69 := ⟨by decide +kernel, rfl⟩
theorem qX10_readOne_69 : Dq cX10_readOne 69 (.invokevirtual 104) 3 72 := ⟨by decide +kernel, rfl⟩
theorem qX10_readOne_72 : Dq cX10_readOne 72 (.ireturn) 1 73 := ⟨by decide +kernel, rfl⟩
theorem qX10_readOne_73 : Dq cX10_readOne 73 (.aload_n 0) 1 74 := ⟨by decide +kernel, rfl⟩
theorem qX10_readOne_74 : Dq cX10_readOne 74 (.invokevirtual 107) 3 77 := ⟨by decide +kernel, rfl⟩
theorem qX10_readOne_77 : Dq cX10_readOne 77 (.ireturn) 1 78 := ⟨by decide +kernel, rfl⟩
theorem qX10_readOne_78 : Dq cX10_readOne 78 (.aload_n 0) 1 79 := ⟨by decide +kernel, rfl⟩
theorem qX10_readOne_79 : Dq cX10_readOne 79 (.invokevirtual 110) 3 82 := ⟨by decide +kernel, rfl⟩
theorem qX10_readOne_82 : Dq cX10_readOne 82 (.ireturn) 1 83 := ⟨by decide +kernel, rfl⟩
set_option maxRecDepth 100000 in
set_option maxHeartbeats 4000000 in
theorem c_readOne {G : Glb} {K W : Nat → Int32} {Pl : Nat → Nat} {n sz : Nat} {d o : Nat} (hd : 10 ≤ d) {room : Bool} {l1 lo : Nat → PR} (hng : CSubL G K W Pl n sz m_X10_readNegated d o (fun i => if room = true then neP (l1 (i + 1)) else .inl i)) (hbr : CSubL G K W Pl n sz m_X10_readBracket d o (fun i => if room = true then clP K (lo (i + 1)) else .inl i)) (hK : ∀ i, n ≤ i → K i = 0) (h : AHp) (i c : Nat) (hs : ShC h) (ht : TkC K W Pl n sz h) (hp0 : StP K h o c h.1 i []) (hi : i ≤ n) (hci : c ≤ i) : CP G m_X10_readOne (d + 1) 0 0 [.ref 11] h (fun r h' => ∃ σ x, r = some (.int x) ∧ h' = (σ, h.2) ∧ PoR K Pl h o c σ x (pOne K W room l1 lo i)) := by
  suffices key : ∀ P : Option Value → AHp → Prop, (∀ r h', (∃ σ x, r = some (.int x) ∧ h' = (σ, h.2) ∧ PoR K Pl h o c σ x (pOne K W room l1 lo i)) → P r h') → CP G m_X10_readOne (d + 1) 0 0 [.ref 11] h P from key _ (fun _ _ z => z)
  intro P hP
  refine CP.of (by decide +kernel) (Nat.le_of_ble_eq_true rfl) fun X hX hR hnm => ?_
  show V X G 1 0 0 _ 0 [some (.ref 11)] [] h
  have hn160 := ht.2.1
  have e0 := hp0.2.2.2.2.1
  rw [show c + ([] : List Int32).length = c from rfl] at e0
  refine v_aload_n hX rfl qX10_readOne_0 ?_
  refine v_getIv hX g_X10_71 (Or.inl rfl) (hs.kd 11 rfl) hp0.2.2.1 qX10_readOne_1 ?_
  refine v_case (2 : Int32) (fun q4 => ?_) (fun q4_2 => ?_)
  · skip
    refine v_lookup (off := 44) hX 48 qX10_readOne_4 (by decide) (by first | exact (by rw [q4]; rfl) | rfl) rfl ?_
    refine v_aload_n hX rfl qX10_readOne_48 ?_
    refine v_aload_n hX rfl qX10_readOne_49 ?_
    have hin : i < n := kLt hK q4 (by decide)
    refine v_callVq hX hR k_X10_100 (hs.kd 11 rfl) (c_worthHere (by exact hs) (by exact ht) (by exact hin) (by exact hp0.2.1)) rfl (by omega) rfl (Nat.le_of_ble_eq_true rfl) ⟨Nat.le_of_ble_eq_true rfl, Nat.le_of_ble_eq_true rfl⟩ qX10_readOne_50 ?_
    rintro _ _ ⟨rfl, rfl⟩
    refine v_callVq hX hR k_X10_79 (hs.kd 11 rfl) (c_emit (h := h) (by exact hs) (c := c) (by omega) (by exact e0) _) rfl (by omega) rfl (Nat.le_of_ble_eq_true rfl) ⟨Nat.le_of_ble_eq_true rfl, Nat.le_of_ble_eq_true rfl⟩ qX10_readOne_53 ?_
    rintro _ _ ⟨rfl, rfl⟩
    have hp5 := hp0.emit (W i)
    refine v_aload_n hX rfl qX10_readOne_56 ?_
    refine v_aload_n hX rfl qX10_readOne_57 ?_
    refine v_getIv hX g_X10_74 (Or.inl rfl) (hs.kd 11 rfl) (show _ = nI i from hp0.2.1) qX10_readOne_58 ?_
    refine v_iconst hX li_1 qX10_readOne_61 ?_
    refine v_iadd hX qX10_readOne_62 ?_
    refine v_eqI (nI_1 i) ?_
    refine v_callVq hX hR k_X10_47 (hs.kd 11 rfl) (c_goTo (h := stI (stI h 16 c (W i)) 11 11 (nI (c + 1))) (by exact hs) (by exact (ht.fr hp5.1)) (i := i + 1) (by omega)) rfl (by omega) rfl (Nat.le_of_ble_eq_true rfl) ⟨Nat.le_of_ble_eq_true rfl, Nat.le_of_ble_eq_true rfl⟩ qX10_readOne_63 ?_
    rintro _ _ ⟨rfl, rfl⟩
    have hp6 := hp5.go (i + 1)
    refine v_iconst hX li_1 qX10_readOne_66 ?_
    refine v_zreturn hX (by first | exact Or.inl rfl | exact Or.inr rfl | exact bz01 _) qX10_readOne_67 (hP _ _ ?_)
    first
    | exact ⟨_, 1, rfl, rfl, PoR.of (r := .inr (i + 1, [W i], fun _ => W i)) ⟨rfl, hp6⟩ (if_pos q4)⟩
    | exact ⟨_, 1, rfl, rfl, PoR.of (r := .inr (i + 1, [W i], fun env => env (tn (-1 - W i)))) ⟨rfl, hp6⟩ (by unfold pOne; rw [if_neg q4_2, if_pos q4])⟩
  refine v_case (3 : Int32) (fun q4 => ?_) (fun q4_3 => ?_)
  · skip
    refine v_lookup (off := 44) hX 48 qX10_readOne_4 (by decide) (by first | exact (by rw [q4]; rfl) | rfl) rfl ?_
    refine v_aload_n hX rfl qX10_readOne_48 ?_
    refine v_aload_n hX rfl qX10_readOne_49 ?_
    have hin : i < n := kLt hK q4 (by decide)
    refine v_callVq hX hR k_X10_100 (hs.kd 11 rfl) (c_worthHere (by exact hs) (by exact ht) (by exact hin) (by exact hp0.2.1)) rfl (by omega) rfl (Nat.le_of_ble_eq_true rfl) ⟨Nat.le_of_ble_eq_true rfl, Nat.le_of_ble_eq_true rfl⟩ qX10_readOne_50 ?_
    rintro _ _ ⟨rfl, rfl⟩
    refine v_callVq hX hR k_X10_79 (hs.kd 11 rfl) (c_emit (h := h) (by exact hs) (c := c) (by omega) (by exact e0) _) rfl (by omega) rfl (Nat.le_of_ble_eq_true rfl) ⟨Nat.le_of_ble_eq_true rfl, Nat.le_of_ble_eq_true rfl⟩ qX10_readOne_53 ?_
    rintro _ _ ⟨rfl, rfl⟩
    have hp5 := hp0.emit (W i)
    refine v_aload_n hX rfl qX10_readOne_56 ?_
    refine v_aload_n hX rfl qX10_readOne_57 ?_
    refine v_getIv hX g_X10_74 (Or.inl rfl) (hs.kd 11 rfl) (show _ = nI i from hp0.2.1) qX10_readOne_58 ?_
    refine v_iconst hX li_1 qX10_readOne_61 ?_
    refine v_iadd hX qX10_readOne_62 ?_
    refine v_eqI (nI_1 i) ?_
    refine v_callVq hX hR k_X10_47 (hs.kd 11 rfl) (c_goTo (h := stI (stI h 16 c (W i)) 11 11 (nI (c + 1))) (by exact hs) (by exact (ht.fr hp5.1)) (i := i + 1) (by omega)) rfl (by omega) rfl (Nat.le_of_ble_eq_true rfl) ⟨Nat.le_of_ble_eq_true rfl, Nat.le_of_ble_eq_true rfl⟩ qX10_readOne_63 ?_
    rintro _ _ ⟨rfl, rfl⟩
    have hp6 := hp5.go (i + 1)
    refine v_iconst hX li_1 qX10_readOne_66 ?_
    refine v_zreturn hX (by first | exact Or.inl rfl | exact Or.inr rfl | exact bz01 _) qX10_readOne_67 (hP _ _ ?_)
    first
    | exact ⟨_, 1, rfl, rfl, PoR.of (r := .inr (i + 1, [W i], fun _ => W i)) ⟨rfl, hp6⟩ (if_pos q4)⟩
    | exact ⟨_, 1, rfl, rfl, PoR.of (r := .inr (i + 1, [W i], fun env => env (tn (-1 - W i)))) ⟨rfl, hp6⟩ (by unfold pOne; rw [if_neg q4_2, if_pos q4])⟩
  refine v_case (40 : Int32) (fun q4 => ?_) (fun q4_40 => ?_)
  · skip
    refine v_lookup (off := 69) hX 73 qX10_readOne_4 (by decide) (by first | exact (by rw [q4]; rfl) | rfl) rfl ?_
    refine v_aload_n hX rfl qX10_readOne_73 ?_
    have hin : i < n := kLt hK q4 (by decide)
    refine v_callVq hX hR k_X10_107 (hs.kd 11 rfl) (hbr _ (by exact i) (by exact c) (by exact hs) (by exact ht) (by exact hp0) (by omega) (by omega) (by exact hin)) rfl (by omega) rfl (Nat.le_of_ble_eq_true rfl) ⟨Nat.le_of_ble_eq_true rfl, Nat.le_of_ble_eq_true rfl⟩ qX10_readOne_74 ?_
    rintro _ _ ⟨σ1, x1, rfl, rfl, hp1⟩
    refine v_zreturn hX hp1.b qX10_readOne_77 (hP _ _ ?_)
    exact ⟨σ1, x1, rfl, rfl, hp1.of (by unfold pOne; rw [if_neg (by rw [q4]; decide), if_neg (by rw [q4]; decide), if_neg (by rw [q4]; decide), if_pos q4])⟩
  refine v_case (45 : Int32) (fun q4 => ?_) (fun q4_45 => ?_)
  · skip
    refine v_lookup (off := 64) hX 68 qX10_readOne_4 (by decide) (by first | exact (by rw [q4]; rfl) | rfl) rfl ?_
    refine v_aload_n hX rfl qX10_readOne_68 ?_
    have hin : i < n := kLt hK q4 (by decide)
    refine v_callVq hX hR k_X10_104 (hs.kd 11 rfl) (hng _ (by exact i) (by exact c) (by exact hs) (by exact ht) (by exact hp0) (by omega) (by omega) (by exact hin)) rfl (by omega) rfl (Nat.le_of_ble_eq_true rfl) ⟨Nat.le_of_ble_eq_true rfl, Nat.le_of_ble_eq_true rfl⟩ qX10_readOne_69 ?_
    rintro _ _ ⟨σ1, x1, rfl, rfl, hp1⟩
    refine v_zreturn hX hp1.b qX10_readOne_72 (hP _ _ ?_)
    exact ⟨σ1, x1, rfl, rfl, hp1.of (by unfold pOne; rw [if_neg (by rw [q4]; decide), if_neg (by rw [q4]; decide), if_pos q4])⟩
  refine v_lookup (off := 74) hX 78 qX10_readOne_4 (by decide) ?_ rfl ?_
  · have z2 := ne_i (2) (by decide) q4_2; have z3 := ne_i (3) (by decide) q4_3; have z40 := ne_i (40) (by decide) q4_40; have z45 := ne_i (45) (by decide) q4_45; refine lk_out _ (fun q hq => ?_); simp at hq; rcases hq with rfl | rfl | rfl | rfl <;> assumption
  refine v_aload_n hX rfl qX10_readOne_78 ?_
  refine v_callVq hX hR k_X10_110 (hs.kd 11 rfl) (c_refuse (by exact hs) (by exact ht) (by exact hi) (by exact hp0.2.1)) rfl (by omega) rfl (Nat.le_of_ble_eq_true rfl) ⟨Nat.le_of_ble_eq_true rfl, Nat.le_of_ble_eq_true rfl⟩ qX10_readOne_79 ?_
  rintro _ _ ⟨rfl, rfl⟩
  refine v_zreturn hX (by first | exact Or.inl rfl | exact Or.inr rfl | exact bz01 _) qX10_readOne_82 (hP _ _ ?_)
  exact ⟨(stI h 11 2 (nI (Pl i))).1, 0, rfl, rfl, PoR.of (r := .inl i) ⟨rfl, fun a k a1 a2 => by show hpI (stI _ _ _ _) _ _ = _; rw [hpI_st, if_neg (by omega)], rfl⟩ (by unfold pOne; rw [if_neg q4_2, if_neg q4_3, if_neg q4_45, if_neg q4_40])⟩
