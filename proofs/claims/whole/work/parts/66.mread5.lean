/-! the reference: not; all levels; a part; the whole text -/
theorem qX12_not_0 : Dq cX12_not 0 (.aload_n 0) 1 1 := ⟨by decide +kernel, rfl⟩
theorem qX12_not_1 : Dq cX12_not 1 (.bipush 110) 2 3 := ⟨by decide +kernel, rfl⟩
theorem qX12_not_3 : Dq cX12_not 3 (.bipush 111) 2 5 := ⟨by decide +kernel, rfl⟩
theorem qX12_not_5 : Dq cX12_not 5 (.bipush 116) 2 7 := ⟨by decide +kernel, rfl⟩
theorem qX12_not_7 : Dq cX12_not 7 (.iconst 0) 1 8 := ⟨by decide +kernel, rfl⟩
theorem qX12_not_8 : Dq cX12_not 8 (.iconst 0) 1 9 := ⟨by decide +kernel, rfl⟩
theorem qX12_not_9 : Dq cX12_not 9 (.iconst 0) 1 10 := ⟨by decide +kernel, rfl⟩
theorem qX12_not_10 : Dq cX12_not 10 (.iconst 0) 1 11 := ⟨by decide +kernel, rfl⟩
theorem qX12_not_11 : Dq cX12_not 11 (.iconst 0) 1 12 := ⟨by decide +kernel, rfl⟩
theorem qX12_not_12 : Dq cX12_not 12 (.invokevirtual 176) 3 15 := ⟨by decide +kernel, rfl⟩
theorem qX12_not_15 : Dq cX12_not 15 (.ifCond .eq 37) 3 18 := ⟨by decide +kernel, rfl⟩
theorem qX12_not_18 : Dq cX12_not 18 (.aload_n 0) 1 19 := ⟨by decide +kernel, rfl⟩
theorem qX12_not_19 : Dq cX12_not 19 (.invokevirtual 201) 3 22 := ⟨by decide +kernel, rfl⟩
theorem qX12_not_22 : Dq cX12_not 22 (.ifCond .ne 5) 3 25 := ⟨by decide +kernel, rfl⟩
theorem qX12_not_25 : Dq cX12_not 25 (.iconst 0) 1 26 := ⟨by decide +kernel, rfl⟩
theorem qX12_not_26 : Dq cX12_not 26 (.ireturn) 1 27 := ⟨by decide +kernel, rfl⟩
theorem qX12_not_27 : Dq cX12_not 27 (.aload_n 0) 1 28 := ⟨by decide +kernel, rfl⟩
theorem qX12_not_28 : Dq cX12_not 28 (.invokevirtual 220) 3 31 := ⟨by decide +kernel, rfl⟩
theorem qX12_not_31 : Dq cX12_not 31 (.istore_n 1) 1 32 := ⟨by decide +kernel, rfl⟩
theorem qX12_not_32 : Dq cX12_not 32 (.aload_n 0) 1 33 := ⟨by decide +kernel, rfl⟩
theorem qX12_not_33 : Dq cX12_not 33 (.dup) 1 34 := ⟨by decide +kernel, rfl⟩
theorem qX12_not_34 : Dq cX12_not 34 (.getfield 167) 3 37 := ⟨by decide +kernel, rfl⟩
theorem qX12_not_37 : Dq cX12_not 37 (.iconst 1) 1 38 := ⟨by decide +kernel, rfl⟩
theorem qX12_not_38 : Dq cX12_not 38 (.isub) 1 39 := ⟨by decide +kernel, rfl⟩
theorem qX12_not_39 : Dq cX12_not 39 (.putfield 167) 3 42 := ⟨by decide +kernel, rfl⟩
theorem qX12_not_42 : Dq cX12_not 42 (.iload_n 1) 1 43 := ⟨by decide +kernel, rfl⟩
theorem qX12_not_43 : Dq cX12_not 43 (.ifCond .ne 7) 3 46 := ⟨by decide +kernel, rfl⟩
theorem qX12_not_46 : Dq cX12_not 46 (.iconst 1) 1 47 := ⟨by decide +kernel, rfl⟩
theorem qX12_not_47 : Dq cX12_not 47 (.goto 4) 3 50 := ⟨by decide +kernel, rfl⟩
theorem qX12_not_50 : Dq cX12_not 50 (.iconst 0) 1 51 := ⟨by decide +kernel, rfl⟩
theorem qX12_not_51 : Dq cX12_not 51 (.ireturn) 1 52 := ⟨by decide +kernel, rfl⟩
theorem qX12_not_52 : Dq cX12_not 52 (.aload_n 0) 1 53 := ⟨by decide +kernel, rfl⟩
theorem qX12_not_53 : Dq cX12_not 53 (.invokevirtual 223) 3 56 := ⟨by decide +kernel, rfl⟩
theorem qX12_not_56 : Dq cX12_not 56 (.istore_n 1) 1 57 := ⟨by decide +kernel, rfl⟩
theorem qX12_not_57 : Dq cX12_not 57 (.aload_n 0) 1 58 := ⟨by decide +kernel, rfl⟩
theorem qX12_not_58 : Dq cX12_not 58 (.bipush 60) 2 60 := ⟨by decide +kernel, rfl⟩
theorem qX12_not_60 : Dq cX12_not 60 (.invokevirtual 198) 3 63 := ⟨by decide +kernel, rfl⟩
theorem qX12_not_63 : Dq cX12_not 63 (.ifCond .ne 14) 3 66 := ⟨by decide +kernel, rfl⟩
theorem qX12_not_66 : Dq cX12_not 66 (.aload_n 0) 1 67 := ⟨by decide +kernel, rfl⟩
theorem qX12_not_67 : Dq cX12_not 67 (.bipush 61) 2 69 := ⟨by decide +kernel, rfl⟩
theorem qX12_not_69 : Dq cX12_not 69 (.invokevirtual 198) 3 72 := ⟨by decide +kernel, rfl⟩
theorem qX12_not_72 : Dq cX12_not 72 (.ifCond .ne 5) 3 75 := ⟨by decide +kernel, rfl⟩
theorem qX12_not_75 : Dq cX12_not 75 (.iload_n 1) 1 76 := ⟨by decide +kernel, rfl⟩
theorem qX12_not_76 : Dq cX12_not 76 (.ireturn) 1 77 := ⟨by decide +kernel, rfl⟩
theorem qX12_not_77 : Dq cX12_not 77 (.aload_n 0) 1 78 := ⟨by decide +kernel, rfl⟩
theorem qX12_not_78 : Dq cX12_not 78 (.getfield 150) 3 81 := ⟨by decide +kernel, rfl⟩
theorem qX12_not_81 : Dq cX12_not 81 (.ldc2_w 226) 3 84 := ⟨by decide +kernel, rfl⟩
theorem qX12_not_84 : Dq cX12_not 84 (.lcmp) 1 85 := ⟨by decide +kernel, rfl⟩
theorem qX12_not_85 : Dq cX12_not 85 (.ifCond .ne 7) 3 88 := ⟨by decide +kernel, rfl⟩
theorem qX12_not_88 : Dq cX12_not 88 (.iconst 1) 1 89 := ⟨by decide +kernel, rfl⟩
theorem qX12_not_89 : Dq cX12_not 89 (.goto 4) 3 92 := ⟨by decide +kernel, rfl⟩
theorem qX12_not_92 : Dq cX12_not 92 (.iconst 0) 1 93 := ⟨by decide +kernel, rfl⟩
theorem qX12_not_93 : Dq cX12_not 93 (.istore_n 2) 1 94 := ⟨by decide +kernel, rfl⟩
theorem qX12_not_94 : Dq cX12_not 94 (.aload_n 0) 1 95 := ⟨by decide +kernel, rfl⟩
theorem qX12_not_95 : Dq cX12_not 95 (.invokevirtual 173) 3 98 := ⟨by decide +kernel, rfl⟩
theorem qX12_not_98 : Dq cX12_not 98 (.aload_n 0) 1 99 := ⟨by decide +kernel, rfl⟩
theorem qX12_not_99 : Dq cX12_not 99 (.invokevirtual 223) 3 102 := ⟨by decide +kernel, rfl⟩
theorem qX12_not_102 : Dq cX12_not 102 (.istore_n 3) 1 103 := ⟨by decide +kernel, rfl⟩
theorem qX12_not_103 : Dq cX12_not 103 (.iload_n 2) 1 104 := ⟨by decide +kernel, rfl⟩
theorem qX12_not_104 : Dq cX12_not 104 (.ifCond .eq 11) 3 107 := ⟨by decide +kernel, rfl⟩
theorem qX12_not_107 : Dq cX12_not 107 (.iload_n 1) 1 108 := ⟨by decide +kernel, rfl⟩
theorem qX12_not_108 : Dq cX12_not 108 (.iload_n 3) 1 109 := ⟨by decide +kernel, rfl⟩
theorem qX12_not_109 : Dq cX12_not 109 (.if_icmp .ge 15) 3 112 := ⟨by decide +kernel, rfl⟩
theorem qX12_not_112 : Dq cX12_not 112 (.goto 8) 3 115 := ⟨by decide +kernel, rfl⟩
theorem qX12_not_115 : Dq cX12_not 115 (.iload_n 1) 1 116 := ⟨by decide +kernel, rfl⟩
theorem qX12_not_116 : Dq cX12_not 116 (.iload_n 3) 1 117 := ⟨by decide +kernel, rfl⟩
theorem qX12_not_117 : Dq cX12_not 117 (.if_icmp .ne 7) 3 120 := ⟨by decide +kernel, rfl⟩
theorem qX12_not_120 : Dq cX12_not 120 (.iconst 1) 1 121 := ⟨by decide +kernel, rfl⟩
theorem qX12_not_121 : Dq cX12_not 121 (.goto 4) 3 124 := ⟨by decide +kernel, rfl⟩
theorem qX12_not_124 : Dq cX12_not 124 (.iconst 0) 1 125 := ⟨by decide +kernel, rfl⟩
theorem qX12_not_125 : Dq cX12_not 125 (.ireturn) 1 126 := ⟨by decide +kernel, rfl⟩
set_option maxRecDepth 100000 in
set_option maxHeartbeats 4000000 in
theorem m_not {G : Glb} {by' : Nat → Int32} {sz t d o : Nat} (hd : 10 ≤ d) {room : Bool} (hroom : room = true ↔ o < 5) (ho5 : o ≤ 5) {d2 : Nat} (hd2 : d2 ≤ d) {ln sub : Nat → PR} (hln : o < 5 → MSub G by' sz t m_X12_not d2 (o + 1) ln) (hsub : MSub G by' sz t m_X12_added d o sub) (h : AHp) (i : Nat) (env : Nat → Int32) (hm : ShM h) (ha : MAt by' sz t o i h) (he : EnvM h env) : CP G m_X12_not (d + 1) 0 0 [.ref 38] h (fun r h' => ∃ σ J x, r = some (.int x) ∧ h' = mkH h σ J ∧ FrE h σ J ∧ PoM by' sz t o env h σ J x (pNot (tkK by' sz) room ln (pCmp (tkK by' sz) sub) i)) := by
  suffices key : ∀ P : Option Value → AHp → Prop, (∀ r h', (∃ σ J x, r = some (.int x) ∧ h' = mkH h σ J ∧ FrE h σ J ∧ PoM by' sz t o env h σ J x (pNot (tkK by' sz) room ln (pCmp (tkK by' sz) sub) i)) → P r h') → CP G m_X12_not (d + 1) 0 0 [.ref 38] h P from key _ (fun _ _ z => z)
  intro P hP
  refine CP.of (by decide +kernel) (Nat.le_of_ble_eq_true rfl) fun X hX hR hnm => ?_
  show V X G 4 0 0 _ 0 [some (.ref 38), none, none, none] [] h
  refine v_aload_n hX rfl qX12_not_0 ?_
  refine v_bipush hX lb_110 qX12_not_1 ?_
  refine v_bipush hX lb_111 qX12_not_3 ?_
  refine v_bipush hX lb_116 qX12_not_5 ?_
  refine v_iconst hX li_0 qX12_not_7 ?_
  refine v_iconst hX li_0 qX12_not_8 ?_
  refine v_iconst hX li_0 qX12_not_9 ?_
  refine v_iconst hX li_0 qX12_not_10 ?_
  refine v_iconst hX li_0 qX12_not_11 ?_
  refine v_callVq hX hR k_X12_176 (hm.kd 38 rfl) (m_wdA (by exact hm) (by exact ha) (c := 9) (w := w_not) (by decide)) rfl (by omega) rfl (Nat.le_of_ble_eq_true rfl) ⟨Nat.le_of_ble_eq_true rfl, Nat.le_of_ble_eq_true rfl⟩ qX12_not_12 ?_
  rintro _ _ ⟨rfl, rfl⟩
  first | refine v_if_eqB hX 52 qX12_not_15 rfl (fun q15 => ?_) (fun q15 => ?_) | refine v_if_eq hX 52 qX12_not_15 rfl (fun q15 => ?_) (fun q15 => ?_)
  · skip
    refine v_aload_n hX rfl qX12_not_52 ?_
    refine v_callVq hX hR k_X12_223 (hm.kd 38 rfl) (hsub _ (by exact i) (by exact env) (by exact hm) (by exact ha) (by exact he)) rfl (by omega) rfl (Nat.le_of_ble_eq_true rfl) ⟨Nat.le_of_ble_eq_true rfl, Nat.le_of_ble_eq_true rfl⟩ qX12_not_53 ?_
    rintro _ _ ⟨σ1, J1, x1, rfl, rfl, hf1, hp1⟩
    rcases e1 : sub i with g | ⟨j, cs, v⟩
    · rw [e1] at hp1
      refine v_istore_n hX (Nat.le_of_ble_eq_true rfl) rfl (ls' := [some _, some _, none, none]) rfl qX12_not_56 ?_
      refine v_aload_n hX rfl qX12_not_57 ?_
      refine v_bipush hX lb_60 qX12_not_58 ?_
      refine v_callVq hX hR k_X12_198 (hm.kd 38 rfl) (m_sgB (by exact hm) (by exact hp1.1) (by exact 60)) rfl (by omega) rfl (Nat.le_of_ble_eq_true rfl) ⟨Nat.le_of_ble_eq_true rfl, Nat.le_of_ble_eq_true rfl⟩ qX12_not_60 ?_
      rintro _ _ ⟨rfl, rfl⟩
      first | refine v_if_neB hX 77 qX12_not_63 rfl (fun q63 => ?_) (fun q63 => ?_) | refine v_if_ne hX 77 qX12_not_63 rfl (fun q63 => ?_) (fun q63 => ?_)
      · exact absurd rfl q63
      · skip
        refine v_aload_n hX rfl qX12_not_66 ?_
        refine v_bipush hX lb_61 qX12_not_67 ?_
        refine v_callVq hX hR k_X12_198 (hm.kd 38 rfl) (m_sgB (by exact hm) (by exact hp1.1) (by exact 61)) rfl (by omega) rfl (Nat.le_of_ble_eq_true rfl) ⟨Nat.le_of_ble_eq_true rfl, Nat.le_of_ble_eq_true rfl⟩ qX12_not_69 ?_
        rintro _ _ ⟨rfl, rfl⟩
        first | refine v_if_neB hX 77 qX12_not_72 rfl (fun q72 => ?_) (fun q72 => ?_) | refine v_if_ne hX 77 qX12_not_72 rfl (fun q72 => ?_) (fun q72 => ?_)
        · exact absurd rfl q72
        · skip
          refine v_iload_n hX rfl qX12_not_75 ?_
          refine v_ireturn hX qX12_not_76 (hP _ _ ?_)
          exact ⟨σ1, J1, x1, rfl, rfl, hf1, PoM.of (r := .inl g) hp1 (by unfold pNot; rw [if_neg q15]; unfold pCmp; rw [e1])⟩
    · rw [e1] at hp1
      obtain ⟨hx1, ha1⟩ := hp1
      refine v_istore_n hX (Nat.le_of_ble_eq_true rfl) rfl (ls' := [some _, some _, none, none]) rfl qX12_not_56 ?_
      refine v_aload_n hX rfl qX12_not_57 ?_
      refine v_bipush hX lb_60 qX12_not_58 ?_
      refine v_callVq hX hR k_X12_198 (hm.kd 38 rfl) (m_sgA (by exact hm) (by exact ha1) (s := 60) (by decide)) rfl (by omega) rfl (Nat.le_of_ble_eq_true rfl) ⟨Nat.le_of_ble_eq_true rfl, Nat.le_of_ble_eq_true rfl⟩ qX12_not_60 ?_
      rintro _ _ ⟨rfl, rfl⟩
      first | refine v_if_neB hX 77 qX12_not_63 rfl (fun q63 => ?_) (fun q63 => ?_) | refine v_if_ne hX 77 qX12_not_63 rfl (fun q63 => ?_) (fun q63 => ?_)
      · obtain ⟨cc, hcc, hto⟩ : ∃ cc : Int32, cc = -10 ∧ pNot (tkK by' sz) room ln (pCmp (tkK by' sz) sub) i = biP cc cs v (sub (j + 1)) := ⟨_, rfl, (by unfold pNot; rw [if_neg q15]; unfold pCmp; rw [e1]; show (if tkK by' sz j = 60 then _ else if tkK by' sz j = 61 then _ else _) = _; rw [if_pos q63])⟩
        have h3 := (sg_iff (c := 60) (by decide)).mpr q63
        have hw9 : hpJ (mkH h σ1 J1) 38 26 = 60 := by rw [(ha1.2.2.2.2.2.2 h3.1).2, h3.2]; rfl
        have hjn : j < nT by' sz := kLt (fun i h => tkK_0 h) q63 (by decide)
        refine v_aload_n hX rfl qX12_not_77 ?_
        refine v_getJ hX g_X12_150 (hm.kd 38 rfl) qX12_not_78 ?_
        refine v_ldc2 hX c_X12_226 qX12_not_81 ?_
        refine v_lcmp hX qX12_not_84 ?_
        first | refine v_if_neB hX 92 qX12_not_85 rfl (fun q85 => ?_) (fun q85 => ?_) | refine v_if_ne hX 92 qX12_not_85 rfl (fun q85 => ?_) (fun q85 => ?_)
        · exact absurd ((lg_cmp_eq _ _).mpr hw9) q85
        · skip
          refine v_iconst hX li_1 qX12_not_88 ?_
          refine v_goto hX 93 qX12_not_89 rfl ?_
          refine v_istore_n hX (Nat.le_of_ble_eq_true rfl) rfl (ls' := [some _, some _, some _, none]) rfl qX12_not_93 ?_
          refine v_aload_n hX rfl qX12_not_94 ?_
          refine v_callVq hX hR k_X12_173 (hm.kd 38 rfl) (m_nx (by exact hm) (by exact ha1) (by exact (Or.inr (Or.inr h3.1)))) rfl (by omega) rfl (Nat.le_of_ble_eq_true rfl) ⟨Nat.le_of_ble_eq_true rfl, Nat.le_of_ble_eq_true rfl⟩ qX12_not_95 ?_
          rintro _ _ ⟨rfl, σ3, J3, rfl, hf3, ha3⟩
          refine v_aload_n hX rfl qX12_not_98 ?_
          refine v_callVq hX hR k_X12_223 (hm.kd 38 rfl) (hsub _ (by exact (j + 1)) (by exact env) (by exact hm) (by exact ha3) (by exact (hf3.env (hf1.env he)))) rfl (by omega) rfl (Nat.le_of_ble_eq_true rfl) ⟨Nat.le_of_ble_eq_true rfl, Nat.le_of_ble_eq_true rfl⟩ qX12_not_99 ?_
          rintro _ _ ⟨σ4, J4, x4, rfl, rfl, hf4, hp4⟩
          refine v_istore_n hX (Nat.le_of_ble_eq_true rfl) rfl (ls' := [some _, some _, some _, some _]) rfl qX12_not_102 ?_
          refine v_iload_n hX rfl qX12_not_103 ?_
          first | refine v_if_eqB hX 115 qX12_not_104 rfl (fun q104 => ?_) (fun q104 => ?_) | refine v_if_eq hX 115 qX12_not_104 rfl (fun q104 => ?_) (fun q104 => ?_)
          · exact absurd q104 (by decide)
          · skip
            refine v_iload_n hX rfl qX12_not_107 ?_
            refine v_iload_n hX rfl qX12_not_108 ?_
            refine v_icmp_geS hX 124 qX12_not_109 rfl (fun q109 => ?_) (fun q109 => ?_)
            · have hv : (0 : Int32) = joinI cc x1 x4 := by rw [hcc]; exact (show (0 : Int32) = bz (x1 < x4) from (bz_f (Int32.not_lt.mpr q109)).symm)
              refine v_iconst hX li_0 qX12_not_124 ?_
              refine v_ireturn hX qX12_not_125 (hP _ _ ?_)
              rcases e4 : sub (j + 1) with g | ⟨j4, cs4, v4⟩
              · rw [e4] at hp4
                exact ⟨σ4, J4, _, rfl, rfl, FrE.tr hf1 (FrE.tr hf3 hf4), PoM.of (r := .inl g) hp4 (by rw [hto, e4]; rfl)⟩
              · rw [e4] at hp4
                obtain ⟨hx4, ha4⟩ := hp4
                exact ⟨σ4, J4, _, rfl, rfl, FrE.tr hf1 (FrE.tr hf3 hf4), PoM.of (r := .inr (j4, cs ++ cs4 ++ [cc], fun env => joinI cc (v env) (v4 env))) ⟨(by show _ = joinI cc (v env) (v4 env); rw [← hx1, ← hx4]; exact hv), ha4⟩ (by rw [hto, e4]; rfl)⟩
            · have hv : (1 : Int32) = joinI cc x1 x4 := by rw [hcc]; exact (show (1 : Int32) = bz (x1 < x4) from (bz_t q109).symm)
              refine v_goto hX 120 qX12_not_112 rfl ?_
              refine v_iconst hX li_1 qX12_not_120 ?_
              refine v_goto hX 125 qX12_not_121 rfl ?_
              refine v_ireturn hX qX12_not_125 (hP _ _ ?_)
              rcases e4 : sub (j + 1) with g | ⟨j4, cs4, v4⟩
              · rw [e4] at hp4
                exact ⟨σ4, J4, _, rfl, rfl, FrE.tr hf1 (FrE.tr hf3 hf4), PoM.of (r := .inl g) hp4 (by rw [hto, e4]; rfl)⟩
              · rw [e4] at hp4
                obtain ⟨hx4, ha4⟩ := hp4
                exact ⟨σ4, J4, _, rfl, rfl, FrE.tr hf1 (FrE.tr hf3 hf4), PoM.of (r := .inr (j4, cs ++ cs4 ++ [cc], fun env => joinI cc (v env) (v4 env))) ⟨(by show _ = joinI cc (v env) (v4 env); rw [← hx1, ← hx4]; exact hv), ha4⟩ (by rw [hto, e4]; rfl)⟩
      · skip
        refine v_aload_n hX rfl qX12_not_66 ?_
        refine v_bipush hX lb_61 qX12_not_67 ?_
        refine v_callVq hX hR k_X12_198 (hm.kd 38 rfl) (m_sgA (by exact hm) (by exact ha1) (s := 61) (by decide)) rfl (by omega) rfl (Nat.le_of_ble_eq_true rfl) ⟨Nat.le_of_ble_eq_true rfl, Nat.le_of_ble_eq_true rfl⟩ qX12_not_69 ?_
        rintro _ _ ⟨rfl, rfl⟩
        first | refine v_if_neB hX 77 qX12_not_72 rfl (fun q72 => ?_) (fun q72 => ?_) | refine v_if_ne hX 77 qX12_not_72 rfl (fun q72 => ?_) (fun q72 => ?_)
        · obtain ⟨cc, hcc, hto⟩ : ∃ cc : Int32, cc = -11 ∧ pNot (tkK by' sz) room ln (pCmp (tkK by' sz) sub) i = biP cc cs v (sub (j + 1)) := ⟨_, rfl, (by unfold pNot; rw [if_neg q15]; unfold pCmp; rw [e1]; show (if tkK by' sz j = 60 then _ else if tkK by' sz j = 61 then _ else _) = _; rw [if_neg q63, if_pos q72])⟩
          have h3 := (sg_iff (c := 61) (by decide)).mpr q72
          have hw9 : hpJ (mkH h σ1 J1) 38 26 = 61 := by rw [(ha1.2.2.2.2.2.2 h3.1).2, h3.2]; rfl
          have hjn : j < nT by' sz := kLt (fun i h => tkK_0 h) q72 (by decide)
          refine v_aload_n hX rfl qX12_not_77 ?_
          refine v_getJ hX g_X12_150 (hm.kd 38 rfl) qX12_not_78 ?_
          refine v_ldc2 hX c_X12_226 qX12_not_81 ?_
          refine v_lcmp hX qX12_not_84 ?_
          first | refine v_if_neB hX 92 qX12_not_85 rfl (fun q85 => ?_) (fun q85 => ?_) | refine v_if_ne hX 92 qX12_not_85 rfl (fun q85 => ?_) (fun q85 => ?_)
          · skip
            refine v_iconst hX li_0 qX12_not_92 ?_
            refine v_istore_n hX (Nat.le_of_ble_eq_true rfl) rfl (ls' := [some _, some _, some _, none]) rfl qX12_not_93 ?_
            refine v_aload_n hX rfl qX12_not_94 ?_
            refine v_callVq hX hR k_X12_173 (hm.kd 38 rfl) (m_nx (by exact hm) (by exact ha1) (by exact (Or.inr (Or.inr h3.1)))) rfl (by omega) rfl (Nat.le_of_ble_eq_true rfl) ⟨Nat.le_of_ble_eq_true rfl, Nat.le_of_ble_eq_true rfl⟩ qX12_not_95 ?_
            rintro _ _ ⟨rfl, σ3, J3, rfl, hf3, ha3⟩
            refine v_aload_n hX rfl qX12_not_98 ?_
            refine v_callVq hX hR k_X12_223 (hm.kd 38 rfl) (hsub _ (by exact (j + 1)) (by exact env) (by exact hm) (by exact ha3) (by exact (hf3.env (hf1.env he)))) rfl (by omega) rfl (Nat.le_of_ble_eq_true rfl) ⟨Nat.le_of_ble_eq_true rfl, Nat.le_of_ble_eq_true rfl⟩ qX12_not_99 ?_
            rintro _ _ ⟨σ4, J4, x4, rfl, rfl, hf4, hp4⟩
            refine v_istore_n hX (Nat.le_of_ble_eq_true rfl) rfl (ls' := [some _, some _, some _, some _]) rfl qX12_not_102 ?_
            refine v_iload_n hX rfl qX12_not_103 ?_
            first | refine v_if_eqB hX 115 qX12_not_104 rfl (fun q104 => ?_) (fun q104 => ?_) | refine v_if_eq hX 115 qX12_not_104 rfl (fun q104 => ?_) (fun q104 => ?_)
            · skip
              refine v_iload_n hX rfl qX12_not_115 ?_
              refine v_iload_n hX rfl qX12_not_116 ?_
              refine v_icmp_ne hX 124 qX12_not_117 rfl (fun q117 => ?_) (fun q117 => ?_)
              · have hv : (0 : Int32) = joinI cc x1 x4 := by rw [hcc]; exact (show (0 : Int32) = bz (x1 = x4) from (bz_f q117).symm)
                refine v_iconst hX li_0 qX12_not_124 ?_
                refine v_ireturn hX qX12_not_125 (hP _ _ ?_)
                rcases e4 : sub (j + 1) with g | ⟨j4, cs4, v4⟩
                · rw [e4] at hp4
                  exact ⟨σ4, J4, _, rfl, rfl, FrE.tr hf1 (FrE.tr hf3 hf4), PoM.of (r := .inl g) hp4 (by rw [hto, e4]; rfl)⟩
                · rw [e4] at hp4
                  obtain ⟨hx4, ha4⟩ := hp4
                  exact ⟨σ4, J4, _, rfl, rfl, FrE.tr hf1 (FrE.tr hf3 hf4), PoM.of (r := .inr (j4, cs ++ cs4 ++ [cc], fun env => joinI cc (v env) (v4 env))) ⟨(by show _ = joinI cc (v env) (v4 env); rw [← hx1, ← hx4]; exact hv), ha4⟩ (by rw [hto, e4]; rfl)⟩
              · have hv : (1 : Int32) = joinI cc x1 x4 := by rw [hcc]; exact (show (1 : Int32) = bz (x1 = x4) from (bz_t q117).symm)
                refine v_iconst hX li_1 qX12_not_120 ?_
                refine v_goto hX 125 qX12_not_121 rfl ?_
                refine v_ireturn hX qX12_not_125 (hP _ _ ?_)
                rcases e4 : sub (j + 1) with g | ⟨j4, cs4, v4⟩
                · rw [e4] at hp4
                  exact ⟨σ4, J4, _, rfl, rfl, FrE.tr hf1 (FrE.tr hf3 hf4), PoM.of (r := .inl g) hp4 (by rw [hto, e4]; rfl)⟩
                · rw [e4] at hp4
                  obtain ⟨hx4, ha4⟩ := hp4
                  exact ⟨σ4, J4, _, rfl, rfl, FrE.tr hf1 (FrE.tr hf3 hf4), PoM.of (r := .inr (j4, cs ++ cs4 ++ [cc], fun env => joinI cc (v env) (v4 env))) ⟨(by show _ = joinI cc (v env) (v4 env); rw [← hx1, ← hx4]; exact hv), ha4⟩ (by rw [hto, e4]; rfl)⟩
            · exact absurd rfl q104
          · exact absurd (hw9.symm.trans ((lg_cmp_eq _ _).mp q85)) (by decide)
        · skip
          refine v_iload_n hX rfl qX12_not_75 ?_
          refine v_ireturn hX qX12_not_76 (hP _ _ ?_)
          exact ⟨σ1, J1, x1, rfl, rfl, hf1, PoM.of (r := .inr (j, cs, v)) ⟨hx1, ha1⟩ (by unfold pNot; rw [if_neg q15]; unfold pCmp; rw [e1]; show (if tkK by' sz j = 60 then _ else if tkK by' sz j = 61 then _ else _) = _; rw [if_neg q63, if_neg q72])⟩
  · have hK : tkK by' sz i = 9 := q15
    refine v_aload_n hX rfl qX12_not_18 ?_
    refine v_callVq hX hR k_X12_201 (hm.kd 38 rfl) (m_opens (by exact hm) (by exact ha) (by exact ho5) (by exact (Or.inl (MAt.wd1 (c := 9) (w := w_not) (by decide) hK)))) rfl (by omega) rfl (Nat.le_of_ble_eq_true rfl) ⟨Nat.le_of_ble_eq_true rfl, Nat.le_of_ble_eq_true rfl⟩ qX12_not_19 ?_
    rintro _ _ (⟨hr, rfl, σ2, J2, rfl, hf2, ha2⟩ | ⟨hr, rfl, rfl⟩)
    · have he2 := hf2.env he
      first | refine v_if_neB hX 27 qX12_not_22 rfl (fun q22 => ?_) (fun q22 => ?_) | refine v_if_ne hX 27 qX12_not_22 rfl (fun q22 => ?_) (fun q22 => ?_)
      · skip
        refine v_aload_n hX rfl qX12_not_27 ?_
        refine v_callVq hX hR k_X12_220 (hm.kd 38 rfl) ((hln hr) _ (by exact (i + 1)) (by exact env) (by exact hm) (by exact ha2) (by exact he2)) rfl (by omega) rfl (Nat.le_of_ble_eq_true rfl) ⟨Nat.le_of_ble_eq_true rfl, Nat.le_of_ble_eq_true rfl⟩ qX12_not_28 ?_
        rintro _ _ ⟨σ3, J3, x3, rfl, rfl, hf3, hp3⟩
        rcases e3 : ln (i + 1) with g | ⟨j3, cs3, v3⟩
        · rw [e3] at hp3
          refine v_istore_n hX (Nat.le_of_ble_eq_true rfl) rfl (ls' := [some _, some _, none, none]) rfl qX12_not_31 ?_
          refine v_aload_n hX rfl qX12_not_32 ?_
          refine v_dup hX rfl qX12_not_33 ?_
          refine v_getI hX g_X12_167 (Or.inl rfl) (hm.kd 38 rfl) qX12_not_34 ?_
          refine v_iconst hX li_1 qX12_not_37 ?_
          refine v_isub hX qX12_not_38 ?_
          refine v_putI hX p_X12_167 (hm.kd 38 rfl) (Or.inl rfl) qX12_not_39 ?_
          refine v_iload_n hX rfl qX12_not_42 ?_
          first | refine v_if_neB hX 50 qX12_not_43 rfl (fun q43 => ?_) (fun q43 => ?_) | refine v_if_ne hX 50 qX12_not_43 rfl (fun q43 => ?_) (fun q43 => ?_)
          · skip
            refine v_iconst hX li_0 qX12_not_50 ?_
            refine v_ireturn hX qX12_not_51 (hP _ _ ?_)
            exact ⟨(stI (mkH h σ3 J3) 38 27 (hpI (mkH h σ3 J3) 38 27 - 1)).1, J3, _, rfl, rfl, ⟨fun a k hk => by show hpI (stI _ _ _ _) _ _ = _; rw [hpI_st, if_neg (by omega)]; exact (hf2.tr hf3).1 a k hk, (hf2.tr hf3).2⟩, PoM.of (r := .inl g) hp3 (by unfold pNot; rw [if_pos hK, hroom.mpr hr, e3]; rfl)⟩
          · skip
            refine v_iconst hX li_1 qX12_not_46 ?_
            refine v_goto hX 51 qX12_not_47 rfl ?_
            refine v_ireturn hX qX12_not_51 (hP _ _ ?_)
            exact ⟨(stI (mkH h σ3 J3) 38 27 (hpI (mkH h σ3 J3) 38 27 - 1)).1, J3, _, rfl, rfl, ⟨fun a k hk => by show hpI (stI _ _ _ _) _ _ = _; rw [hpI_st, if_neg (by omega)]; exact (hf2.tr hf3).1 a k hk, (hf2.tr hf3).2⟩, PoM.of (r := .inl g) hp3 (by unfold pNot; rw [if_pos hK, hroom.mpr hr, e3]; rfl)⟩
        · rw [e3] at hp3
          obtain ⟨hx3, ha3⟩ := hp3
          refine v_istore_n hX (Nat.le_of_ble_eq_true rfl) rfl (ls' := [some _, some _, none, none]) rfl qX12_not_31 ?_
          refine v_aload_n hX rfl qX12_not_32 ?_
          refine v_dup hX rfl qX12_not_33 ?_
          refine v_getIv hX g_X12_167 (Or.inl rfl) (hm.kd 38 rfl) (show _ = nI (o + 1) from ha3.1.2.2.2.2.2.1) qX12_not_34 ?_
          refine v_iconst hX li_1 qX12_not_37 ?_
          refine v_isub hX qX12_not_38 ?_
          refine v_eqI (nI_pred o) ?_
          refine v_putI hX p_X12_167 (hm.kd 38 rfl) (Or.inl rfl) qX12_not_39 ?_
          refine v_iload_n hX rfl qX12_not_42 ?_
          first | refine v_if_neB hX 50 qX12_not_43 rfl (fun q43 => ?_) (fun q43 => ?_) | refine v_if_ne hX 50 qX12_not_43 rfl (fun q43 => ?_) (fun q43 => ?_)
          · have hv : (0 : Int32) = bz (x3 = 0) := (bz_f q43).symm
            refine v_iconst hX li_0 qX12_not_50 ?_
            refine v_ireturn hX qX12_not_51 (hP _ _ ?_)
            exact ⟨(stI (mkH h σ3 J3) 38 27 (nI o)).1, J3, _, rfl, rfl, ⟨fun a k hk => by show hpI (stI _ _ _ _) _ _ = _; rw [hpI_st, if_neg (by omega)]; exact (hf2.tr hf3).1 a k hk, (hf2.tr hf3).2⟩, PoM.of (r := .inr (j3, cs3 ++ [-9], fun env => bz (v3 env = 0))) ⟨(by show _ = bz (v3 env = 0); rw [← hx3]; exact hv), ha3.opn o⟩ (by unfold pNot; rw [if_pos hK, hroom.mpr hr, e3]; rfl)⟩
          · have hv : (1 : Int32) = bz (x3 = 0) := (bz_t q43).symm
            refine v_iconst hX li_1 qX12_not_46 ?_
            refine v_goto hX 51 qX12_not_47 rfl ?_
            refine v_ireturn hX qX12_not_51 (hP _ _ ?_)
            exact ⟨(stI (mkH h σ3 J3) 38 27 (nI o)).1, J3, _, rfl, rfl, ⟨fun a k hk => by show hpI (stI _ _ _ _) _ _ = _; rw [hpI_st, if_neg (by omega)]; exact (hf2.tr hf3).1 a k hk, (hf2.tr hf3).2⟩, PoM.of (r := .inr (j3, cs3 ++ [-9], fun env => bz (v3 env = 0))) ⟨(by show _ = bz (v3 env = 0); rw [← hx3]; exact hv), ha3.opn o⟩ (by unfold pNot; rw [if_pos hK, hroom.mpr hr, e3]; rfl)⟩
      · exact absurd q22 (by decide)
    · skip
      first | refine v_if_neB hX 27 qX12_not_22 rfl (fun q22 => ?_) (fun q22 => ?_) | refine v_if_ne hX 27 qX12_not_22 rfl (fun q22 => ?_) (fun q22 => ?_)
      · exact absurd rfl q22
      · skip
        refine v_iconst hX li_0 qX12_not_25 ?_
        refine v_ireturn hX qX12_not_26 (hP _ _ ?_)
        exact ⟨(stI (stI h 38 28 1) 38 29 (nI (pl by' sz i))).1, h.2.2.1, 0, rfl, rfl, ⟨fun a k hk => by show hpI (stI _ _ _ _) _ _ = _; rw [hpI_st, if_neg (by omega), hpI_st, if_neg (by omega)], fun _ _ => rfl⟩, PoM.of (r := .inl i) ⟨rfl, rfl⟩ (by unfold pNot; rw [if_pos hK, Bool.eq_false_iff.mpr (fun z => hr (hroom.mp z))]; rfl)⟩
section LVM
variable {G : Glb} {by' : Nat → Int32} {sz t : Nat}
theorem tk_h2 : ∀ i, tkK by' sz i = 2 → 0 ≤ tkW by' sz i := fun i h => by
  obtain ⟨h1, h2, h3, h4⟩ := tK_2 h
  show 0 ≤ (tK by' sz (pl by' sz i)).2
  rw [h4]
  exact Int32.not_lt.mp (nI_pos (by have := nv_9999 h3; omega))
theorem tk_h3 : ∀ i, tkK by' sz i = 3 → -6 ≤ tkW by' sz i ∧ tkW by' sz i < 0 := fun i h => by
  obtain ⟨h1, h2, h3, h4⟩ := tK_3 h
  show -6 ≤ (tK by' sz (pl by' sz i)).2 ∧ (tK by' sz (pl by' sz i)).2 < 0
  rw [h4]
  exact (nameK_in _).resolve_left h3
abbrev tLev (by' : Nat → Int32) (sz k : Nat) : (Nat → PR) × (Nat → PR) × (Nat → PR) := lev (tkK by' sz) (tkW by' sz) (nT by' sz) k
theorem t_hK : ∀ i, nT by' sz ≤ i → tkK by' sz i = 0 := fun _ h => tkK_0 h
theorem m_lvl {room : Bool} {l1 ln lo : Nat → PR} {o e N : Nat} (hroom : room = true ↔ o < 5) (ho5 : o ≤ 5) (he : 10 ≤ e) (hN : 1 ≤ N) (c1 : o < 5 → MSub G by' sz t m_X12_atom e (o + 1) l1) (cn : o < 5 → MSub G by' sz t m_X12_not (e + 3) (o + 1) ln) (co : o < 5 → MSub G by' sz t m_X12_either (e + 5) (o + 1) lo) (k1 : o < 5 → SubOK (nT by' sz) l1 N) (kn : o < 5 → SubOK (nT by' sz) ln (N + 3)) (ko : o < 5 → SubOK (nT by' sz) lo N) :
    MSub G by' sz t m_X12_atom (e + 6) o (pOne (tkK by' sz) (tkW by' sz) room l1 lo) ∧ MSub G by' sz t m_X12_not (e + 9) o (lvN (tkK by' sz) (nT by' sz) room (pOne (tkK by' sz) (tkW by' sz) room l1 lo) ln) ∧ MSub G by' sz t m_X12_either (e + 11) o (lvO (tkK by' sz) (nT by' sz) (lvN (tkK by' sz) (nT by' sz) room (pOne (tkK by' sz) (tkW by' sz) room l1 lo) ln)) := by
  have a1 : MSub G by' sz t m_X12_atom (e + 6) o (pOne (tkK by' sz) (tkW by' sz) room l1 lo) := m_atom (d := e + 5) (by omega) hroom ho5 (d2 := e) (d3 := e + 5) (by omega) (by omega) c1 co
  have s1 : SubOK (nT by' sz) (pOne (tkK by' sz) (tkW by' sz) room l1 lo) N := pOne_ok t_hK tk_h2 tk_h3 (fun z => k1 (hroom.mp z)) (fun z => ko (hroom.mp z)) hN
  have a2 : MSub G by' sz t m_X12_term (e + 7) o (pSeq (tkK by' sz) (nT by' sz) opT (pOne (tkK by' sz) (tkW by' sz) room l1 lo)) := m_term (d := e + 6) (by omega) a1 s1
  have s2 := pSeq_ok t_hK opT_ok s1
  have a3 : MSub G by' sz t m_X12_added (e + 8) o (lvS (tkK by' sz) (nT by' sz) (pOne (tkK by' sz) (tkW by' sz) room l1 lo)) := m_added (d := e + 7) (by omega) a2 s2
  have s3 : SubOK (nT by' sz) (lvS (tkK by' sz) (nT by' sz) (pOne (tkK by' sz) (tkW by' sz) room l1 lo)) (N + 1 + 1) := pSeq_ok t_hK opS_ok s2
  have s4 := pCmp_ok (K := tkK by' sz) s3
  have a5 : MSub G by' sz t m_X12_not (e + 9) o (lvN (tkK by' sz) (nT by' sz) room (pOne (tkK by' sz) (tkW by' sz) room l1 lo) ln) := m_not (d := e + 8) (by omega) hroom ho5 (d2 := e + 3) (by omega) cn a3
  have s5 : SubOK (nT by' sz) (lvN (tkK by' sz) (nT by' sz) room (pOne (tkK by' sz) (tkW by' sz) room l1 lo) ln) (N + 3) := pNot_ok (fun z => kn (hroom.mp z)) s4
  have a6 : MSub G by' sz t m_X12_both (e + 10) o (pSeq (tkK by' sz) (nT by' sz) opA (lvN (tkK by' sz) (nT by' sz) room (pOne (tkK by' sz) (tkW by' sz) room l1 lo) ln)) := m_both (d := e + 9) (by omega) a5 s5
  have s6 := pSeq_ok t_hK opA_ok s5
  exact ⟨a1, a5, m_either (d := e + 10) (by omega) a6 s6⟩
theorem m_lev : ∀ k o, o + k = 5 → MSub G by' sz t m_X12_atom (6 * k + 23) o (tLev by' sz k).1 ∧ MSub G by' sz t m_X12_not (6 * k + 26) o (tLev by' sz k).2.1 ∧ MSub G by' sz t m_X12_either (6 * k + 28) o (tLev by' sz k).2.2 := by
  intro k
  induction k with
  | zero =>
    intro o ho
    have hx : ¬ o < 5 := by omega
    exact m_lvl (e := 17) (N := 1) (o := o) (room := false) ⟨(fun z => nomatch z), fun z => absurd z hx⟩ (by omega) (by omega) (by omega) (fun z => absurd z hx) (fun z => absurd z hx) (fun z => absurd z hx) (fun z => absurd z hx) (fun z => absurd z hx) (fun z => absurd z hx)
  | succ k ih =>
    intro o ho
    obtain ⟨i1, i2, i3⟩ := ih (o + 1) (by omega)
    obtain ⟨s1, s2, s3⟩ := lev_ok (K := tkK by' sz) (W := tkW by' sz) t_hK tk_h2 tk_h3 k
    exact m_lvl (e := 6 * k + 23) (N := 5 * k + 6) (o := o) (room := true) ⟨fun _ => by omega, fun _ => rfl⟩ (by omega) (by omega) (by omega) (fun _ => i1) (fun _ => i2) (fun _ => i3) (fun _ => s1.mono (by omega)) (fun _ => s2.mono (by omega)) (fun _ => s3)
theorem tK_z {p : Nat} : mT by' sz p = 0 ↔ (tK by' sz p).1 = 0 := by
  rcases mT_cases (by' := by') (sz := sz) p with ⟨-, e, f⟩ | ⟨-, -, e, f⟩ | ⟨-, -, -, e, f⟩ | ⟨-, g, e, f⟩ | ⟨-, e, f⟩
  · rw [e, f]
  · rw [e, f]
    refine ⟨fun z => absurd z (by decide), fun z => ?_⟩
    split at z
    · have z : keyK by' sz p = 0 := z
      rcases keyK_in (by' := by') (sz := sz) p with q | q
      · rw [z] at q; exact absurd q (by decide)
      · rw [z] at q; exact absurd q.1 (by decide)
    · exact absurd (show (3 : Int32) = 0 from z) (by decide)
  · rw [e, f]
  · rw [e, f]; exact ⟨fun z => absurd z (by decide), fun z => absurd z (isSg_no _ g).1⟩
  · rw [e, f]; exact ⟨fun z => absurd z (by decide), fun z => absurd z (by decide)⟩
end LVM
abbrev tPart (by' : Nat → Int32) (sz : Nat) (key : Int32) (i : Nat) : PR := pPart (tkK by' sz) (tkW by' sz) (nT by' sz) key i
