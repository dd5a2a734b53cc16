/-! the reference: term, added, both, either, not -/
theorem qX12_term_0 : Dq cX12_term 0 (.aload_n 0) 1 1 := ⟨by decide +kernel, rfl⟩
theorem qX12_term_1 : Dq cX12_term 1 (.invokevirtual 205) 3 4 := ⟨by decide +kernel, rfl⟩
theorem qX12_term_4 : Dq cX12_term 4 (.istore_n 1) 1 5 := ⟨by decide +kernel, rfl⟩
theorem qX12_term_5 : Dq cX12_term 5 (.aload_n 0) 1 6 := ⟨by decide +kernel, rfl⟩
theorem qX12_term_6 : Dq cX12_term 6 (.bipush 42) 2 8 := ⟨by decide +kernel, rfl⟩
theorem qX12_term_8 : Dq cX12_term 8 (.invokevirtual 198) 3 11 := ⟨by decide +kernel, rfl⟩
theorem qX12_term_11 : Dq cX12_term 11 (.ifCond .eq 17) 3 14 := ⟨by decide +kernel, rfl⟩
theorem qX12_term_14 : Dq cX12_term 14 (.aload_n 0) 1 15 := ⟨by decide +kernel, rfl⟩
theorem qX12_term_15 : Dq cX12_term 15 (.invokevirtual 173) 3 18 := ⟨by decide +kernel, rfl⟩
theorem qX12_term_18 : Dq cX12_term 18 (.iload_n 1) 1 19 := ⟨by decide +kernel, rfl⟩
theorem qX12_term_19 : Dq cX12_term 19 (.aload_n 0) 1 20 := ⟨by decide +kernel, rfl⟩
theorem qX12_term_20 : Dq cX12_term 20 (.invokevirtual 205) 3 23 := ⟨by decide +kernel, rfl⟩
theorem qX12_term_23 : Dq cX12_term 23 (.imul) 1 24 := ⟨by decide +kernel, rfl⟩
theorem qX12_term_24 : Dq cX12_term 24 (.istore_n 1) 1 25 := ⟨by decide +kernel, rfl⟩
theorem qX12_term_25 : Dq cX12_term 25 (.goto (-20)) 3 28 := ⟨by decide +kernel, rfl⟩
theorem qX12_term_28 : Dq cX12_term 28 (.iload_n 1) 1 29 := ⟨by decide +kernel, rfl⟩
theorem qX12_term_29 : Dq cX12_term 29 (.ireturn) 1 30 := ⟨by decide +kernel, rfl⟩
set_option maxRecDepth 100000 in
set_option maxHeartbeats 4000000 in
theorem m_term {G : Glb} {by' : Nat → Int32} {sz t d o : Nat} (hd : 10 ≤ d) {sub : Nat → PR} {N : Nat} (hsub : MSub G by' sz t m_X12_atom d o sub) (hok : SubOK (nT by' sz) sub N) (h : AHp) (i : Nat) (env : Nat → Int32) (hm : ShM h) (ha : MAt by' sz t o i h) (he : EnvM h env) : CP G m_X12_term (d + 1) 0 0 [.ref 38] h (fun r h' => ∃ σ J x, r = some (.int x) ∧ h' = mkH h σ J ∧ FrE h σ J ∧ PoM by' sz t o env h σ J x (pSeq (tkK by' sz) (nT by' sz) opT sub i)) := by
  suffices key : ∀ P : Option Value → AHp → Prop, (∀ r h', (∃ σ J x, r = some (.int x) ∧ h' = mkH h σ J ∧ FrE h σ J ∧ PoM by' sz t o env h σ J x (pSeq (tkK by' sz) (nT by' sz) opT sub i)) → P r h') → CP G m_X12_term (d + 1) 0 0 [.ref 38] h P from key _ (fun _ _ z => z)
  intro P hP
  refine CP.of (by decide +kernel) (Nat.le_of_ble_eq_true rfl) fun X hX hR hnm => ?_
  show V X G 2 0 0 _ 0 [some (.ref 38), none] [] h
  refine v_aload_n hX rfl qX12_term_0 ?_
  refine v_callVq hX hR k_X12_205 (hm.kd 38 rfl) (hsub _ (by exact i) (by exact env) (by exact hm) (by exact ha) (by exact he)) rfl (by omega) rfl (Nat.le_of_ble_eq_true rfl) ⟨Nat.le_of_ble_eq_true rfl, Nat.le_of_ble_eq_true rfl⟩ qX12_term_1 ?_
  rintro _ _ ⟨σ1, J1, x1, rfl, rfl, hf1, hp1⟩
  refine v_istore_n hX (Nat.le_of_ble_eq_true rfl) rfl (ls' := [some _, some _]) rfl qX12_term_4 ?_
  have L5 : ∀ (mz : Nat) (c j f : Nat) (cs : List Int32) (v : (Nat → Int32) → Int32) (w : Int32) (σ : Nat → Nat → Int32) (J : Nat → Nat → Int64), c = mz → (FrE h σ J) → ((nT by' sz + 1 ≤ c + j ∧ j ≤ nT by' sz ∧ nT by' sz ≤ j + f ∧ w = v env ∧ MAt by' sz t o j (mkH h σ J) ∧ pLoop (tkK by' sz) opT sub f j cs v = pSeq (tkK by' sz) (nT by' sz) opT sub i) ∨ (∃ g, pSeq (tkK by' sz) (nT by' sz) opT sub i = .inl g ∧ σ 38 28 = 1 ∧ σ 38 29 = nI (pl by' sz g))) → V X G 2 0 0 (QM X G P 0 0) 5 [some (.ref 38), some (.int w)] [] (mkH h σ J) := by
    intro mz
    induction mz using Nat.strongRecOn with
    | _ mz ih =>
    intro c j f cs v w σ J hmz hf hmm
    refine v_aload_n hX rfl qX12_term_5 ?_
    rcases hmm with ⟨hc, hj, hff, hwv, ha2, hT⟩ | ⟨g, hT, hb, hfl⟩
    · skip
      refine v_bipush hX lb_42 qX12_term_6 ?_
      refine v_callVq hX hR k_X12_198 (hm.kd 38 rfl) (m_sgA (by exact hm) (by exact ha2) (s := 42) (by decide)) rfl (by omega) rfl (Nat.le_of_ble_eq_true rfl) ⟨Nat.le_of_ble_eq_true rfl, Nat.le_of_ble_eq_true rfl⟩ qX12_term_8 ?_
      rintro _ _ ⟨rfl, rfl⟩
      first | refine v_if_eqB hX 28 qX12_term_11 rfl (fun q11 => ?_) (fun q11 => ?_) | refine v_if_eq hX 28 qX12_term_11 rfl (fun q11 => ?_) (fun q11 => ?_)
      · have ho : opT (tkK by' sz j) = none := if_neg q11
        refine v_iload_n hX rfl qX12_term_28 ?_
        refine v_ireturn hX qX12_term_29 (hP _ _ ?_)
        exact ⟨σ, J, w, rfl, rfl, hf, PoM.of (r := .inr (j, cs, v)) ⟨hwv, ha2⟩ (hT.symm.trans (pLoop_no ho))⟩
      · obtain ⟨cc, hcc, ho⟩ : ∃ cc : Int32, cc = -14 ∧ opT (tkK by' sz j) = some cc := ⟨_, rfl, if_pos q11⟩
        have hm13 := Or.inr (a := mT by' sz (pl by' sz j) = 1) (Or.inr (a := mT by' sz (pl by' sz j) = 2) (MAt.sg3 (by decide) q11))
        have hjn : j < nT by' sz := kLt (fun i h => tkK_0 h) q11 (by decide)
        obtain ⟨f, rfl⟩ : ∃ f2, f = f2 + 1 := ⟨f - 1, by omega⟩
        refine v_aload_n hX rfl qX12_term_14 ?_
        refine v_callVq hX hR k_X12_173 (hm.kd 38 rfl) (m_nx (by exact hm) (by exact ha2) (by exact hm13)) rfl (by omega) rfl (Nat.le_of_ble_eq_true rfl) ⟨Nat.le_of_ble_eq_true rfl, Nat.le_of_ble_eq_true rfl⟩ qX12_term_15 ?_
        rintro _ _ ⟨rfl, σ3, J3, rfl, hf3, ha3⟩
        refine v_iload_n hX rfl qX12_term_18 ?_
        refine v_aload_n hX rfl qX12_term_19 ?_
        refine v_callVq hX hR k_X12_205 (hm.kd 38 rfl) (hsub _ (by exact (j + 1)) (by exact env) (by exact hm) (by exact ha3) (by exact (hf3.env (hf.env he)))) rfl (by omega) rfl (Nat.le_of_ble_eq_true rfl) ⟨Nat.le_of_ble_eq_true rfl, Nat.le_of_ble_eq_true rfl⟩ qX12_term_20 ?_
        rintro _ _ ⟨σ4, J4, x4, rfl, rfl, hf4, hp4⟩
        refine v_imul hX qX12_term_23 ?_
        refine v_istore_n hX (Nat.le_of_ble_eq_true rfl) rfl (ls' := [some _, some _]) rfl qX12_term_24 ?_
        refine v_goto hX 5 qX12_term_25 rfl ?_
        rcases e3 : sub (j + 1) with g | ⟨j3, cs3, v3⟩
        · rw [e3] at hp4
          exact ih _ (by omega) (c - 1) 0 0 [] (fun _ => 0) _ σ4 J4 rfl (FrE.tr hf (FrE.tr hf3 hf4)) (Or.inr ⟨g, hT.symm.trans (pLoop_in ho e3), hp4.1, hp4.2⟩)
        · rw [e3] at hp4
          obtain ⟨hx4, ha4⟩ := hp4
          obtain ⟨z1, z2, -, -⟩ := hok _ _ _ _ e3
          exact ih _ (by omega) (c - 1) j3 f (cs ++ cs3 ++ [cc]) (fun env => joinI cc (v env) (v3 env)) _ σ4 J4 rfl (FrE.tr hf (FrE.tr hf3 hf4)) (Or.inl ⟨by omega, z2, by omega, (by show _ = joinI cc (v env) (v3 env); rw [hcc, ← hwv, ← hx4]; try rfl), ha4, (pLoop_go ho e3).symm.trans hT⟩)
    · skip
      refine v_bipush hX lb_42 qX12_term_6 ?_
      refine v_callVq hX hR k_X12_198 (hm.kd 38 rfl) (m_sgB (by exact hm) (by exact hb) (by exact 42)) rfl (by omega) rfl (Nat.le_of_ble_eq_true rfl) ⟨Nat.le_of_ble_eq_true rfl, Nat.le_of_ble_eq_true rfl⟩ qX12_term_8 ?_
      rintro _ _ ⟨rfl, rfl⟩
      first | refine v_if_eqB hX 28 qX12_term_11 rfl (fun q11 => ?_) (fun q11 => ?_) | refine v_if_eq hX 28 qX12_term_11 rfl (fun q11 => ?_) (fun q11 => ?_)
      · skip
        refine v_iload_n hX rfl qX12_term_28 ?_
        refine v_ireturn hX qX12_term_29 (hP _ _ ?_)
        exact ⟨σ, J, w, rfl, rfl, hf, PoM.of (r := .inl g) ⟨hb, hfl⟩ hT⟩
      · exact absurd rfl q11
  rcases e1 : sub i with g | ⟨j1, cs1, v1⟩
  · rw [e1] at hp1
    exact L5 _ 0 0 0 [] (fun _ => 0) x1 σ1 J1 rfl hf1 (Or.inr ⟨g, pSeq_in e1, hp1.1, hp1.2⟩)
  · rw [e1] at hp1
    obtain ⟨hx1, ha1⟩ := hp1
    obtain ⟨y1, y2, -, -⟩ := hok _ _ _ _ e1
    exact L5 _ (nT by' sz + 1) j1 (nT by' sz) cs1 v1 x1 σ1 J1 rfl hf1 (Or.inl ⟨by omega, y2, by omega, hx1, ha1, (pSeq_go e1).symm⟩)
theorem qX12_both_0 : Dq cX12_both 0 (.aload_n 0) 1 1 := ⟨by decide +kernel, rfl⟩
theorem qX12_both_1 : Dq cX12_both 1 (.invokevirtual 220) 3 4 := ⟨by decide +kernel, rfl⟩
theorem qX12_both_4 : Dq cX12_both 4 (.istore_n 1) 1 5 := ⟨by decide +kernel, rfl⟩
theorem qX12_both_5 : Dq cX12_both 5 (.aload_n 0) 1 6 := ⟨by decide +kernel, rfl⟩
theorem qX12_both_6 : Dq cX12_both 6 (.bipush 97) 2 8 := ⟨by decide +kernel, rfl⟩
theorem qX12_both_8 : Dq cX12_both 8 (.bipush 110) 2 10 := ⟨by decide +kernel, rfl⟩
theorem qX12_both_10 : Dq cX12_both 10 (.bipush 100) 2 12 := ⟨by decide +kernel, rfl⟩
theorem qX12_both_12 : Dq cX12_both 12 (.iconst 0) 1 13 := ⟨by decide +kernel, rfl⟩
theorem qX12_both_13 : Dq cX12_both 13 (.iconst 0) 1 14 := ⟨by decide +kernel, rfl⟩
theorem qX12_both_14 : Dq cX12_both 14 (.iconst 0) 1 15 := ⟨by decide +kernel, rfl⟩
theorem qX12_both_15 : Dq cX12_both 15 (.iconst 0) 1 16 := ⟨by decide +kernel, rfl⟩
theorem qX12_both_16 : Dq cX12_both 16 (.iconst 0) 1 17 := ⟨by decide +kernel, rfl⟩
theorem qX12_both_17 : Dq cX12_both 17 (.invokevirtual 176) 3 20 := ⟨by decide +kernel, rfl⟩
theorem qX12_both_20 : Dq cX12_both 20 (.ifCond .eq 29) 3 23 := ⟨by decide +kernel, rfl⟩
theorem qX12_both_23 : Dq cX12_both 23 (.aload_n 0) 1 24 := ⟨by decide +kernel, rfl⟩
theorem qX12_both_24 : Dq cX12_both 24 (.invokevirtual 173) 3 27 := ⟨by decide +kernel, rfl⟩
theorem qX12_both_27 : Dq cX12_both 27 (.aload_n 0) 1 28 := ⟨by decide +kernel, rfl⟩
theorem qX12_both_28 : Dq cX12_both 28 (.invokevirtual 220) 3 31 := ⟨by decide +kernel, rfl⟩
theorem qX12_both_31 : Dq cX12_both 31 (.istore_n 2) 1 32 := ⟨by decide +kernel, rfl⟩
theorem qX12_both_32 : Dq cX12_both 32 (.iload_n 1) 1 33 := ⟨by decide +kernel, rfl⟩
theorem qX12_both_33 : Dq cX12_both 33 (.ifCond .eq 11) 3 36 := ⟨by decide +kernel, rfl⟩
theorem qX12_both_36 : Dq cX12_both 36 (.iload_n 2) 1 37 := ⟨by decide +kernel, rfl⟩
theorem qX12_both_37 : Dq cX12_both 37 (.ifCond .eq 7) 3 40 := ⟨by decide +kernel, rfl⟩
theorem qX12_both_40 : Dq cX12_both 40 (.iconst 1) 1 41 := ⟨by decide +kernel, rfl⟩
theorem qX12_both_41 : Dq cX12_both 41 (.goto 4) 3 44 := ⟨by decide +kernel, rfl⟩
theorem qX12_both_44 : Dq cX12_both 44 (.iconst 0) 1 45 := ⟨by decide +kernel, rfl⟩
theorem qX12_both_45 : Dq cX12_both 45 (.istore_n 1) 1 46 := ⟨by decide +kernel, rfl⟩
theorem qX12_both_46 : Dq cX12_both 46 (.goto (-41)) 3 49 := ⟨by decide +kernel, rfl⟩
theorem qX12_both_49 : Dq cX12_both 49 (.iload_n 1) 1 50 := ⟨by decide +kernel, rfl⟩
theorem qX12_both_50 : Dq cX12_both 50 (.ireturn) 1 51 := ⟨by decide +kernel, rfl⟩
set_option maxRecDepth 100000 in
set_option maxHeartbeats 4000000 in
theorem m_both {G : Glb} {by' : Nat → Int32} {sz t d o : Nat} (hd : 10 ≤ d) {sub : Nat → PR} {N : Nat} (hsub : MSub G by' sz t m_X12_not d o sub) (hok : SubOK (nT by' sz) sub N) (h : AHp) (i : Nat) (env : Nat → Int32) (hm : ShM h) (ha : MAt by' sz t o i h) (he : EnvM h env) : CP G m_X12_both (d + 1) 0 0 [.ref 38] h (fun r h' => ∃ σ J x, r = some (.int x) ∧ h' = mkH h σ J ∧ FrE h σ J ∧ PoM by' sz t o env h σ J x (pSeq (tkK by' sz) (nT by' sz) opA sub i)) := by
  suffices key : ∀ P : Option Value → AHp → Prop, (∀ r h', (∃ σ J x, r = some (.int x) ∧ h' = mkH h σ J ∧ FrE h σ J ∧ PoM by' sz t o env h σ J x (pSeq (tkK by' sz) (nT by' sz) opA sub i)) → P r h') → CP G m_X12_both (d + 1) 0 0 [.ref 38] h P from key _ (fun _ _ z => z)
  intro P hP
  refine CP.of (by decide +kernel) (Nat.le_of_ble_eq_true rfl) fun X hX hR hnm => ?_
  show V X G 3 0 0 _ 0 [some (.ref 38), none, none] [] h
  refine v_aload_n hX rfl qX12_both_0 ?_
  refine v_callVq hX hR k_X12_220 (hm.kd 38 rfl) (hsub _ (by exact i) (by exact env) (by exact hm) (by exact ha) (by exact he)) rfl (by omega) rfl (Nat.le_of_ble_eq_true rfl) ⟨Nat.le_of_ble_eq_true rfl, Nat.le_of_ble_eq_true rfl⟩ qX12_both_1 ?_
  rintro _ _ ⟨σ1, J1, x1, rfl, rfl, hf1, hp1⟩
  refine v_istore_n hX (Nat.le_of_ble_eq_true rfl) rfl (ls' := [some _, some _, none]) rfl qX12_both_4 ?_
  have L5 : ∀ (mz : Nat) (c j f : Nat) (cs : List Int32) (v : (Nat → Int32) → Int32) (w : Int32) (σ : Nat → Nat → Int32) (J : Nat → Nat → Int64), c = mz → (FrE h σ J) → ((nT by' sz + 1 ≤ c + j ∧ j ≤ nT by' sz ∧ nT by' sz ≤ j + f ∧ w = v env ∧ MAt by' sz t o j (mkH h σ J) ∧ pLoop (tkK by' sz) opA sub f j cs v = pSeq (tkK by' sz) (nT by' sz) opA sub i) ∨ (∃ g, pSeq (tkK by' sz) (nT by' sz) opA sub i = .inl g ∧ σ 38 28 = 1 ∧ σ 38 29 = nI (pl by' sz g))) → V X G 3 0 0 (QM X G P 0 0) 5 [some (.ref 38), some (.int w), none] [] (mkH h σ J) := by
    intro mz
    induction mz using Nat.strongRecOn with
    | _ mz ih =>
    intro c j f cs v w σ J hmz hf hmm
    refine v_aload_n hX rfl qX12_both_5 ?_
    rcases hmm with ⟨hc, hj, hff, hwv, ha2, hT⟩ | ⟨g, hT, hb, hfl⟩
    · skip
      refine v_bipush hX lb_97 qX12_both_6 ?_
      refine v_bipush hX lb_110 qX12_both_8 ?_
      refine v_bipush hX lb_100 qX12_both_10 ?_
      refine v_iconst hX li_0 qX12_both_12 ?_
      refine v_iconst hX li_0 qX12_both_13 ?_
      refine v_iconst hX li_0 qX12_both_14 ?_
      refine v_iconst hX li_0 qX12_both_15 ?_
      refine v_iconst hX li_0 qX12_both_16 ?_
      refine v_callVq hX hR k_X12_176 (hm.kd 38 rfl) (m_wdA (by exact hm) (by exact ha2) (c := 8) (w := w_and) (by decide)) rfl (by omega) rfl (Nat.le_of_ble_eq_true rfl) ⟨Nat.le_of_ble_eq_true rfl, Nat.le_of_ble_eq_true rfl⟩ qX12_both_17 ?_
      rintro _ _ ⟨rfl, rfl⟩
      first | refine v_if_eqB hX 49 qX12_both_20 rfl (fun q20 => ?_) (fun q20 => ?_) | refine v_if_eq hX 49 qX12_both_20 rfl (fun q20 => ?_) (fun q20 => ?_)
      · have ho : opA (tkK by' sz j) = none := if_neg q20
        refine v_iload_n hX rfl qX12_both_49 ?_
        refine v_ireturn hX qX12_both_50 (hP _ _ ?_)
        exact ⟨σ, J, w, rfl, rfl, hf, PoM.of (r := .inr (j, cs, v)) ⟨hwv, ha2⟩ (hT.symm.trans (pLoop_no ho))⟩
      · obtain ⟨cc, hcc, ho⟩ : ∃ cc : Int32, cc = -8 ∧ opA (tkK by' sz j) = some cc := ⟨_, rfl, if_pos q20⟩
        have hm13 := Or.inl (b := mT by' sz (pl by' sz j) = 2 ∨ mT by' sz (pl by' sz j) = 3) (MAt.wd1 (c := 8) (w := w_and) (by decide) q20)
        have hjn : j < nT by' sz := kLt (fun i h => tkK_0 h) q20 (by decide)
        obtain ⟨f, rfl⟩ : ∃ f2, f = f2 + 1 := ⟨f - 1, by omega⟩
        refine v_aload_n hX rfl qX12_both_23 ?_
        refine v_callVq hX hR k_X12_173 (hm.kd 38 rfl) (m_nx (by exact hm) (by exact ha2) (by exact hm13)) rfl (by omega) rfl (Nat.le_of_ble_eq_true rfl) ⟨Nat.le_of_ble_eq_true rfl, Nat.le_of_ble_eq_true rfl⟩ qX12_both_24 ?_
        rintro _ _ ⟨rfl, σ3, J3, rfl, hf3, ha3⟩
        refine v_aload_n hX rfl qX12_both_27 ?_
        refine v_callVq hX hR k_X12_220 (hm.kd 38 rfl) (hsub _ (by exact (j + 1)) (by exact env) (by exact hm) (by exact ha3) (by exact (hf3.env (hf.env he)))) rfl (by omega) rfl (Nat.le_of_ble_eq_true rfl) ⟨Nat.le_of_ble_eq_true rfl, Nat.le_of_ble_eq_true rfl⟩ qX12_both_28 ?_
        rintro _ _ ⟨σ4, J4, x4, rfl, rfl, hf4, hp4⟩
        refine v_istore_n hX (Nat.le_of_ble_eq_true rfl) rfl (ls' := [some _, some _, some _]) rfl qX12_both_31 ?_
        refine v_iload_n hX rfl qX12_both_32 ?_
        first | refine v_if_eqB hX 44 qX12_both_33 rfl (fun q33 => ?_) (fun q33 => ?_) | refine v_if_eq hX 44 qX12_both_33 rfl (fun q33 => ?_) (fun q33 => ?_)
        · have e45 : joinI (-8) w x4 = 0 := show bz (¬ w = 0 ∧ ¬ x4 = 0) = 0 from bz_f (fun z => z.1 q33)
          refine v_iconst hX li_0 qX12_both_44 ?_
          refine v_eqI e45.symm ?_
          refine v_istore_n hX (Nat.le_of_ble_eq_true rfl) rfl (ls' := [some _, some _, some _]) rfl qX12_both_45 ?_
          refine v_goto hX 5 qX12_both_46 rfl ?_
          refine v_forget (ls' := [_, _, none]) ⟨Or.inr rfl, Or.inr rfl, Or.inl rfl, trivial⟩ ?_
          rcases e3 : sub (j + 1) with g | ⟨j3, cs3, v3⟩
          · rw [e3] at hp4
            exact ih _ (by omega) (c - 1) 0 0 [] (fun _ => 0) _ σ4 J4 rfl (FrE.tr hf (FrE.tr hf3 hf4)) (Or.inr ⟨g, hT.symm.trans (pLoop_in ho e3), hp4.1, hp4.2⟩)
          · rw [e3] at hp4
            obtain ⟨hx4, ha4⟩ := hp4
            obtain ⟨z1, z2, -, -⟩ := hok _ _ _ _ e3
            exact ih _ (by omega) (c - 1) j3 f (cs ++ cs3 ++ [cc]) (fun env => joinI cc (v env) (v3 env)) _ σ4 J4 rfl (FrE.tr hf (FrE.tr hf3 hf4)) (Or.inl ⟨by omega, z2, by omega, (by show _ = joinI cc (v env) (v3 env); rw [hcc, ← hwv, ← hx4]; try rfl), ha4, (pLoop_go ho e3).symm.trans hT⟩)
        · skip
          refine v_iload_n hX rfl qX12_both_36 ?_
          first | refine v_if_eqB hX 44 qX12_both_37 rfl (fun q37 => ?_) (fun q37 => ?_) | refine v_if_eq hX 44 qX12_both_37 rfl (fun q37 => ?_) (fun q37 => ?_)
          · have e45 : joinI (-8) w x4 = 0 := show bz (¬ w = 0 ∧ ¬ x4 = 0) = 0 from bz_f (fun z => z.2 q37)
            refine v_iconst hX li_0 qX12_both_44 ?_
            refine v_eqI e45.symm ?_
            refine v_istore_n hX (Nat.le_of_ble_eq_true rfl) rfl (ls' := [some _, some _, some _]) rfl qX12_both_45 ?_
            refine v_goto hX 5 qX12_both_46 rfl ?_
            refine v_forget (ls' := [_, _, none]) ⟨Or.inr rfl, Or.inr rfl, Or.inl rfl, trivial⟩ ?_
            rcases e3 : sub (j + 1) with g | ⟨j3, cs3, v3⟩
            · rw [e3] at hp4
              exact ih _ (by omega) (c - 1) 0 0 [] (fun _ => 0) _ σ4 J4 rfl (FrE.tr hf (FrE.tr hf3 hf4)) (Or.inr ⟨g, hT.symm.trans (pLoop_in ho e3), hp4.1, hp4.2⟩)
            · rw [e3] at hp4
              obtain ⟨hx4, ha4⟩ := hp4
              obtain ⟨z1, z2, -, -⟩ := hok _ _ _ _ e3
              exact ih _ (by omega) (c - 1) j3 f (cs ++ cs3 ++ [cc]) (fun env => joinI cc (v env) (v3 env)) _ σ4 J4 rfl (FrE.tr hf (FrE.tr hf3 hf4)) (Or.inl ⟨by omega, z2, by omega, (by show _ = joinI cc (v env) (v3 env); rw [hcc, ← hwv, ← hx4]; try rfl), ha4, (pLoop_go ho e3).symm.trans hT⟩)
          · have e45 : joinI (-8) w x4 = 1 := show bz (¬ w = 0 ∧ ¬ x4 = 0) = 1 from bz_t ⟨q33, q37⟩
            refine v_iconst hX li_1 qX12_both_40 ?_
            refine v_goto hX 45 qX12_both_41 rfl ?_
            refine v_eqI e45.symm ?_
            refine v_istore_n hX (Nat.le_of_ble_eq_true rfl) rfl (ls' := [some _, some _, some _]) rfl qX12_both_45 ?_
            refine v_goto hX 5 qX12_both_46 rfl ?_
            refine v_forget (ls' := [_, _, none]) ⟨Or.inr rfl, Or.inr rfl, Or.inl rfl, trivial⟩ ?_
            rcases e3 : sub (j + 1) with g | ⟨j3, cs3, v3⟩
            · rw [e3] at hp4
              exact ih _ (by omega) (c - 1) 0 0 [] (fun _ => 0) _ σ4 J4 rfl (FrE.tr hf (FrE.tr hf3 hf4)) (Or.inr ⟨g, hT.symm.trans (pLoop_in ho e3), hp4.1, hp4.2⟩)
            · rw [e3] at hp4
              obtain ⟨hx4, ha4⟩ := hp4
              obtain ⟨z1, z2, -, -⟩ := hok _ _ _ _ e3
              exact ih _ (by omega) (c - 1) j3 f (cs ++ cs3 ++ [cc]) (fun env => joinI cc (v env) (v3 env)) _ σ4 J4 rfl (FrE.tr hf (FrE.tr hf3 hf4)) (Or.inl ⟨by omega, z2, by omega, (by show _ = joinI cc (v env) (v3 env); rw [hcc, ← hwv, ← hx4]; try rfl), ha4, (pLoop_go ho e3).symm.trans hT⟩)
    · skip
      refine v_bipush hX lb_97 qX12_both_6 ?_
      refine v_bipush hX lb_110 qX12_both_8 ?_
      refine v_bipush hX lb_100 qX12_both_10 ?_
      refine v_iconst hX li_0 qX12_both_12 ?_
      refine v_iconst hX li_0 qX12_both_13 ?_
      refine v_iconst hX li_0 qX12_both_14 ?_
      refine v_iconst hX li_0 qX12_both_15 ?_
      refine v_iconst hX li_0 qX12_both_16 ?_
      refine v_callVq hX hR k_X12_176 (hm.kd 38 rfl) (m_isWordB (by exact hm) (by exact hb) _ _ _ _ _ _ _ _) rfl (by omega) rfl (Nat.le_of_ble_eq_true rfl) ⟨Nat.le_of_ble_eq_true rfl, Nat.le_of_ble_eq_true rfl⟩ qX12_both_17 ?_
      rintro _ _ ⟨rfl, rfl⟩
      first | refine v_if_eqB hX 49 qX12_both_20 rfl (fun q20 => ?_) (fun q20 => ?_) | refine v_if_eq hX 49 qX12_both_20 rfl (fun q20 => ?_) (fun q20 => ?_)
      · skip
        refine v_iload_n hX rfl qX12_both_49 ?_
        refine v_ireturn hX qX12_both_50 (hP _ _ ?_)
        exact ⟨σ, J, w, rfl, rfl, hf, PoM.of (r := .inl g) ⟨hb, hfl⟩ hT⟩
      · exact absurd rfl q20
  rcases e1 : sub i with g | ⟨j1, cs1, v1⟩
  · rw [e1] at hp1
    exact L5 _ 0 0 0 [] (fun _ => 0) x1 σ1 J1 rfl hf1 (Or.inr ⟨g, pSeq_in e1, hp1.1, hp1.2⟩)
  · rw [e1] at hp1
    obtain ⟨hx1, ha1⟩ := hp1
    obtain ⟨y1, y2, -, -⟩ := hok _ _ _ _ e1
    exact L5 _ (nT by' sz + 1) j1 (nT by' sz) cs1 v1 x1 σ1 J1 rfl hf1 (Or.inl ⟨by omega, y2, by omega, hx1, ha1, (pSeq_go e1).symm⟩)
theorem qX12_either_0 : Dq cX12_either 0 (.aload_n 0) 1 1 := ⟨by decide +kernel, rfl⟩
theorem qX12_either_1 : Dq cX12_either 1 (.invokevirtual 228) 3 4 := ⟨by decide +kernel, rfl⟩
theorem qX12_either_4 : Dq cX12_either 4 (.istore_n 1) 1 5 := ⟨by decide +kernel, rfl⟩
theorem qX12_either_5 : Dq cX12_either 5 (.aload_n 0) 1 6 := ⟨by decide +kernel, rfl⟩
theorem qX12_either_6 : Dq cX12_either 6 (.bipush 111) 2 8 := ⟨by decide +kernel, rfl⟩
theorem qX12_either_8 : Dq cX12_either 8 (.bipush 114) 2 10 := ⟨by decide +kernel, rfl⟩
theorem qX12_either_10 : Dq cX12_either 10 (.iconst 0) 1 11 := ⟨by decide +kernel, rfl⟩
theorem qX12_either_11 : Dq cX12_either 11 (.iconst 0) 1 12 := ⟨by decide +kernel, rfl⟩
theorem qX12_either_12 : Dq cX12_either 12 (.iconst 0) 1 13 := ⟨by decide +kernel, rfl⟩
theorem qX12_either_13 : Dq cX12_either 13 (.iconst 0) 1 14 := ⟨by decide +kernel, rfl⟩
theorem qX12_either_14 : Dq cX12_either 14 (.iconst 0) 1 15 := ⟨by decide +kernel, rfl⟩
theorem qX12_either_15 : Dq cX12_either 15 (.iconst 0) 1 16 := ⟨by decide +kernel, rfl⟩
theorem qX12_either_16 : Dq cX12_either 16 (.invokevirtual 176) 3 19 := ⟨by decide +kernel, rfl⟩
theorem qX12_either_19 : Dq cX12_either 19 (.ifCond .eq 29) 3 22 := ⟨by decide +kernel, rfl⟩
theorem qX12_either_22 : Dq cX12_either 22 (.aload_n 0) 1 23 := ⟨by decide +kernel, rfl⟩
theorem qX12_either_23 : Dq cX12_either 23 (.invokevirtual 173) 3 26 := ⟨by decide +kernel, rfl⟩
theorem qX12_either_26 : Dq cX12_either 26 (.aload_n 0) 1 27 := ⟨by decide +kernel, rfl⟩
theorem qX12_either_27 : Dq cX12_either 27 (.invokevirtual 228) 3 30 := ⟨by decide +kernel, rfl⟩
theorem qX12_either_30 : Dq cX12_either 30 (.istore_n 2) 1 31 := ⟨by decide +kernel, rfl⟩
theorem qX12_either_31 : Dq cX12_either 31 (.iload_n 1) 1 32 := ⟨by decide +kernel, rfl⟩
theorem qX12_either_32 : Dq cX12_either 32 (.ifCond .ne 7) 3 35 := ⟨by decide +kernel, rfl⟩
theorem qX12_either_35 : Dq cX12_either 35 (.iload_n 2) 1 36 := ⟨by decide +kernel, rfl⟩
theorem qX12_either_36 : Dq cX12_either 36 (.ifCond .eq 7) 3 39 := ⟨by decide +kernel, rfl⟩
theorem qX12_either_39 : Dq cX12_either 39 (.iconst 1) 1 40 := ⟨by decide +kernel, rfl⟩
theorem qX12_either_40 : Dq cX12_either 40 (.goto 4) 3 43 := ⟨by decide +kernel, rfl⟩
theorem qX12_either_43 : Dq cX12_either 43 (.iconst 0) 1 44 := ⟨by decide +kernel, rfl⟩
theorem qX12_either_44 : Dq cX12_either 44 (.istore_n 1) 1 45 := ⟨by decide +kernel, rfl⟩
theorem qX12_either_45 : Dq cX12_either 45 (.goto (-40)) 3 48 := ⟨by decide +kernel, rfl⟩
theorem qX12_either_48 : Dq cX12_either 48 (.iload_n 1) 1 49 := ⟨by decide +kernel, rfl⟩
theorem qX12_either_49 : Dq cX12_either 49 (.ireturn) 1 50 := ⟨by decide +kernel, rfl⟩
set_option maxRecDepth 100000 in
set_option maxHeartbeats 4000000 in
theorem m_either {G : Glb} {by' : Nat → Int32} {sz t d o : Nat} (hd : 10 ≤ d) {sub : Nat → PR} {N : Nat} (hsub : MSub G by' sz t m_X12_both d o sub) (hok : SubOK (nT by' sz) sub N) (h : AHp) (i : Nat) (env : Nat → Int32) (hm : ShM h) (ha : MAt by' sz t o i h) (he : EnvM h env) : CP G m_X12_either (d + 1) 0 0 [.ref 38] h (fun r h' => ∃ σ J x, r = some (.int x) ∧ h' = mkH h σ J ∧ FrE h σ J ∧ PoM by' sz t o env h σ J x (pSeq (tkK by' sz) (nT by' sz) opO sub i)) := by
  suffices key : ∀ P : Option Value → AHp → Prop, (∀ r h', (∃ σ J x, r = some (.int x) ∧ h' = mkH h σ J ∧ FrE h σ J ∧ PoM by' sz t o env h σ J x (pSeq (tkK by' sz) (nT by' sz) opO sub i)) → P r h') → CP G m_X12_either (d + 1) 0 0 [.ref 38] h P from key _ (fun _ _ z => z)
  intro P hP
  refine CP.of (by decide +kernel) (Nat.le_of_ble_eq_true rfl) fun X hX hR hnm => ?_
  show V X G 3 0 0 _ 0 [some (.ref 38), none, none] [] h
  refine v_aload_n hX rfl qX12_either_0 ?_
  refine v_callVq hX hR k_X12_228 (hm.kd 38 rfl) (hsub _ (by exact i) (by exact env) (by exact hm) (by exact ha) (by exact he)) rfl (by omega) rfl (Nat.le_of_ble_eq_true rfl) ⟨Nat.le_of_ble_eq_true rfl, Nat.le_of_ble_eq_true rfl⟩ qX12_either_1 ?_
  rintro _ _ ⟨σ1, J1, x1, rfl, rfl, hf1, hp1⟩
  refine v_istore_n hX (Nat.le_of_ble_eq_true rfl) rfl (ls' := [some _, some _, none]) rfl qX12_either_4 ?_
  have L5 : ∀ (mz : Nat) (c j f : Nat) (cs : List Int32) (v : (Nat → Int32) → Int32) (w : Int32) (σ : Nat → Nat → Int32) (J : Nat → Nat → Int64), c = mz → (FrE h σ J) → ((nT by' sz + 1 ≤ c + j ∧ j ≤ nT by' sz ∧ nT by' sz ≤ j + f ∧ w = v env ∧ MAt by' sz t o j (mkH h σ J) ∧ pLoop (tkK by' sz) opO sub f j cs v = pSeq (tkK by' sz) (nT by' sz) opO sub i) ∨ (∃ g, pSeq (tkK by' sz) (nT by' sz) opO sub i = .inl g ∧ σ 38 28 = 1 ∧ σ 38 29 = nI (pl by' sz g))) → V X G 3 0 0 (QM X G P 0 0) 5 [some (.ref 38), some (.int w), none] [] (mkH h σ J) := by
    intro mz
    induction mz using Nat.strongRecOn with
    | _ mz ih =>
    intro c j f cs v w σ J hmz hf hmm
    refine v_aload_n hX rfl qX12_either_5 ?_
    rcases hmm with ⟨hc, hj, hff, hwv, ha2, hT⟩ | ⟨g, hT, hb, hfl⟩
    · skip
      refine v_bipush hX lb_111 qX12_either_6 ?_
      refine v_bipush hX lb_114 qX12_either_8 ?_
      refine v_iconst hX li_0 qX12_either_10 ?_
      refine v_iconst hX li_0 qX12_either_11 ?_
      refine v_iconst hX li_0 qX12_either_12 ?_
      refine v_iconst hX li_0 qX12_either_13 ?_
      refine v_iconst hX li_0 qX12_either_14 ?_
      refine v_iconst hX li_0 qX12_either_15 ?_
      refine v_callVq hX hR k_X12_176 (hm.kd 38 rfl) (m_wdA (by exact hm) (by exact ha2) (c := 7) (w := w_or) (by decide)) rfl (by omega) rfl (Nat.le_of_ble_eq_true rfl) ⟨Nat.le_of_ble_eq_true rfl, Nat.le_of_ble_eq_true rfl⟩ qX12_either_16 ?_
      rintro _ _ ⟨rfl, rfl⟩
      first | refine v_if_eqB hX 48 qX12_either_19 rfl (fun q19 => ?_) (fun q19 => ?_) | refine v_if_eq hX 48 qX12_either_19 rfl (fun q19 => ?_) (fun q19 => ?_)
      · have ho : opO (tkK by' sz j) = none := if_neg q19
        refine v_iload_n hX rfl qX12_either_48 ?_
        refine v_ireturn hX qX12_either_49 (hP _ _ ?_)
        exact ⟨σ, J, w, rfl, rfl, hf, PoM.of (r := .inr (j, cs, v)) ⟨hwv, ha2⟩ (hT.symm.trans (pLoop_no ho))⟩
      · obtain ⟨cc, hcc, ho⟩ : ∃ cc : Int32, cc = -7 ∧ opO (tkK by' sz j) = some cc := ⟨_, rfl, if_pos q19⟩
        have hm13 := Or.inl (b := mT by' sz (pl by' sz j) = 2 ∨ mT by' sz (pl by' sz j) = 3) (MAt.wd1 (c := 7) (w := w_or) (by decide) q19)
        have hjn : j < nT by' sz := kLt (fun i h => tkK_0 h) q19 (by decide)
        obtain ⟨f, rfl⟩ : ∃ f2, f = f2 + 1 := ⟨f - 1, by omega⟩
        refine v_aload_n hX rfl qX12_either_22 ?_
        refine v_callVq hX hR k_X12_173 (hm.kd 38 rfl) (m_nx (by exact hm) (by exact ha2) (by exact hm13)) rfl (by omega) rfl (Nat.le_of_ble_eq_true rfl) ⟨Nat.le_of_ble_eq_true rfl, Nat.le_of_ble_eq_true rfl⟩ qX12_either_23 ?_
        rintro _ _ ⟨rfl, σ3, J3, rfl, hf3, ha3⟩
        refine v_aload_n hX rfl qX12_either_26 ?_
        refine v_callVq hX hR k_X12_228 (hm.kd 38 rfl) (hsub _ (by exact (j + 1)) (by exact env) (by exact hm) (by exact ha3) (by exact (hf3.env (hf.env he)))) rfl (by omega) rfl (Nat.le_of_ble_eq_true rfl) ⟨Nat.le_of_ble_eq_true rfl, Nat.le_of_ble_eq_true rfl⟩ qX12_either_27 ?_
        rintro _ _ ⟨σ4, J4, x4, rfl, rfl, hf4, hp4⟩
        refine v_istore_n hX (Nat.le_of_ble_eq_true rfl) rfl (ls' := [some _, some _, some _]) rfl qX12_either_30 ?_
        refine v_iload_n hX rfl qX12_either_31 ?_
        first | refine v_if_neB hX 39 qX12_either_32 rfl (fun q32 => ?_) (fun q32 => ?_) | refine v_if_ne hX 39 qX12_either_32 rfl (fun q32 => ?_) (fun q32 => ?_)
        · skip
          refine v_iconst hX li_1 qX12_either_39 ?_
          refine v_goto hX 44 qX12_either_40 rfl ?_
          refine v_eqI (show _ = joinI (-7) w x4 by
            show _ = bz (¬ w = 0 ∨ ¬ x4 = 0)
            first
            | exact (bz_t (Or.inl q32)).symm
            | exact (bz_t (Or.inr q36)).symm
            | exact (bz_f (fun z => z.elim (fun y => y q32) (fun y => y q36))).symm) ?_
          refine v_istore_n hX (Nat.le_of_ble_eq_true rfl) rfl (ls' := [some _, some _, some _]) rfl qX12_either_44 ?_
          refine v_goto hX 5 qX12_either_45 rfl ?_
          refine v_forget (ls' := [_, _, none]) ⟨Or.inr rfl, Or.inr rfl, Or.inl rfl, trivial⟩ ?_
          rcases e3 : sub (j + 1) with g | ⟨j3, cs3, v3⟩
          · rw [e3] at hp4
            exact ih _ (by omega) (c - 1) 0 0 [] (fun _ => 0) _ σ4 J4 rfl (FrE.tr hf (FrE.tr hf3 hf4)) (Or.inr ⟨g, hT.symm.trans (pLoop_in ho e3), hp4.1, hp4.2⟩)
          · rw [e3] at hp4
            obtain ⟨hx4, ha4⟩ := hp4
            obtain ⟨z1, z2, -, -⟩ := hok _ _ _ _ e3
            exact ih _ (by omega) (c - 1) j3 f (cs ++ cs3 ++ [cc]) (fun env => joinI cc (v env) (v3 env)) _ σ4 J4 rfl (FrE.tr hf (FrE.tr hf3 hf4)) (Or.inl ⟨by omega, z2, by omega, (by show _ = joinI cc (v env) (v3 env); rw [hcc, ← hwv, ← hx4]; try rfl), ha4, (pLoop_go ho e3).symm.trans hT⟩)
        · skip
          refine v_iload_n hX rfl qX12_either_35 ?_
          first | refine v_if_eqB hX 43 qX12_either_36 rfl (fun q36 => ?_) (fun q36 => ?_) | refine v_if_eq hX 43 qX12_either_36 rfl (fun q36 => ?_) (fun q36 => ?_)
          · skip
            refine v_iconst hX li_0 qX12_either_43 ?_
            refine v_eqI (show _ = joinI (-7) w x4 by
              show _ = bz (¬ w = 0 ∨ ¬ x4 = 0)
              first
              | exact (bz_t (Or.inl q32)).symm
              | exact (bz_t (Or.inr q36)).symm
              | exact (bz_f (fun z => z.elim (fun y => y q32) (fun y => y q36))).symm) ?_
            refine v_istore_n hX (Nat.le_of_ble_eq_true rfl) rfl (ls' := [some _, some _, some _]) rfl qX12_either_44 ?_
            refine v_goto hX 5 qX12_either_45 rfl ?_
            refine v_forget (ls' := [_, _, none]) ⟨Or.inr rfl, Or.inr rfl, Or.inl rfl, trivial⟩ ?_
            rcases e3 : sub (j + 1) with g | ⟨j3, cs3, v3⟩
            · rw [e3] at hp4
              exact ih _ (by omega) (c - 1) 0 0 [] (fun _ => 0) _ σ4 J4 rfl (FrE.tr hf (FrE.tr hf3 hf4)) (Or.inr ⟨g, hT.symm.trans (pLoop_in ho e3), hp4.1, hp4.2⟩)
            · rw [e3] at hp4
              obtain ⟨hx4, ha4⟩ := hp4
              obtain ⟨z1, z2, -, -⟩ := hok _ _ _ _ e3
              exact ih _ (by omega) (c - 1) j3 f (cs ++ cs3 ++ [cc]) (fun env => joinI cc (v env) (v3 env)) _ σ4 J4 rfl (FrE.tr hf (FrE.tr hf3 hf4)) (Or.inl ⟨by omega, z2, by omega, (by show _ = joinI cc (v env) (v3 env); rw [hcc, ← hwv, ← hx4]; try rfl), ha4, (pLoop_go ho e3).symm.trans hT⟩)
          · skip
            refine v_iconst hX li_1 qX12_either_39 ?_
            refine v_goto hX 44 qX12_either_40 rfl ?_
            refine v_eqI (show _ = joinI (-7) w x4 by
              show _ = bz (¬ w = 0 ∨ ¬ x4 = 0)
              first
              | exact (bz_t (Or.inl q32)).symm
              | exact (bz_t (Or.inr q36)).symm
              | exact (bz_f (fun z => z.elim (fun y => y q32) (fun y => y q36))).symm) ?_
            refine v_istore_n hX (Nat.le_of_ble_eq_true rfl) rfl (ls' := [some _, some _, some _]) rfl qX12_either_44 ?_
            refine v_goto hX 5 qX12_either_45 rfl ?_
            refine v_forget (ls' := [_, _, none]) ⟨Or.inr rfl, Or.inr rfl, Or.inl rfl, trivial⟩ ?_
            rcases e3 : sub (j + 1) with g | ⟨j3, cs3, v3⟩
            · rw [e3] at hp4
              exact ih _ (by omega) (c - 1) 0 0 [] (fun _ => 0) _ σ4 J4 rfl (FrE.tr hf (FrE.tr hf3 hf4)) (Or.inr ⟨g, hT.symm.trans (pLoop_in ho e3), hp4.1, hp4.2⟩)
            · rw [e3] at hp4
              obtain ⟨hx4, ha4⟩ := hp4
              obtain ⟨z1, z2, -, -⟩ := hok _ _ _ _ e3
              exact ih _ (by omega) (c - 1) j3 f (cs ++ cs3 ++ [cc]) (fun env => joinI cc (v env) (v3 env)) _ σ4 J4 rfl (FrE.tr hf (FrE.tr hf3 hf4)) (Or.inl ⟨by omega, z2, by omega, (by show _ = joinI cc (v env) (v3 env); rw [hcc, ← hwv, ← hx4]; try rfl), ha4, (pLoop_go ho e3).symm.trans hT⟩)
    · skip
      refine v_bipush hX lb_111 qX12_either_6 ?_
      refine v_bipush hX lb_114 qX12_either_8 ?_
      refine v_iconst hX li_0 qX12_either_10 ?_
      refine v_iconst hX li_0 qX12_either_11 ?_
      refine v_iconst hX li_0 qX12_either_12 ?_
      refine v_iconst hX li_0 qX12_either_13 ?_
      refine v_iconst hX li_0 qX12_either_14 ?_
      refine v_iconst hX li_0 qX12_either_15 ?_
      refine v_callVq hX hR k_X12_176 (hm.kd 38 rfl) (m_isWordB (by exact hm) (by exact hb) _ _ _ _ _ _ _ _) rfl (by omega) rfl (Nat.le_of_ble_eq_true rfl) ⟨Nat.le_of_ble_eq_true rfl, Nat.le_of_ble_eq_true rfl⟩ qX12_either_16 ?_
      rintro _ _ ⟨rfl, rfl⟩
      first | refine v_if_eqB hX 48 qX12_either_19 rfl (fun q19 => ?_) (fun q19 => ?_) | refine v_if_eq hX 48 qX12_either_19 rfl (fun q19 => ?_) (fun q19 => ?_)
      · skip
        refine v_iload_n hX rfl qX12_either_48 ?_
        refine v_ireturn hX qX12_either_49 (hP _ _ ?_)
        exact ⟨σ, J, w, rfl, rfl, hf, PoM.of (r := .inl g) ⟨hb, hfl⟩ hT⟩
      · exact absurd rfl q19
  rcases e1 : sub i with g | ⟨j1, cs1, v1⟩
  · rw [e1] at hp1
    exact L5 _ 0 0 0 [] (fun _ => 0) x1 σ1 J1 rfl hf1 (Or.inr ⟨g, pSeq_in e1, hp1.1, hp1.2⟩)
  · rw [e1] at hp1
    obtain ⟨hx1, ha1⟩ := hp1
    obtain ⟨y1, y2, -, -⟩ := hok _ _ _ _ e1
    exact L5 _ (nT by' sz + 1) j1 (nT by' sz) cs1 v1 x1 σ1 J1 rfl hf1 (Or.inl ⟨by omega, y2, by omega, hx1, ha1, (pSeq_go e1).symm⟩)
theorem qX12_added_0 : Dq cX12_added 0 (.aload_n 0) 1 1 := ⟨by decide +kernel, rfl⟩
theorem qX12_added_1 : Dq cX12_added 1 (.invokevirtual 215) 3 4 := ⟨by decide +kernel, rfl⟩
theorem qX12_added_4 : Dq cX12_added 4 (.istore_n 1) 1 5 := ⟨by decide +kernel, rfl⟩
theorem qX12_added_5 : Dq cX12_added 5 (.aload_n 0) 1 6 := ⟨by decide +kernel, rfl⟩
theorem qX12_added_6 : Dq cX12_added 6 (.bipush 43) 2 8 := ⟨by decide +kernel, rfl⟩
theorem qX12_added_8 : Dq cX12_added 8 (.invokevirtual 198) 3 11 := ⟨by decide +kernel, rfl⟩
theorem qX12_added_11 : Dq cX12_added 11 (.ifCond .ne 12) 3 14 := ⟨by decide +kernel, rfl⟩
theorem qX12_added_14 : Dq cX12_added 14 (.aload_n 0) 1 15 := ⟨by decide +kernel, rfl⟩
theorem qX12_added_15 : Dq cX12_added 15 (.bipush 45) 2 17 := ⟨by decide +kernel, rfl⟩
theorem qX12_added_17 : Dq cX12_added 17 (.invokevirtual 198) 3 20 := ⟨by decide +kernel, rfl⟩
theorem qX12_added_20 : Dq cX12_added 20 (.ifCond .eq 46) 3 23 := ⟨by decide +kernel, rfl⟩
theorem qX12_added_23 : Dq cX12_added 23 (.aload_n 0) 1 24 := ⟨by decide +kernel, rfl⟩
theorem qX12_added_24 : Dq cX12_added 24 (.getfield 150) 3 27 := ⟨by decide +kernel, rfl⟩
theorem qX12_added_27 : Dq cX12_added 27 (.ldc2_w 218) 3 30 := ⟨by decide +kernel, rfl⟩
theorem qX12_added_30 : Dq cX12_added 30 (.lcmp) 1 31 := ⟨by decide +kernel, rfl⟩
theorem qX12_added_31 : Dq cX12_added 31 (.ifCond .ne 7) 3 34 := ⟨by decide +kernel, rfl⟩
theorem qX12_added_34 : Dq cX12_added 34 (.iconst 1) 1 35 := ⟨by decide +kernel, rfl⟩
theorem qX12_added_35 : Dq cX12_added 35 (.goto 4) 3 38 := ⟨by decide +kernel, rfl⟩
theorem qX12_added_38 : Dq cX12_added 38 (.iconst 0) 1 39 := ⟨by decide +kernel, rfl⟩
theorem qX12_added_39 : Dq cX12_added 39 (.istore_n 2) 1 40 := ⟨by decide +kernel, rfl⟩
theorem qX12_added_40 : Dq cX12_added 40 (.aload_n 0) 1 41 := ⟨by decide +kernel, rfl⟩
theorem qX12_added_41 : Dq cX12_added 41 (.invokevirtual 173) 3 44 := ⟨by decide +kernel, rfl⟩
theorem qX12_added_44 : Dq cX12_added 44 (.aload_n 0) 1 45 := ⟨by decide +kernel, rfl⟩
theorem qX12_added_45 : Dq cX12_added 45 (.invokevirtual 215) 3 48 := ⟨by decide +kernel, rfl⟩
theorem qX12_added_48 : Dq cX12_added 48 (.istore_n 3) 1 49 := ⟨by decide +kernel, rfl⟩
theorem qX12_added_49 : Dq cX12_added 49 (.iload_n 2) 1 50 := ⟨by decide +kernel, rfl⟩
theorem qX12_added_50 : Dq cX12_added 50 (.ifCond .eq 9) 3 53 := ⟨by decide +kernel, rfl⟩
theorem qX12_added_53 : Dq cX12_added 53 (.iload_n 1) 1 54 := ⟨by decide +kernel, rfl⟩
theorem qX12_added_54 : Dq cX12_added 54 (.iload_n 3) 1 55 := ⟨by decide +kernel, rfl⟩
theorem qX12_added_55 : Dq cX12_added 55 (.iadd) 1 56 := ⟨by decide +kernel, rfl⟩
theorem qX12_added_56 : Dq cX12_added 56 (.goto 6) 3 59 := ⟨by decide +kernel, rfl⟩
theorem qX12_added_59 : Dq cX12_added 59 (.iload_n 1) 1 60 := ⟨by decide +kernel, rfl⟩
theorem qX12_added_60 : Dq cX12_added 60 (.iload_n 3) 1 61 := ⟨by decide +kernel, rfl⟩
theorem qX12_added_61 : Dq cX12_added 61 (.isub) 1 62 := ⟨by decide +kernel, rfl⟩
theorem qX12_added_62 : Dq cX12_added 62 (.istore_n 1) 1 63 := ⟨by decide +kernel, rfl⟩
theorem qX12_added_63 : Dq cX12_added 63 (.goto (-58)) 3 66 := ⟨by decide +kernel, rfl⟩
theorem qX12_added_66 : Dq cX12_added 66 (.iload_n 1) 1 67 := ⟨by decide +kernel, rfl⟩
theorem qX12_added_67 : Dq cX12_added 67 (.ireturn) 1 68 := ⟨by decide +kernel, rfl⟩
set_option maxRecDepth 100000 in
set_option maxHeartbeats 4000000 in
theorem m_added {G : Glb} {by' : Nat → Int32} {sz t d o : Nat} (hd : 10 ≤ d) {sub : Nat → PR} {N : Nat} (hsub : MSub G by' sz t m_X12_term d o sub) (hok : SubOK (nT by' sz) sub N) (h : AHp) (i : Nat) (env : Nat → Int32) (hm : ShM h) (ha : MAt by' sz t o i h) (he : EnvM h env) : CP G m_X12_added (d + 1) 0 0 [.ref 38] h (fun r h' => ∃ σ J x, r = some (.int x) ∧ h' = mkH h σ J ∧ FrE h σ J ∧ PoM by' sz t o env h σ J x (pSeq (tkK by' sz) (nT by' sz) opS sub i)) := by
  suffices key : ∀ P : Option Value → AHp → Prop, (∀ r h', (∃ σ J x, r = some (.int x) ∧ h' = mkH h σ J ∧ FrE h σ J ∧ PoM by' sz t o env h σ J x (pSeq (tkK by' sz) (nT by' sz) opS sub i)) → P r h') → CP G m_X12_added (d + 1) 0 0 [.ref 38] h P from key _ (fun _ _ z => z)
  intro P hP
  refine CP.of (by decide +kernel) (Nat.le_of_ble_eq_true rfl) fun X hX hR hnm => ?_
  show V X G 4 0 0 _ 0 [some (.ref 38), none, none, none] [] h
  refine v_aload_n hX rfl qX12_added_0 ?_
  refine v_callVq hX hR k_X12_215 (hm.kd 38 rfl) (hsub _ (by exact i) (by exact env) (by exact hm) (by exact ha) (by exact he)) rfl (by omega) rfl (Nat.le_of_ble_eq_true rfl) ⟨Nat.le_of_ble_eq_true rfl, Nat.le_of_ble_eq_true rfl⟩ qX12_added_1 ?_
  rintro _ _ ⟨σ1, J1, x1, rfl, rfl, hf1, hp1⟩
  refine v_istore_n hX (Nat.le_of_ble_eq_true rfl) rfl (ls' := [some _, some _, none, none]) rfl qX12_added_4 ?_
  have L5 : ∀ (mz : Nat) (c j f : Nat) (cs : List Int32) (v : (Nat → Int32) → Int32) (w : Int32) (σ : Nat → Nat → Int32) (J : Nat → Nat → Int64), c = mz → (FrE h σ J) → ((nT by' sz + 1 ≤ c + j ∧ j ≤ nT by' sz ∧ nT by' sz ≤ j + f ∧ w = v env ∧ MAt by' sz t o j (mkH h σ J) ∧ pLoop (tkK by' sz) opS sub f j cs v = pSeq (tkK by' sz) (nT by' sz) opS sub i) ∨ (∃ g, pSeq (tkK by' sz) (nT by' sz) opS sub i = .inl g ∧ σ 38 28 = 1 ∧ σ 38 29 = nI (pl by' sz g))) → V X G 4 0 0 (QM X G P 0 0) 5 [some (.ref 38), some (.int w), none, none] [] (mkH h σ J) := by
    intro mz
    induction mz using Nat.strongRecOn with
    | _ mz ih =>
    intro c j f cs v w σ J hmz hf hmm
    refine v_aload_n hX rfl qX12_added_5 ?_
    rcases hmm with ⟨hc, hj, hff, hwv, ha2, hT⟩ | ⟨g, hT, hb, hfl⟩
    · skip
      refine v_bipush hX lb_43 qX12_added_6 ?_
      refine v_callVq hX hR k_X12_198 (hm.kd 38 rfl) (m_sgA (by exact hm) (by exact ha2) (s := 43) (by decide)) rfl (by omega) rfl (Nat.le_of_ble_eq_true rfl) ⟨Nat.le_of_ble_eq_true rfl, Nat.le_of_ble_eq_true rfl⟩ qX12_added_8 ?_
      rintro _ _ ⟨rfl, rfl⟩
      first | refine v_if_neB hX 23 qX12_added_11 rfl (fun q11 => ?_) (fun q11 => ?_) | refine v_if_ne hX 23 qX12_added_11 rfl (fun q11 => ?_) (fun q11 => ?_)
      · obtain ⟨cc, hcc, ho⟩ : ∃ cc : Int32, cc = -12 ∧ opS (tkK by' sz j) = some cc := ⟨_, rfl, if_pos q11⟩
        have h3 := (sg_iff (c := 43) (by decide)).mpr q11
        have hw9 : hpJ (mkH h σ J) 38 26 = 43 := by rw [(ha2.2.2.2.2.2.2 h3.1).2, h3.2]; rfl
        have hm13 := Or.inr (a := mT by' sz (pl by' sz j) = 1) (Or.inr (a := mT by' sz (pl by' sz j) = 2) h3.1)
        have hjn : j < nT by' sz := kLt (fun i h => tkK_0 h) q11 (by decide)
        obtain ⟨f, rfl⟩ : ∃ f2, f = f2 + 1 := ⟨f - 1, by omega⟩
        refine v_aload_n hX rfl qX12_added_23 ?_
        refine v_getJ hX g_X12_150 (hm.kd 38 rfl) qX12_added_24 ?_
        refine v_ldc2 hX c_X12_218 qX12_added_27 ?_
        refine v_lcmp hX qX12_added_30 ?_
        first | refine v_if_neB hX 38 qX12_added_31 rfl (fun q31 => ?_) (fun q31 => ?_) | refine v_if_ne hX 38 qX12_added_31 rfl (fun q31 => ?_) (fun q31 => ?_)
        · exact absurd ((lg_cmp_eq _ _).mpr hw9) q31
        · skip
          refine v_iconst hX li_1 qX12_added_34 ?_
          refine v_goto hX 39 qX12_added_35 rfl ?_
          refine v_istore_n hX (Nat.le_of_ble_eq_true rfl) rfl (ls' := [some _, some _, some _, none]) rfl qX12_added_39 ?_
          refine v_aload_n hX rfl qX12_added_40 ?_
          refine v_callVq hX hR k_X12_173 (hm.kd 38 rfl) (m_nx (by exact hm) (by exact ha2) (by exact hm13)) rfl (by omega) rfl (Nat.le_of_ble_eq_true rfl) ⟨Nat.le_of_ble_eq_true rfl, Nat.le_of_ble_eq_true rfl⟩ qX12_added_41 ?_
          rintro _ _ ⟨rfl, σ3, J3, rfl, hf3, ha3⟩
          refine v_aload_n hX rfl qX12_added_44 ?_
          refine v_callVq hX hR k_X12_215 (hm.kd 38 rfl) (hsub _ (by exact (j + 1)) (by exact env) (by exact hm) (by exact ha3) (by exact (hf3.env (hf.env he)))) rfl (by omega) rfl (Nat.le_of_ble_eq_true rfl) ⟨Nat.le_of_ble_eq_true rfl, Nat.le_of_ble_eq_true rfl⟩ qX12_added_45 ?_
          rintro _ _ ⟨σ4, J4, x4, rfl, rfl, hf4, hp4⟩
          refine v_istore_n hX (Nat.le_of_ble_eq_true rfl) rfl (ls' := [some _, some _, some _, some _]) rfl qX12_added_48 ?_
          refine v_iload_n hX rfl qX12_added_49 ?_
          first | refine v_if_eqB hX 59 qX12_added_50 rfl (fun q50 => ?_) (fun q50 => ?_) | refine v_if_eq hX 59 qX12_added_50 rfl (fun q50 => ?_) (fun q50 => ?_)
          · exact absurd q50 (by decide)
          · skip
            refine v_iload_n hX rfl qX12_added_53 ?_
            refine v_iload_n hX rfl qX12_added_54 ?_
            refine v_iadd hX qX12_added_55 ?_
            refine v_goto hX 62 qX12_added_56 rfl ?_
            refine v_istore_n hX (Nat.le_of_ble_eq_true rfl) rfl (ls' := [some _, some _, some _, some _]) rfl qX12_added_62 ?_
            refine v_goto hX 5 qX12_added_63 rfl ?_
            refine v_forget (ls' := [_, _, none, none]) ⟨Or.inr rfl, Or.inr rfl, Or.inl rfl, Or.inl rfl, trivial⟩ ?_
            rcases e3 : sub (j + 1) with g | ⟨j3, cs3, v3⟩
            · rw [e3] at hp4
              exact ih _ (by omega) (c - 1) 0 0 [] (fun _ => 0) _ σ4 J4 rfl (FrE.tr hf (FrE.tr hf3 hf4)) (Or.inr ⟨g, hT.symm.trans (pLoop_in ho e3), hp4.1, hp4.2⟩)
            · rw [e3] at hp4
              obtain ⟨hx4, ha4⟩ := hp4
              obtain ⟨z1, z2, -, -⟩ := hok _ _ _ _ e3
              exact ih _ (by omega) (c - 1) j3 f (cs ++ cs3 ++ [cc]) (fun env => joinI cc (v env) (v3 env)) _ σ4 J4 rfl (FrE.tr hf (FrE.tr hf3 hf4)) (Or.inl ⟨by omega, z2, by omega, (by show _ = joinI cc (v env) (v3 env); rw [hcc, ← hwv, ← hx4]; try rfl), ha4, (pLoop_go ho e3).symm.trans hT⟩)
      · skip
        refine v_aload_n hX rfl qX12_added_14 ?_
        refine v_bipush hX lb_45 qX12_added_15 ?_
        refine v_callVq hX hR k_X12_198 (hm.kd 38 rfl) (m_sgA (by exact hm) (by exact ha2) (s := 45) (by decide)) rfl (by omega) rfl (Nat.le_of_ble_eq_true rfl) ⟨Nat.le_of_ble_eq_true rfl, Nat.le_of_ble_eq_true rfl⟩ qX12_added_17 ?_
        rintro _ _ ⟨rfl, rfl⟩
        first | refine v_if_eqB hX 66 qX12_added_20 rfl (fun q20 => ?_) (fun q20 => ?_) | refine v_if_eq hX 66 qX12_added_20 rfl (fun q20 => ?_) (fun q20 => ?_)
        · have ho : opS (tkK by' sz j) = none := by unfold opS; rw [if_neg q11, if_neg q20]
          refine v_iload_n hX rfl qX12_added_66 ?_
          refine v_ireturn hX qX12_added_67 (hP _ _ ?_)
          exact ⟨σ, J, w, rfl, rfl, hf, PoM.of (r := .inr (j, cs, v)) ⟨hwv, ha2⟩ (hT.symm.trans (pLoop_no ho))⟩
        · obtain ⟨cc, hcc, ho⟩ : ∃ cc : Int32, cc = -13 ∧ opS (tkK by' sz j) = some cc := ⟨_, rfl, by unfold opS; rw [if_neg q11, if_pos q20]⟩
          have h3 := (sg_iff (c := 45) (by decide)).mpr q20
          have hw9 : hpJ (mkH h σ J) 38 26 = 45 := by rw [(ha2.2.2.2.2.2.2 h3.1).2, h3.2]; rfl
          have hm13 := Or.inr (a := mT by' sz (pl by' sz j) = 1) (Or.inr (a := mT by' sz (pl by' sz j) = 2) h3.1)
          have hjn : j < nT by' sz := kLt (fun i h => tkK_0 h) q20 (by decide)
          obtain ⟨f, rfl⟩ : ∃ f2, f = f2 + 1 := ⟨f - 1, by omega⟩
          refine v_aload_n hX rfl qX12_added_23 ?_
          refine v_getJ hX g_X12_150 (hm.kd 38 rfl) qX12_added_24 ?_
          refine v_ldc2 hX c_X12_218 qX12_added_27 ?_
          refine v_lcmp hX qX12_added_30 ?_
          first | refine v_if_neB hX 38 qX12_added_31 rfl (fun q31 => ?_) (fun q31 => ?_) | refine v_if_ne hX 38 qX12_added_31 rfl (fun q31 => ?_) (fun q31 => ?_)
          · skip
            refine v_iconst hX li_0 qX12_added_38 ?_
            refine v_istore_n hX (Nat.le_of_ble_eq_true rfl) rfl (ls' := [some _, some _, some _, none]) rfl qX12_added_39 ?_
            refine v_aload_n hX rfl qX12_added_40 ?_
            refine v_callVq hX hR k_X12_173 (hm.kd 38 rfl) (m_nx (by exact hm) (by exact ha2) (by exact hm13)) rfl (by omega) rfl (Nat.le_of_ble_eq_true rfl) ⟨Nat.le_of_ble_eq_true rfl, Nat.le_of_ble_eq_true rfl⟩ qX12_added_41 ?_
            rintro _ _ ⟨rfl, σ3, J3, rfl, hf3, ha3⟩
            refine v_aload_n hX rfl qX12_added_44 ?_
            refine v_callVq hX hR k_X12_215 (hm.kd 38 rfl) (hsub _ (by exact (j + 1)) (by exact env) (by exact hm) (by exact ha3) (by exact (hf3.env (hf.env he)))) rfl (by omega) rfl (Nat.le_of_ble_eq_true rfl) ⟨Nat.le_of_ble_eq_true rfl, Nat.le_of_ble_eq_true rfl⟩ qX12_added_45 ?_
            rintro _ _ ⟨σ4, J4, x4, rfl, rfl, hf4, hp4⟩
            refine v_istore_n hX (Nat.le_of_ble_eq_true rfl) rfl (ls' := [some _, some _, some _, some _]) rfl qX12_added_48 ?_
            refine v_iload_n hX rfl qX12_added_49 ?_
            first | refine v_if_eqB hX 59 qX12_added_50 rfl (fun q50 => ?_) (fun q50 => ?_) | refine v_if_eq hX 59 qX12_added_50 rfl (fun q50 => ?_) (fun q50 => ?_)
            · skip
              refine v_iload_n hX rfl qX12_added_59 ?_
              refine v_iload_n hX rfl qX12_added_60 ?_
              refine v_isub hX qX12_added_61 ?_
              refine v_istore_n hX (Nat.le_of_ble_eq_true rfl) rfl (ls' := [some _, some _, some _, some _]) rfl qX12_added_62 ?_
              refine v_goto hX 5 qX12_added_63 rfl ?_
              refine v_forget (ls' := [_, _, none, none]) ⟨Or.inr rfl, Or.inr rfl, Or.inl rfl, Or.inl rfl, trivial⟩ ?_
              rcases e3 : sub (j + 1) with g | ⟨j3, cs3, v3⟩
              · rw [e3] at hp4
                exact ih _ (by omega) (c - 1) 0 0 [] (fun _ => 0) _ σ4 J4 rfl (FrE.tr hf (FrE.tr hf3 hf4)) (Or.inr ⟨g, hT.symm.trans (pLoop_in ho e3), hp4.1, hp4.2⟩)
              · rw [e3] at hp4
                obtain ⟨hx4, ha4⟩ := hp4
                obtain ⟨z1, z2, -, -⟩ := hok _ _ _ _ e3
                exact ih _ (by omega) (c - 1) j3 f (cs ++ cs3 ++ [cc]) (fun env => joinI cc (v env) (v3 env)) _ σ4 J4 rfl (FrE.tr hf (FrE.tr hf3 hf4)) (Or.inl ⟨by omega, z2, by omega, (by show _ = joinI cc (v env) (v3 env); rw [hcc, ← hwv, ← hx4]; try rfl), ha4, (pLoop_go ho e3).symm.trans hT⟩)
            · exact absurd rfl q50
          · exact absurd (hw9.symm.trans ((lg_cmp_eq _ _).mp q31)) (by decide)
    · skip
      refine v_bipush hX lb_43 qX12_added_6 ?_
      refine v_callVq hX hR k_X12_198 (hm.kd 38 rfl) (m_sgB (by exact hm) (by exact hb) (by exact 43)) rfl (by omega) rfl (Nat.le_of_ble_eq_true rfl) ⟨Nat.le_of_ble_eq_true rfl, Nat.le_of_ble_eq_true rfl⟩ qX12_added_8 ?_
      rintro _ _ ⟨rfl, rfl⟩
      first | refine v_if_neB hX 23 qX12_added_11 rfl (fun q11 => ?_) (fun q11 => ?_) | refine v_if_ne hX 23 qX12_added_11 rfl (fun q11 => ?_) (fun q11 => ?_)
      · exact absurd rfl q11
      · skip
        refine v_aload_n hX rfl qX12_added_14 ?_
        refine v_bipush hX lb_45 qX12_added_15 ?_
        refine v_callVq hX hR k_X12_198 (hm.kd 38 rfl) (m_sgB (by exact hm) (by exact hb) (by exact 45)) rfl (by omega) rfl (Nat.le_of_ble_eq_true rfl) ⟨Nat.le_of_ble_eq_true rfl, Nat.le_of_ble_eq_true rfl⟩ qX12_added_17 ?_
        rintro _ _ ⟨rfl, rfl⟩
        first | refine v_if_eqB hX 66 qX12_added_20 rfl (fun q20 => ?_) (fun q20 => ?_) | refine v_if_eq hX 66 qX12_added_20 rfl (fun q20 => ?_) (fun q20 => ?_)
        · skip
          refine v_iload_n hX rfl qX12_added_66 ?_
          refine v_ireturn hX qX12_added_67 (hP _ _ ?_)
          exact ⟨σ, J, w, rfl, rfl, hf, PoM.of (r := .inl g) ⟨hb, hfl⟩ hT⟩
        · exact absurd rfl q20
  rcases e1 : sub i with g | ⟨j1, cs1, v1⟩
  · rw [e1] at hp1
    exact L5 _ 0 0 0 [] (fun _ => 0) x1 σ1 J1 rfl hf1 (Or.inr ⟨g, pSeq_in e1, hp1.1, hp1.2⟩)
  · rw [e1] at hp1
    obtain ⟨hx1, ha1⟩ := hp1
    obtain ⟨y1, y2, -, -⟩ := hok _ _ _ _ e1
    exact L5 _ (nT by' sz + 1) j1 (nT by' sz) cs1 v1 x1 σ1 J1 rfl hf1 (Or.inl ⟨by omega, y2, by omega, hx1, ha1, (pSeq_go e1).symm⟩)
