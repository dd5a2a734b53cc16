/-! public calls of the reference: likely, here, most, drawn -/
theorem qX12_onCells_0 : Dq cX12_onCells 0 (.iconst 0) 1 1 := ⟨by decide +kernel, rfl⟩
theorem qX12_onCells_1 : Dq cX12_onCells 1 (.istore_n 1) 1 2 := ⟨by decide +kernel, rfl⟩
theorem qX12_onCells_2 : Dq cX12_onCells 2 (.iconst 0) 1 3 := ⟨by decide +kernel, rfl⟩
theorem qX12_onCells_3 : Dq cX12_onCells 3 (.istore_n 2) 1 4 := ⟨by decide +kernel, rfl⟩
theorem qX12_onCells_4 : Dq cX12_onCells 4 (.iload_n 2) 1 5 := ⟨by decide +kernel, rfl⟩
theorem qX12_onCells_5 : Dq cX12_onCells 5 (.bipush 48) 2 7 := ⟨by decide +kernel, rfl⟩
theorem qX12_onCells_7 : Dq cX12_onCells 7 (.if_icmp .ge 18) 3 10 := ⟨by decide +kernel, rfl⟩
theorem qX12_onCells_10 : Dq cX12_onCells 10 (.iload_n 1) 1 11 := ⟨by decide +kernel, rfl⟩
theorem qX12_onCells_11 : Dq cX12_onCells 11 (.aload_n 0) 1 12 := ⟨by decide +kernel, rfl⟩
theorem qX12_onCells_12 : Dq cX12_onCells 12 (.getfield 23) 3 15 := ⟨by decide +kernel, rfl⟩
theorem qX12_onCells_15 : Dq cX12_onCells 15 (.iload_n 2) 1 16 := ⟨by decide +kernel, rfl⟩
theorem qX12_onCells_16 : Dq cX12_onCells 16 (.iaload) 1 17 := ⟨by decide +kernel, rfl⟩
theorem qX12_onCells_17 : Dq cX12_onCells 17 (.iadd) 1 18 := ⟨by decide +kernel, rfl⟩
theorem qX12_onCells_18 : Dq cX12_onCells 18 (.istore_n 1) 1 19 := ⟨by decide +kernel, rfl⟩
theorem qX12_onCells_19 : Dq cX12_onCells 19 (.iinc 2 1) 3 22 := ⟨by decide +kernel, rfl⟩
theorem qX12_onCells_22 : Dq cX12_onCells 22 (.goto (-18)) 3 25 := ⟨by decide +kernel, rfl⟩
theorem qX12_onCells_25 : Dq cX12_onCells 25 (.iload_n 1) 1 26 := ⟨by decide +kernel, rfl⟩
theorem qX12_onCells_26 : Dq cX12_onCells 26 (.ireturn) 1 27 := ⟨by decide +kernel, rfl⟩
set_option maxRecDepth 100000 in
set_option maxHeartbeats 4000000 in
theorem m_onCells {G : Glb} {h : AHp} {E : Sst} (hc : MW h E)  : CP G m_X12_onCells 1 0 0 [.ref 38] h (fun r h' => r = some (.int (onI (sB E))) ∧ h = h') := by
  suffices key : ∀ P : Option Value → AHp → Prop, (∀ r h', (r = some (.int (onI (sB E))) ∧ h = h') → P r h') → CP G m_X12_onCells 1 0 0 [.ref 38] h P from key _ (fun _ _ z => z)
  intro P hP
  obtain ⟨hm, htx, hp, hb, hkp, htp, hst, hok⟩ := id hc
  have hc6 := hok.1
  have hm6 := hok.2.1
  have hkd : ∀ i, i < sM E → sK E i < 6 := fun i hi => (hok.2.2.1 i hi).1
  have hnu : ∀ i, i < sM E → inR (sN E i) 9 := fun i hi => (hok.2.2.1 i hi).2
  have hbe : BeOK (bm h) (sC E) := by rw [hb]; exact hok.2.2.2.1
  refine CP.of (by decide +kernel) (Nat.le_of_ble_eq_true rfl) fun X hX hR hnm => ?_
  show V X G 3 0 0 _ 0 [some (.ref 38), none, none] [] h
  refine v_iconst hX li_0 qX12_onCells_0 ?_
  refine v_istore_n hX (Nat.le_of_ble_eq_true rfl) rfl (ls' := [some _, some _, none]) rfl qX12_onCells_1 ?_
  refine v_iconst hX li_0 qX12_onCells_2 ?_
  refine v_istore_n hX (Nat.le_of_ble_eq_true rfl) rfl (ls' := [some _, some _, some _]) rfl qX12_onCells_3 ?_
  have L4 : ∀ (mz : Nat) (i : Nat), 48 - i = mz → (i ≤ 48) → V X G 3 0 0 (QM X G P 0 0) 4 [some (.ref 38), some (.int (sumN (sB E 1) i)), some (.int (nI i))] [] h := by
    intro mz
    induction mz using Nat.strongRecOn with
    | _ mz ih =>
    intro i hmz hi
    refine v_iload_n hX rfl qX12_onCells_4 ?_
    refine v_bipush hX lb_48 qX12_onCells_5 ?_
    refine v_icmp_geS hX 25 qX12_onCells_7 rfl (fun q7 => ?_) (fun q7 => ?_)
    · have e1 := geN (N := 48) rfl hi q7; subst e1
      refine v_iload_n hX rfl qX12_onCells_25 ?_
      refine v_ireturn hX qX12_onCells_26 (hP _ _ ?_)
      exact ⟨rfl, rfl⟩
    · have hl := ltN (N := 48) rfl hi q7
      refine v_iload_n hX rfl qX12_onCells_10 ?_
      refine v_aload_n hX rfl qX12_onCells_11 ?_
      refine v_getR hX g_X12_23 (hm.kd 38 rfl) (hm.rf 3 rfl) qX12_onCells_12 ?_
      refine v_iload_n hX rfl qX12_onCells_15 ?_
      refine v_ialdV hX (hm.kd 42 rfl) (hm.ln 42 rfl) (by exact ix_n hl rfl) (show _ = sB E 1 i by rw [← hb, bm1 hl]) qX12_onCells_16 ?_
      refine v_iadd hX qX12_onCells_17 ?_
      refine v_istore_n hX (Nat.le_of_ble_eq_true rfl) rfl (ls' := [some _, some _, some _]) rfl qX12_onCells_18 ?_
      refine v_iinc hX rfl (by first | exact ii_nI _ | exact ii_1 _) (Nat.le_of_ble_eq_true rfl) rfl (ls' := [some _, some _, some _]) rfl qX12_onCells_19 ?_
      refine v_goto hX 4 qX12_onCells_22 rfl ?_
      exact ih _ (by omega) (i + 1) rfl (by omega)
  exact L4 _ 0 rfl (by omega)
theorem qX12_lowest_0 : Dq cX12_lowest 0 (.lload_n 0) 1 1 := ⟨by decide +kernel, rfl⟩
theorem qX12_lowest_1 : Dq cX12_lowest 1 (.lstore 5) 2 3 := ⟨by decide +kernel, rfl⟩
theorem qX12_lowest_3 : Dq cX12_lowest 3 (.lload_n 2) 1 4 := ⟨by decide +kernel, rfl⟩
theorem qX12_lowest_4 : Dq cX12_lowest 4 (.lstore 7) 2 6 := ⟨by decide +kernel, rfl⟩
theorem qX12_lowest_6 : Dq cX12_lowest 6 (.lload 7) 2 8 := ⟨by decide +kernel, rfl⟩
theorem qX12_lowest_8 : Dq cX12_lowest 8 (.lconst 0) 1 9 := ⟨by decide +kernel, rfl⟩
theorem qX12_lowest_9 : Dq cX12_lowest 9 (.lcmp) 1 10 := ⟨by decide +kernel, rfl⟩
theorem qX12_lowest_10 : Dq cX12_lowest 10 (.ifCond .eq 21) 3 13 := ⟨by decide +kernel, rfl⟩
theorem qX12_lowest_13 : Dq cX12_lowest 13 (.lload 5) 2 15 := ⟨by decide +kernel, rfl⟩
theorem qX12_lowest_15 : Dq cX12_lowest 15 (.lload 7) 2 17 := ⟨by decide +kernel, rfl⟩
theorem qX12_lowest_17 : Dq cX12_lowest 17 (.lrem) 1 18 := ⟨by decide +kernel, rfl⟩
theorem qX12_lowest_18 : Dq cX12_lowest 18 (.lstore 9) 2 20 := ⟨by decide +kernel, rfl⟩
theorem qX12_lowest_20 : Dq cX12_lowest 20 (.lload 7) 2 22 := ⟨by decide +kernel, rfl⟩
theorem qX12_lowest_22 : Dq cX12_lowest 22 (.lstore 5) 2 24 := ⟨by decide +kernel, rfl⟩
theorem qX12_lowest_24 : Dq cX12_lowest 24 (.lload 9) 2 26 := ⟨by decide +kernel, rfl⟩
theorem qX12_lowest_26 : Dq cX12_lowest 26 (.lstore 7) 2 28 := ⟨by decide +kernel, rfl⟩
theorem qX12_lowest_28 : Dq cX12_lowest 28 (.goto (-22)) 3 31 := ⟨by decide +kernel, rfl⟩
theorem qX12_lowest_31 : Dq cX12_lowest 31 (.iload 4) 2 33 := ⟨by decide +kernel, rfl⟩
theorem qX12_lowest_33 : Dq cX12_lowest 33 (.ifCond .ne 10) 3 36 := ⟨by decide +kernel, rfl⟩
theorem qX12_lowest_36 : Dq cX12_lowest 36 (.lload_n 0) 1 37 := ⟨by decide +kernel, rfl⟩
theorem qX12_lowest_37 : Dq cX12_lowest 37 (.lload 5) 2 39 := ⟨by decide +kernel, rfl⟩
theorem qX12_lowest_39 : Dq cX12_lowest 39 (.ldiv) 1 40 := ⟨by decide +kernel, rfl⟩
theorem qX12_lowest_40 : Dq cX12_lowest 40 (.goto 7) 3 43 := ⟨by decide +kernel, rfl⟩
theorem qX12_lowest_43 : Dq cX12_lowest 43 (.lload_n 2) 1 44 := ⟨by decide +kernel, rfl⟩
theorem qX12_lowest_44 : Dq cX12_lowest 44 (.lload 5) 2 46 := ⟨by decide +kernel, rfl⟩
theorem qX12_lowest_46 : Dq cX12_lowest 46 (.ldiv) 1 47 := ⟨by decide +kernel, rfl⟩
theorem qX12_lowest_47 : Dq cX12_lowest 47 (.lreturn) 1 48 := ⟨by decide +kernel, rfl⟩
set_option maxRecDepth 100000 in
set_option maxHeartbeats 4000000 in
theorem m_lowest {G : Glb} {h : AHp} {a b : Nat} (ha : a < 2 ^ 31) (hb31 : b < 2 ^ 31) (hb0 : 0 < b) (q : Int32) : CP G m_X12_lowest 1 0 0 [.long (lN a), .long (lN b), .int q] h (fun r h' => r = some (.long (loI a b q)) ∧ h = h') := by
  suffices key : ∀ P : Option Value → AHp → Prop, (∀ r h', (r = some (.long (loI a b q)) ∧ h = h') → P r h') → CP G m_X12_lowest 1 0 0 [.long (lN a), .long (lN b), .int q] h P from key _ (fun _ _ z => z)
  intro P hP
  refine CP.of (by decide +kernel) (Nat.le_of_ble_eq_true rfl) fun X hX hR hnm => ?_
  show V X G 11 0 0 _ 0 [some (.long (lN a)), none, some (.long (lN b)), none, some (.int q), none, none, none, none, none, none] [] h
  have hg0 : 0 < Nat.gcd a b := Nat.gcd_pos_of_pos_right a hb0
  have hg1 : Nat.gcd a b ≤ b := Nat.gcd_le_right a hb0
  refine v_lload_n hX rfl qX12_lowest_0 ?_
  refine v_lstore hX (Nat.le_of_ble_eq_true rfl) rfl (ls' := [some _, none, some _, none, some _, some _, none, none, none, none, none]) rfl qX12_lowest_1 ?_
  refine v_lload_n hX rfl qX12_lowest_3 ?_
  refine v_lstore hX (Nat.le_of_ble_eq_true rfl) rfl (ls' := [some _, none, some _, none, some _, some _, none, some _, none, none, none]) rfl qX12_lowest_4 ?_
  have L6 : ∀ (mz : Nat) (x y : Nat), y = mz → (x < 2 ^ 31) → (y < 2 ^ 31) → (Nat.gcd x y = Nat.gcd a b) → V X G 11 0 0 (QM X G P 0 0) 6 [some (.long (lN a)), none, some (.long (lN b)), none, some (.int q), some (.long (lN x)), none, some (.long (lN y)), none, none, none] [] h := by
    intro mz
    induction mz using Nat.strongRecOn with
    | _ mz ih =>
    intro x y hmz hx31 hy31 hg
    refine v_lload hX rfl qX12_lowest_6 ?_
    refine v_lconst hX ll_0 qX12_lowest_8 ?_
    refine v_lcmp hX qX12_lowest_9 ?_
    first | refine v_if_eqB hX 31 qX12_lowest_10 rfl (fun q10 => ?_) (fun q10 => ?_) | refine v_if_eq hX 31 qX12_lowest_10 rfl (fun q10 => ?_) (fun q10 => ?_)
    · have hy0 : y = 0 := by
          have z := (lg_cmp_eq _ _).mp q10
          rw [lN_0, pk_lEQ (by omega) (by omega)] at z
          exact z
      have hgx : x = Nat.gcd a b := by rw [← hg, hy0, Nat.gcd_zero_right]
      refine v_iload hX rfl qX12_lowest_31 ?_
      first | refine v_if_neB hX 43 qX12_lowest_33 rfl (fun q33 => ?_) (fun q33 => ?_) | refine v_if_ne hX 43 qX12_lowest_33 rfl (fun q33 => ?_) (fun q33 => ?_)
      · skip
        refine v_lload_n hX rfl qX12_lowest_43 ?_
        refine v_lload hX rfl qX12_lowest_44 ?_
        refine v_ldiv hX (fun z => by rw [lN_0, pk_lEQ (by omega) (by omega)] at z; omega) qX12_lowest_46 ?_
        refine v_eqL (pk_lDiv (by omega) (by omega) (by omega)) ?_
        refine v_lreturn hX qX12_lowest_47 (hP _ _ ?_)
        refine ⟨?_, rfl⟩
        rw [hgx]
        first | rw [loI, if_pos q33] | rw [loI, if_neg q33]
      · skip
        refine v_lload_n hX rfl qX12_lowest_36 ?_
        refine v_lload hX rfl qX12_lowest_37 ?_
        refine v_ldiv hX (fun z => by rw [lN_0, pk_lEQ (by omega) (by omega)] at z; omega) qX12_lowest_39 ?_
        refine v_goto hX 47 qX12_lowest_40 rfl ?_
        refine v_eqL (pk_lDiv (by omega) (by omega) (by omega)) ?_
        refine v_lreturn hX qX12_lowest_47 (hP _ _ ?_)
        refine ⟨?_, rfl⟩
        rw [hgx]
        first | rw [loI, if_pos q33] | rw [loI, if_neg q33]
    · have hy0 : 0 < y := Nat.pos_of_ne_zero (fun z => q10 ((lg_cmp_eq _ _).mpr (by rw [z]; rfl)))
      refine v_lload hX rfl qX12_lowest_13 ?_
      refine v_lload hX rfl qX12_lowest_15 ?_
      refine v_lrem hX (fun z => by rw [lN_0, pk_lEQ (by omega) (by omega)] at z; omega) qX12_lowest_17 ?_
      refine v_eqL (pk_lRem (by omega) hy0 (by omega)) ?_
      refine v_lstore hX (Nat.le_of_ble_eq_true rfl) rfl (ls' := [some _, none, some _, none, some _, some _, none, some _, none, some _, none]) rfl qX12_lowest_18 ?_
      refine v_lload hX rfl qX12_lowest_20 ?_
      refine v_lstore hX (Nat.le_of_ble_eq_true rfl) rfl (ls' := [some _, none, some _, none, some _, some _, none, some _, none, some _, none]) rfl qX12_lowest_22 ?_
      refine v_lload hX rfl qX12_lowest_24 ?_
      refine v_lstore hX (Nat.le_of_ble_eq_true rfl) rfl (ls' := [some _, none, some _, none, some _, some _, none, some _, none, some _, none]) rfl qX12_lowest_26 ?_
      refine v_goto hX 6 qX12_lowest_28 rfl ?_
      refine v_forget (ls' := [_, none, _, none, _, _, none, _, none, none, none]) ⟨Or.inr rfl, Or.inr rfl, Or.inr rfl, Or.inr rfl, Or.inr rfl, Or.inr rfl, Or.inr rfl, Or.inr rfl, Or.inr rfl, Or.inl rfl, Or.inr rfl, trivial⟩ ?_
      exact ih (x % y) (by have := Nat.mod_lt x hy0; omega) y (x % y) rfl hy31 (by have := Nat.mod_lt x hy0; omega) ((Nat.gcd_comm y (x % y)).trans ((Nat.gcd_rec y x).symm.trans ((Nat.gcd_comm y x).trans hg)))
  exact L6 _ a b rfl ha hb31 rfl
theorem qX12_likely_0 : Dq cX12_likely 0 (.iload_n 1) 1 1 := ⟨by decide +kernel, rfl⟩
theorem qX12_likely_1 : Dq cX12_likely 1 (.invokestatic 96) 3 4 := ⟨by decide +kernel, rfl⟩
theorem qX12_likely_4 : Dq cX12_likely 4 (.ifCond .eq 49) 3 7 := ⟨by decide +kernel, rfl⟩
theorem qX12_likely_7 : Dq cX12_likely 7 (.iload_n 2) 1 8 := ⟨by decide +kernel, rfl⟩
theorem qX12_likely_8 : Dq cX12_likely 8 (.i2l) 1 9 := ⟨by decide +kernel, rfl⟩
theorem qX12_likely_9 : Dq cX12_likely 9 (.lconst 0) 1 10 := ⟨by decide +kernel, rfl⟩
theorem qX12_likely_10 : Dq cX12_likely 10 (.lconst 1) 1 11 := ⟨by decide +kernel, rfl⟩
theorem qX12_likely_11 : Dq cX12_likely 11 (.invokestatic 87) 3 14 := ⟨by decide +kernel, rfl⟩
theorem qX12_likely_14 : Dq cX12_likely 14 (.ifCond .eq 39) 3 17 := ⟨by decide +kernel, rfl⟩
theorem qX12_likely_17 : Dq cX12_likely 17 (.aload_n 0) 1 18 := ⟨by decide +kernel, rfl⟩
theorem qX12_likely_18 : Dq cX12_likely 18 (.invokevirtual 320) 3 21 := ⟨by decide +kernel, rfl⟩
theorem qX12_likely_21 : Dq cX12_likely 21 (.aload_n 0) 1 22 := ⟨by decide +kernel, rfl⟩
theorem qX12_likely_22 : Dq cX12_likely 22 (.getfield 108) 3 25 := ⟨by decide +kernel, rfl⟩
theorem qX12_likely_25 : Dq cX12_likely 25 (.iadd) 1 26 := ⟨by decide +kernel, rfl⟩
theorem qX12_likely_26 : Dq cX12_likely 26 (.ifCond .le 27) 3 29 := ⟨by decide +kernel, rfl⟩
theorem qX12_likely_29 : Dq cX12_likely 29 (.aload_n 0) 1 30 := ⟨by decide +kernel, rfl⟩
theorem qX12_likely_30 : Dq cX12_likely 30 (.getfield 23) 3 33 := ⟨by decide +kernel, rfl⟩
theorem qX12_likely_33 : Dq cX12_likely 33 (.iload_n 1) 1 34 := ⟨by decide +kernel, rfl⟩
theorem qX12_likely_34 : Dq cX12_likely 34 (.iaload) 1 35 := ⟨by decide +kernel, rfl⟩
theorem qX12_likely_35 : Dq cX12_likely 35 (.i2l) 1 36 := ⟨by decide +kernel, rfl⟩
theorem qX12_likely_36 : Dq cX12_likely 36 (.aload_n 0) 1 37 := ⟨by decide +kernel, rfl⟩
theorem qX12_likely_37 : Dq cX12_likely 37 (.invokevirtual 320) 3 40 := ⟨by decide +kernel, rfl⟩
theorem qX12_likely_40 : Dq cX12_likely 40 (.aload_n 0) 1 41 := ⟨by decide +kernel, rfl⟩
theorem qX12_likely_41 : Dq cX12_likely 41 (.getfield 108) 3 44 := ⟨by decide +kernel, rfl⟩
theorem qX12_likely_44 : Dq cX12_likely 44 (.iadd) 1 45 := ⟨by decide +kernel, rfl⟩
theorem qX12_likely_45 : Dq cX12_likely 45 (.i2l) 1 46 := ⟨by decide +kernel, rfl⟩
theorem qX12_likely_46 : Dq cX12_likely 46 (.iload_n 2) 1 47 := ⟨by decide +kernel, rfl⟩
theorem qX12_likely_47 : Dq cX12_likely 47 (.invokestatic 323) 3 50 := ⟨by decide +kernel, rfl⟩
theorem qX12_likely_50 : Dq cX12_likely 50 (.goto 6) 3 53 := ⟨by decide +kernel, rfl⟩
theorem qX12_likely_53 : Dq cX12_likely 53 (.ldc2_w 327) 3 56 := ⟨by decide +kernel, rfl⟩
theorem qX12_likely_56 : Dq cX12_likely 56 (.lreturn) 1 57 := ⟨by decide +kernel, rfl⟩
set_option maxRecDepth 100000 in
set_option maxHeartbeats 4000000 in
theorem m_likely {G : Glb} {h : AHp} {E : Sst} (hc : MW h E) (c q : Int32) : CP G m_X12_likely 3 0 0 [.ref 38, .int c, .int q] h (fun r h' => r = some (.long (likelyI (sB E) c q)) ∧ h = h') := by
  suffices key : ∀ P : Option Value → AHp → Prop, (∀ r h', (r = some (.long (likelyI (sB E) c q)) ∧ h = h') → P r h') → CP G m_X12_likely 3 0 0 [.ref 38, .int c, .int q] h P from key _ (fun _ _ z => z)
  intro P hP
  obtain ⟨hm, htx, hp, hb, hkp, htp, hst, hok⟩ := id hc
  have hc6 := hok.1
  have hm6 := hok.2.1
  have hkd : ∀ i, i < sM E → sK E i < 6 := fun i hi => (hok.2.2.1 i hi).1
  have hnu : ∀ i, i < sM E → inR (sN E i) 9 := fun i hi => (hok.2.2.1 i hi).2
  have hbe : BeOK (bm h) (sC E) := by rw [hb]; exact hok.2.2.2.1
  obtain ⟨A, hA, eA⟩ := allI_in hok.2.2.2.1
  have tA : tn (allI (sB E)) = A := by rw [eA]; exact nI_clamp (by omega)
  obtain ⟨O, hO, eO⟩ := onI_in hok.2.2.2.1
  have tO : tn (onI (sB E)) = O := by rw [eO]; exact nI_clamp (by omega)
  refine CP.of (by decide +kernel) (Nat.le_of_ble_eq_true rfl) fun X hX hR hnm => ?_
  show V X G 3 0 0 _ 0 [some (.ref 38), some (.int c), some (.int q)] [] h
  refine v_iload_n hX rfl qX12_likely_0 ?_
  refine v_callSq hX hR k_X12_96 (m_isCell _) rfl (Nat.le_of_ble_eq_true rfl) rfl (Nat.le_of_ble_eq_true rfl) ⟨Nat.le_of_ble_eq_true rfl, Nat.le_of_ble_eq_true rfl⟩ qX12_likely_1 ?_
  rintro _ _ ⟨rfl, rfl⟩
  first | refine v_if_eqB hX 53 qX12_likely_4 rfl (fun q4 => ?_) (fun q4 => ?_) | refine v_if_eq hX 53 qX12_likely_4 rfl (fun q4 => ?_) (fun q4 => ?_)
  · skip
    refine v_ldc2 hX c_X12_327 qX12_likely_53 ?_
    refine v_lreturn hX qX12_likely_56 (hP _ _ ?_)
    refine ⟨?_, rfl⟩
    first | (rw [likelyI, if_neg (fun z => q4 z.1)]; rfl) | (rw [likelyI, if_neg (fun z : isC (nI w) ∧ (0 ≤ q ∧ q ≤ 1) ∧ 0 < tn (allI (sB E)) => q14 z.2.1)]; rfl) | (rw [likelyI, if_neg (fun z : isC (nI w) ∧ (0 ≤ q ∧ q ≤ 1) ∧ 0 < tn (allI (sB E)) => hA0 z.2.2)]; rfl) | (rw [likelyI, tn_nI (show w < 2000000 by omega), if_pos (show isC (nI w) ∧ (0 ≤ q ∧ q ≤ 1) ∧ 0 < tn (allI (sB E)) from ⟨isCn hw, q14, hA0⟩)])
  · obtain ⟨w, hw, rfl⟩ := isC_ex q4
    obtain ⟨o, ho, eo⟩ := (hok.2.2.2.1.1 w hw).ex (by omega)
    have to : tn (sB E 1 w) = o := by rw [eo]; exact nI_clamp (by omega)
    refine v_iload_n hX rfl qX12_likely_7 ?_
    refine v_i2l hX qX12_likely_8 ?_
    refine v_lconst hX ll_0 qX12_likely_9 ?_
    refine v_lconst hX ll_1 qX12_likely_10 ?_
    refine v_callSq hX hR k_X12_87 (m_in _ (by exact (0)) (by exact (1))) rfl (Nat.le_of_ble_eq_true rfl) rfl (Nat.le_of_ble_eq_true rfl) ⟨Nat.le_of_ble_eq_true rfl, Nat.le_of_ble_eq_true rfl⟩ qX12_likely_11 ?_
    rintro _ _ ⟨rfl, rfl⟩
    first | refine v_if_eqB hX 53 qX12_likely_14 rfl (fun q14 => ?_) (fun q14 => ?_) | refine v_if_eq hX 53 qX12_likely_14 rfl (fun q14 => ?_) (fun q14 => ?_)
    · skip
      refine v_ldc2 hX c_X12_327 qX12_likely_53 ?_
      refine v_lreturn hX qX12_likely_56 (hP _ _ ?_)
      refine ⟨?_, rfl⟩
      first | (rw [likelyI, if_neg (fun z => q4 z.1)]; rfl) | (rw [likelyI, if_neg (fun z : isC (nI w) ∧ (0 ≤ q ∧ q ≤ 1) ∧ 0 < tn (allI (sB E)) => q14 z.2.1)]; rfl) | (rw [likelyI, if_neg (fun z : isC (nI w) ∧ (0 ≤ q ∧ q ≤ 1) ∧ 0 < tn (allI (sB E)) => hA0 z.2.2)]; rfl) | (rw [likelyI, tn_nI (show w < 2000000 by omega), if_pos (show isC (nI w) ∧ (0 ≤ q ∧ q ≤ 1) ∧ 0 < tn (allI (sB E)) from ⟨isCn hw, q14, hA0⟩)])
    · skip
      refine v_aload_n hX rfl qX12_likely_17 ?_
      refine v_callVq hX hR k_X12_320 (hm.kd 38 rfl) (m_onCells (by exact hc)) rfl (Nat.le_of_ble_eq_true rfl) rfl (Nat.le_of_ble_eq_true rfl) ⟨Nat.le_of_ble_eq_true rfl, Nat.le_of_ble_eq_true rfl⟩ qX12_likely_18 ?_
      rintro _ _ ⟨rfl, rfl⟩
      refine v_aload_n hX rfl qX12_likely_21 ?_
      refine v_getIv hX g_X12_108 (Or.inl rfl) (hm.kd 38 rfl) (show _ = sB E 0 2 by rw [← hb]; rfl) qX12_likely_22 ?_
      refine v_iadd hX qX12_likely_25 ?_
      refine v_eqI (show _ = allI (sB E) from rfl) ?_
      refine v_if_leS hX 53 qX12_likely_26 rfl (fun q26 => ?_) (fun q26 => ?_)
      · have hA0 : ¬ 0 < tn (allI (sB E)) := by
            intro z
            rw [tA] at z
            rw [eA] at q26
            exact nI_nle z (by omega) q26
        refine v_ldc2 hX c_X12_327 qX12_likely_53 ?_
        refine v_lreturn hX qX12_likely_56 (hP _ _ ?_)
        refine ⟨?_, rfl⟩
        first | (rw [likelyI, if_neg (fun z => q4 z.1)]; rfl) | (rw [likelyI, if_neg (fun z : isC (nI w) ∧ (0 ≤ q ∧ q ≤ 1) ∧ 0 < tn (allI (sB E)) => q14 z.2.1)]; rfl) | (rw [likelyI, if_neg (fun z : isC (nI w) ∧ (0 ≤ q ∧ q ≤ 1) ∧ 0 < tn (allI (sB E)) => hA0 z.2.2)]; rfl) | (rw [likelyI, tn_nI (show w < 2000000 by omega), if_pos (show isC (nI w) ∧ (0 ≤ q ∧ q ≤ 1) ∧ 0 < tn (allI (sB E)) from ⟨isCn hw, q14, hA0⟩)])
      · have hA0 : 0 < tn (allI (sB E)) := by
            rw [tA]
            rw [eA] at q26
            exact (nI_ltI (a := 0) (by omega) (by omega)).mp q26
        refine v_aload_n hX rfl qX12_likely_29 ?_
        refine v_getR hX g_X12_23 (hm.kd 38 rfl) (hm.rf 3 rfl) qX12_likely_30 ?_
        refine v_iload_n hX rfl qX12_likely_33 ?_
        refine v_ialdV hX (hm.kd 42 rfl) (hm.ln 42 rfl) (by exact ix_n hw rfl) (show _ = sB E 1 w by rw [← hb, bm1 hw]) qX12_likely_34 ?_
        refine v_i2l hX qX12_likely_35 ?_
        refine v_eqL (i2l_in eo (by omega)) ?_
        refine v_aload_n hX rfl qX12_likely_36 ?_
        refine v_callVq hX hR k_X12_320 (hm.kd 38 rfl) (m_onCells (by exact hc)) rfl (Nat.le_of_ble_eq_true rfl) rfl (Nat.le_of_ble_eq_true rfl) ⟨Nat.le_of_ble_eq_true rfl, Nat.le_of_ble_eq_true rfl⟩ qX12_likely_37 ?_
        rintro _ _ ⟨rfl, rfl⟩
        refine v_aload_n hX rfl qX12_likely_40 ?_
        refine v_getIv hX g_X12_108 (Or.inl rfl) (hm.kd 38 rfl) (show _ = sB E 0 2 by rw [← hb]; rfl) qX12_likely_41 ?_
        refine v_iadd hX qX12_likely_44 ?_
        refine v_eqI (show _ = allI (sB E) from rfl) ?_
        refine v_i2l hX qX12_likely_45 ?_
        refine v_eqL (i2l_in eA (by omega)) ?_
        refine v_iload_n hX rfl qX12_likely_46 ?_
        refine v_callSq hX hR k_X12_323 (m_lowest (a := tn (sB E 1 w)) (b := tn (allI (sB E))) (by omega) (by omega) (by exact hA0) _) rfl (Nat.le_of_ble_eq_true rfl) rfl (Nat.le_of_ble_eq_true rfl) ⟨Nat.le_of_ble_eq_true rfl, Nat.le_of_ble_eq_true rfl⟩ qX12_likely_47 ?_
        rintro _ _ ⟨rfl, rfl⟩
        refine v_goto hX 56 qX12_likely_50 rfl ?_
        refine v_lreturn hX qX12_likely_56 (hP _ _ ?_)
        refine ⟨?_, rfl⟩
        first | (rw [likelyI, if_neg (fun z => q4 z.1)]; rfl) | (rw [likelyI, if_neg (fun z : isC (nI w) ∧ (0 ≤ q ∧ q ≤ 1) ∧ 0 < tn (allI (sB E)) => q14 z.2.1)]; rfl) | (rw [likelyI, if_neg (fun z : isC (nI w) ∧ (0 ≤ q ∧ q ≤ 1) ∧ 0 < tn (allI (sB E)) => hA0 z.2.2)]; rfl) | (rw [likelyI, tn_nI (show w < 2000000 by omega), if_pos (show isC (nI w) ∧ (0 ≤ q ∧ q ≤ 1) ∧ 0 < tn (allI (sB E)) from ⟨isCn hw, q14, hA0⟩)])
theorem qX12_here_0 : Dq cX12_here 0 (.iload_n 1) 1 1 := ⟨by decide +kernel, rfl⟩
theorem qX12_here_1 : Dq cX12_here 1 (.i2l) 1 2 := ⟨by decide +kernel, rfl⟩
theorem qX12_here_2 : Dq cX12_here 2 (.lconst 0) 1 3 := ⟨by decide +kernel, rfl⟩
theorem qX12_here_3 : Dq cX12_here 3 (.lconst 1) 1 4 := ⟨by decide +kernel, rfl⟩
theorem qX12_here_4 : Dq cX12_here 4 (.invokestatic 87) 3 7 := ⟨by decide +kernel, rfl⟩
theorem qX12_here_7 : Dq cX12_here 7 (.ifCond .eq 37) 3 10 := ⟨by decide +kernel, rfl⟩
theorem qX12_here_10 : Dq cX12_here 10 (.aload_n 0) 1 11 := ⟨by decide +kernel, rfl⟩
theorem qX12_here_11 : Dq cX12_here 11 (.invokevirtual 320) 3 14 := ⟨by decide +kernel, rfl⟩
theorem qX12_here_14 : Dq cX12_here 14 (.aload_n 0) 1 15 := ⟨by decide +kernel, rfl⟩
theorem qX12_here_15 : Dq cX12_here 15 (.getfield 108) 3 18 := ⟨by decide +kernel, rfl⟩
theorem qX12_here_18 : Dq cX12_here 18 (.iadd) 1 19 := ⟨by decide +kernel, rfl⟩
theorem qX12_here_19 : Dq cX12_here 19 (.ifCond .le 25) 3 22 := ⟨by decide +kernel, rfl⟩
theorem qX12_here_22 : Dq cX12_here 22 (.aload_n 0) 1 23 := ⟨by decide +kernel, rfl⟩
theorem qX12_here_23 : Dq cX12_here 23 (.invokevirtual 320) 3 26 := ⟨by decide +kernel, rfl⟩
theorem qX12_here_26 : Dq cX12_here 26 (.i2l) 1 27 := ⟨by decide +kernel, rfl⟩
theorem qX12_here_27 : Dq cX12_here 27 (.aload_n 0) 1 28 := ⟨by decide +kernel, rfl⟩
theorem qX12_here_28 : Dq cX12_here 28 (.invokevirtual 320) 3 31 := ⟨by decide +kernel, rfl⟩
theorem qX12_here_31 : Dq cX12_here 31 (.aload_n 0) 1 32 := ⟨by decide +kernel, rfl⟩
theorem qX12_here_32 : Dq cX12_here 32 (.getfield 108) 3 35 := ⟨by decide +kernel, rfl⟩
theorem qX12_here_35 : Dq cX12_here 35 (.iadd) 1 36 := ⟨by decide +kernel, rfl⟩
theorem qX12_here_36 : Dq cX12_here 36 (.i2l) 1 37 := ⟨by decide +kernel, rfl⟩
theorem qX12_here_37 : Dq cX12_here 37 (.iload_n 1) 1 38 := ⟨by decide +kernel, rfl⟩
theorem qX12_here_38 : Dq cX12_here 38 (.invokestatic 323) 3 41 := ⟨by decide +kernel, rfl⟩
theorem qX12_here_41 : Dq cX12_here 41 (.goto 6) 3 44 := ⟨by decide +kernel, rfl⟩
theorem qX12_here_44 : Dq cX12_here 44 (.ldc2_w 327) 3 47 := ⟨by decide +kernel, rfl⟩
theorem qX12_here_47 : Dq cX12_here 47 (.lreturn) 1 48 := ⟨by decide +kernel, rfl⟩
set_option maxRecDepth 100000 in
set_option maxHeartbeats 4000000 in
theorem m_here {G : Glb} {h : AHp} {E : Sst} (hc : MW h E) (q : Int32) : CP G m_X12_here 3 0 0 [.ref 38, .int q] h (fun r h' => r = some (.long (hereI (sB E) q)) ∧ h = h') := by
  suffices key : ∀ P : Option Value → AHp → Prop, (∀ r h', (r = some (.long (hereI (sB E) q)) ∧ h = h') → P r h') → CP G m_X12_here 3 0 0 [.ref 38, .int q] h P from key _ (fun _ _ z => z)
  intro P hP
  obtain ⟨hm, htx, hp, hb, hkp, htp, hst, hok⟩ := id hc
  have hc6 := hok.1
  have hm6 := hok.2.1
  have hkd : ∀ i, i < sM E → sK E i < 6 := fun i hi => (hok.2.2.1 i hi).1
  have hnu : ∀ i, i < sM E → inR (sN E i) 9 := fun i hi => (hok.2.2.1 i hi).2
  have hbe : BeOK (bm h) (sC E) := by rw [hb]; exact hok.2.2.2.1
  obtain ⟨A, hA, eA⟩ := allI_in hok.2.2.2.1
  have tA : tn (allI (sB E)) = A := by rw [eA]; exact nI_clamp (by omega)
  obtain ⟨O, hO, eO⟩ := onI_in hok.2.2.2.1
  have tO : tn (onI (sB E)) = O := by rw [eO]; exact nI_clamp (by omega)
  refine CP.of (by decide +kernel) (Nat.le_of_ble_eq_true rfl) fun X hX hR hnm => ?_
  show V X G 2 0 0 _ 0 [some (.ref 38), some (.int q)] [] h
  refine v_iload_n hX rfl qX12_here_0 ?_
  refine v_i2l hX qX12_here_1 ?_
  refine v_lconst hX ll_0 qX12_here_2 ?_
  refine v_lconst hX ll_1 qX12_here_3 ?_
  refine v_callSq hX hR k_X12_87 (m_in _ (by exact (0)) (by exact (1))) rfl (Nat.le_of_ble_eq_true rfl) rfl (Nat.le_of_ble_eq_true rfl) ⟨Nat.le_of_ble_eq_true rfl, Nat.le_of_ble_eq_true rfl⟩ qX12_here_4 ?_
  rintro _ _ ⟨rfl, rfl⟩
  first | refine v_if_eqB hX 44 qX12_here_7 rfl (fun q7 => ?_) (fun q7 => ?_) | refine v_if_eq hX 44 qX12_here_7 rfl (fun q7 => ?_) (fun q7 => ?_)
  · skip
    refine v_ldc2 hX c_X12_327 qX12_here_44 ?_
    refine v_lreturn hX qX12_here_47 (hP _ _ ?_)
    refine ⟨?_, rfl⟩
    first | (rw [hereI, if_neg (fun z : (0 ≤ q ∧ q ≤ 1) ∧ 0 < tn (allI (sB E)) => q7 z.1)]; rfl) | (rw [hereI, if_neg (fun z : (0 ≤ q ∧ q ≤ 1) ∧ 0 < tn (allI (sB E)) => hA0 z.2)]; rfl) | (rw [hereI, if_pos (show (0 ≤ q ∧ q ≤ 1) ∧ 0 < tn (allI (sB E)) from ⟨q7, hA0⟩)])
  · skip
    refine v_aload_n hX rfl qX12_here_10 ?_
    refine v_callVq hX hR k_X12_320 (hm.kd 38 rfl) (m_onCells (by exact hc)) rfl (Nat.le_of_ble_eq_true rfl) rfl (Nat.le_of_ble_eq_true rfl) ⟨Nat.le_of_ble_eq_true rfl, Nat.le_of_ble_eq_true rfl⟩ qX12_here_11 ?_
    rintro _ _ ⟨rfl, rfl⟩
    refine v_aload_n hX rfl qX12_here_14 ?_
    refine v_getIv hX g_X12_108 (Or.inl rfl) (hm.kd 38 rfl) (show _ = sB E 0 2 by rw [← hb]; rfl) qX12_here_15 ?_
    refine v_iadd hX qX12_here_18 ?_
    refine v_eqI (show _ = allI (sB E) from rfl) ?_
    refine v_if_leS hX 44 qX12_here_19 rfl (fun q19 => ?_) (fun q19 => ?_)
    · have hA0 : ¬ 0 < tn (allI (sB E)) := by
          intro z
          rw [tA] at z
          rw [eA] at q19
          exact nI_nle z (by omega) q19
      refine v_ldc2 hX c_X12_327 qX12_here_44 ?_
      refine v_lreturn hX qX12_here_47 (hP _ _ ?_)
      refine ⟨?_, rfl⟩
      first | (rw [hereI, if_neg (fun z : (0 ≤ q ∧ q ≤ 1) ∧ 0 < tn (allI (sB E)) => q7 z.1)]; rfl) | (rw [hereI, if_neg (fun z : (0 ≤ q ∧ q ≤ 1) ∧ 0 < tn (allI (sB E)) => hA0 z.2)]; rfl) | (rw [hereI, if_pos (show (0 ≤ q ∧ q ≤ 1) ∧ 0 < tn (allI (sB E)) from ⟨q7, hA0⟩)])
    · have hA0 : 0 < tn (allI (sB E)) := by
          rw [tA]
          rw [eA] at q19
          exact (nI_ltI (a := 0) (by omega) (by omega)).mp q19
      refine v_aload_n hX rfl qX12_here_22 ?_
      refine v_callVq hX hR k_X12_320 (hm.kd 38 rfl) (m_onCells (by exact hc)) rfl (Nat.le_of_ble_eq_true rfl) rfl (Nat.le_of_ble_eq_true rfl) ⟨Nat.le_of_ble_eq_true rfl, Nat.le_of_ble_eq_true rfl⟩ qX12_here_23 ?_
      rintro _ _ ⟨rfl, rfl⟩
      refine v_i2l hX qX12_here_26 ?_
      refine v_eqL (i2l_in eO (by omega)) ?_
      refine v_aload_n hX rfl qX12_here_27 ?_
      refine v_callVq hX hR k_X12_320 (hm.kd 38 rfl) (m_onCells (by exact hc)) rfl (Nat.le_of_ble_eq_true rfl) rfl (Nat.le_of_ble_eq_true rfl) ⟨Nat.le_of_ble_eq_true rfl, Nat.le_of_ble_eq_true rfl⟩ qX12_here_28 ?_
      rintro _ _ ⟨rfl, rfl⟩
      refine v_aload_n hX rfl qX12_here_31 ?_
      refine v_getIv hX g_X12_108 (Or.inl rfl) (hm.kd 38 rfl) (show _ = sB E 0 2 by rw [← hb]; rfl) qX12_here_32 ?_
      refine v_iadd hX qX12_here_35 ?_
      refine v_eqI (show _ = allI (sB E) from rfl) ?_
      refine v_i2l hX qX12_here_36 ?_
      refine v_eqL (i2l_in eA (by omega)) ?_
      refine v_iload_n hX rfl qX12_here_37 ?_
      refine v_callSq hX hR k_X12_323 (m_lowest (a := tn (onI (sB E))) (b := tn (allI (sB E))) (by omega) (by omega) (by exact hA0) _) rfl (Nat.le_of_ble_eq_true rfl) rfl (Nat.le_of_ble_eq_true rfl) ⟨Nat.le_of_ble_eq_true rfl, Nat.le_of_ble_eq_true rfl⟩ qX12_here_38 ?_
      rintro _ _ ⟨rfl, rfl⟩
      refine v_goto hX 47 qX12_here_41 rfl ?_
      refine v_lreturn hX qX12_here_47 (hP _ _ ?_)
      refine ⟨?_, rfl⟩
      first | (rw [hereI, if_neg (fun z : (0 ≤ q ∧ q ≤ 1) ∧ 0 < tn (allI (sB E)) => q7 z.1)]; rfl) | (rw [hereI, if_neg (fun z : (0 ≤ q ∧ q ≤ 1) ∧ 0 < tn (allI (sB E)) => hA0 z.2)]; rfl) | (rw [hereI, if_pos (show (0 ≤ q ∧ q ≤ 1) ∧ 0 < tn (allI (sB E)) from ⟨q7, hA0⟩)])
