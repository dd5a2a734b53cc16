/-! lookers by a sheet; copy -/
def lkS (it : Nat → Int32) (sz : Nat) (fr : Int32) : Nat → Nat → Int32 → Sst → Int32 × Sst
  | 0, _, came, E => (came, E)
  | r + 1, k, came, E => if 0 ≤ fr ∧ tn fr + 2 * k + 2 ≤ sz then lkS it sz fr r (k + 1) (if 0 ≤ (lookerI E (it (tn fr + 2 * k)) (it (tn fr + 2 * k + 1))).1 then came + 1 else came) (lookerI E (it (tn fr + 2 * k)) (it (tn fr + 2 * k + 1))).2 else (-12, E)
theorem lkS_pos {it : Nat → Int32} {sz r k : Nat} {fr came : Int32} {E : Sst} (h : 0 ≤ fr ∧ tn fr + 2 * k + 2 ≤ sz) : lkS it sz fr (r + 1) k came E = lkS it sz fr r (k + 1) (if 0 ≤ (lookerI E (it (tn fr + 2 * k)) (it (tn fr + 2 * k + 1))).1 then came + 1 else came) (lookerI E (it (tn fr + 2 * k)) (it (tn fr + 2 * k + 1))).2 := if_pos h
theorem lkS_neg {it : Nat → Int32} {sz r k : Nat} {fr came : Int32} {E : Sst} (h : ¬ (0 ≤ fr ∧ tn fr + 2 * k + 2 ≤ sz)) : lkS it sz fr (r + 1) k came E = (-12, E) := if_neg h
def lookersI (E : Sst) (s so fr n : Int32) : Int32 × Sst :=
  if (0 ≤ s ∧ s ≤ 3) ∧ (0 ≤ so ∧ so ≤ 2) ∧ (0 ≤ n ∧ n ≤ 6) then
    (if ¬ sS E (tn s) = -1 ∧ ¬ sS E (tn s) = so then (-13, E)
     else if sS E (tn s) = -1 then (-11, E)
     else lkS (sI' E (tn s)) (sL E (tn s)) fr (tn n) 0 0 E)
  else (-2, E)
theorem lookerI_sh (E : Sst) (k n : Int32) : sS (lookerI E k n).2 = sS E ∧ sL (lookerI E k n).2 = sL E ∧ sI' (lookerI E k n).2 = sI' E := by
  unfold lookerI
  by_cases h1 : (0 ≤ k ∧ k ≤ 5) ∧ (0 ≤ n ∧ n ≤ 9)
  · rw [if_pos h1]
    by_cases h2 : sM E < 6
    · rw [if_pos h2]; exact ⟨rfl, rfl, rfl⟩
    · rw [if_neg h2]; exact ⟨rfl, rfl, rfl⟩
  · rw [if_neg h1]; exact ⟨rfl, rfl, rfl⟩
def copyI (E : Sst) (s i o j n : Int32) : Int32 × (Nat → Nat → Int32) :=
  if (0 ≤ s ∧ s ≤ 3) ∧ (0 ≤ o ∧ o ≤ 3) then
    (if sS E (tn s) = -1 ∨ sS E (tn o) = -1 then (-11, sI' E)
     else if ¬ sS E (tn s) = sS E (tn o) then (-13, sI' E)
     else if (0 ≤ i ∧ 0 ≤ n ∧ n ≤ nI (sL E (tn s)) ∧ i ≤ nI (sL E (tn s)) - n) ∧ (0 ≤ j ∧ 0 ≤ n ∧ n ≤ nI (sL E (tn o)) ∧ j ≤ nI (sL E (tn o)) - n) then (n, cpyI (sI' E) (tn s) (tn o) (tn i) (tn j) (tn n))
     else (-12, sI' E))
  else (-2, sI' E)
theorem rg_lk {fr : Int32} {sz k : Nat} (hs : sz ≤ 40) (hk : k ≤ 6) : ((0 ≤ fr ∧ fr < nI sz) ∧ (0 ≤ fr + 2 * nI k ∧ 0 ≤ (2 : Int32) ∧ (2 : Int32) ≤ nI sz ∧ fr + 2 * nI k ≤ nI sz - 2)) ↔ (0 ≤ fr ∧ tn fr + 2 * k + 2 ≤ sz) := by
  have e2 : (2 : Int32) = nI 2 := rfl
  constructor
  · rintro ⟨⟨h1, h2⟩, h3, h4, h5, h6⟩
    obtain ⟨f, hf, rfl⟩ := ofRange h1 h2 (by omega)
    rw [e2] at h5 h6
    rw [pk_mul, nI_add] at h6
    have h5' := nI_le' (by omega) (by omega) h5
    rw [pk_sub h5'] at h6
    have h6' := nI_le' (by omega) (by omega) h6
    refine ⟨h1, ?_⟩
    rw [tn_nI (by omega)]
    omega
  · rintro ⟨h1, h2⟩
    obtain ⟨f, hf, rfl⟩ := nI_of (Int32.not_lt.mpr h1)
    rw [show tn (nI f) = f from nI_clamp hf] at h2
    rw [e2, pk_mul, nI_add, pk_sub (show 2 ≤ sz by omega)]
    exact ⟨⟨h1, nI_lt (by omega) (by omega)⟩, nI_pos' (by omega), nI_pos' (by omega), nI_le (by omega) (by omega), nI_le (by omega) (by omega)⟩
theorem qX11_lookers_0 : Dq cX11_lookers 0 (.aload_n 0) 1 1 := ⟨by decide +kernel, rfl⟩
theorem qX11_lookers_1 : Dq cX11_lookers 1 (.iload_n 1) 1 2 := ⟨by decide +kernel, rfl⟩
theorem qX11_lookers_2 : Dq cX11_lookers 2 (.invokevirtual 234) 3 5 := ⟨by decide +kernel, rfl⟩
theorem qX11_lookers_5 : Dq cX11_lookers 5 (.astore 5) 2 7 := ⟨by decide +kernel, rfl⟩
theorem qX11_lookers_7 : Dq cX11_lookers 7 (.aload 5) 2 9 := ⟨by decide +kernel, rfl⟩
theorem qX11_lookers_9 : Dq cX11_lookers 9 (.ifnull 23) 3 12 := ⟨by decide +kernel, rfl⟩
theorem qX11_lookers_12 : Dq cX11_lookers 12 (.iload_n 2) 1 13 := ⟨by decide +kernel, rfl⟩
theorem qX11_lookers_13 : Dq cX11_lookers 13 (.iconst 0) 1 14 := ⟨by decide +kernel, rfl⟩
theorem qX11_lookers_14 : Dq cX11_lookers 14 (.iconst 2) 1 15 := ⟨by decide +kernel, rfl⟩
theorem qX11_lookers_15 : Dq cX11_lookers 15 (.invokestatic 110) 3 18 := ⟨by decide +kernel, rfl⟩
theorem qX11_lookers_18 : Dq cX11_lookers 18 (.ifCond .eq 14) 3 21 := ⟨by decide +kernel, rfl⟩
theorem qX11_lookers_21 : Dq cX11_lookers 21 (.iload 4) 2 23 := ⟨by decide +kernel, rfl⟩
theorem qX11_lookers_23 : Dq cX11_lookers 23 (.iconst 0) 1 24 := ⟨by decide +kernel, rfl⟩
theorem qX11_lookers_24 : Dq cX11_lookers 24 (.bipush 6) 2 26 := ⟨by decide +kernel, rfl⟩
theorem qX11_lookers_26 : Dq cX11_lookers 26 (.invokestatic 110) 3 29 := ⟨by decide +kernel, rfl⟩
theorem qX11_lookers_29 : Dq cX11_lookers 29 (.ifCond .ne 6) 3 32 := ⟨by decide +kernel, rfl⟩
theorem qX11_lookers_32 : Dq cX11_lookers 32 (.bipush (-2)) 2 34 := ⟨by decide +kernel, rfl⟩
theorem qX11_lookers_34 : Dq cX11_lookers 34 (.ireturn) 1 35 := ⟨by decide +kernel, rfl⟩
theorem qX11_lookers_35 : Dq cX11_lookers 35 (.aload 5) 2 37 := ⟨by decide +kernel, rfl⟩
theorem qX11_lookers_37 : Dq cX11_lookers 37 (.invokevirtual 238) 3 40 := ⟨by decide +kernel, rfl⟩
theorem qX11_lookers_40 : Dq cX11_lookers 40 (.ifCond .ne 15) 3 43 := ⟨by decide +kernel, rfl⟩
theorem qX11_lookers_43 : Dq cX11_lookers 43 (.aload 5) 2 45 := ⟨by decide +kernel, rfl⟩
theorem qX11_lookers_45 : Dq cX11_lookers 45 (.getfield 309) 3 48 := ⟨by decide +kernel, rfl⟩
theorem qX11_lookers_48 : Dq cX11_lookers 48 (.iload_n 2) 1 49 := ⟨by decide +kernel, rfl⟩
theorem qX11_lookers_49 : Dq cX11_lookers 49 (.if_icmp .eq 6) 3 52 := ⟨by decide +kernel, rfl⟩
theorem qX11_lookers_52 : Dq cX11_lookers 52 (.bipush (-13)) 2 54 := ⟨by decide +kernel, rfl⟩
theorem qX11_lookers_54 : Dq cX11_lookers 54 (.ireturn) 1 55 := ⟨by decide +kernel, rfl⟩
theorem qX11_lookers_55 : Dq cX11_lookers 55 (.aload 5) 2 57 := ⟨by decide +kernel, rfl⟩
theorem qX11_lookers_57 : Dq cX11_lookers 57 (.invokevirtual 238) 3 60 := ⟨by decide +kernel, rfl⟩
theorem qX11_lookers_60 : Dq cX11_lookers 60 (.ifCond .eq 6) 3 63 := ⟨by decide +kernel, rfl⟩
theorem qX11_lookers_63 : Dq cX11_lookers 63 (.bipush (-11)) 2 65 := ⟨by decide +kernel, rfl⟩
theorem qX11_lookers_65 : Dq cX11_lookers 65 (.ireturn) 1 66 := ⟨by decide +kernel, rfl⟩
theorem qX11_lookers_66 : Dq cX11_lookers 66 (.iconst 0) 1 67 := ⟨by decide +kernel, rfl⟩
theorem qX11_lookers_67 : Dq cX11_lookers 67 (.istore 6) 2 69 := ⟨by decide +kernel, rfl⟩
theorem qX11_lookers_69 : Dq cX11_lookers 69 (.iconst 0) 1 70 := ⟨by decide +kernel, rfl⟩
theorem qX11_lookers_70 : Dq cX11_lookers 70 (.istore 7) 2 72 := ⟨by decide +kernel, rfl⟩
theorem qX11_lookers_72 : Dq cX11_lookers 72 (.iload 7) 2 74 := ⟨by decide +kernel, rfl⟩
theorem qX11_lookers_74 : Dq cX11_lookers 74 (.iload 4) 2 76 := ⟨by decide +kernel, rfl⟩
theorem qX11_lookers_76 : Dq cX11_lookers 76 (.if_icmp .ge 70) 3 79 := ⟨by decide +kernel, rfl⟩
theorem qX11_lookers_79 : Dq cX11_lookers 79 (.aload 5) 2 81 := ⟨by decide +kernel, rfl⟩
theorem qX11_lookers_81 : Dq cX11_lookers 81 (.iload_n 3) 1 82 := ⟨by decide +kernel, rfl⟩
theorem qX11_lookers_82 : Dq cX11_lookers 82 (.invokevirtual 303) 3 85 := ⟨by decide +kernel, rfl⟩
theorem qX11_lookers_85 : Dq cX11_lookers 85 (.ifCond .eq 18) 3 88 := ⟨by decide +kernel, rfl⟩
theorem qX11_lookers_88 : Dq cX11_lookers 88 (.aload 5) 2 90 := ⟨by decide +kernel, rfl⟩
theorem qX11_lookers_90 : Dq cX11_lookers 90 (.iload_n 3) 1 91 := ⟨by decide +kernel, rfl⟩
theorem qX11_lookers_91 : Dq cX11_lookers 91 (.iconst 2) 1 92 := ⟨by decide +kernel, rfl⟩
theorem qX11_lookers_92 : Dq cX11_lookers 92 (.iload 7) 2 94 := ⟨by decide +kernel, rfl⟩
theorem qX11_lookers_94 : Dq cX11_lookers 94 (.imul) 1 95 := ⟨by decide +kernel, rfl⟩
theorem qX11_lookers_95 : Dq cX11_lookers 95 (.iadd) 1 96 := ⟨by decide +kernel, rfl⟩
theorem qX11_lookers_96 : Dq cX11_lookers 96 (.iconst 2) 1 97 := ⟨by decide +kernel, rfl⟩
theorem qX11_lookers_97 : Dq cX11_lookers 97 (.invokevirtual 312) 3 100 := ⟨by decide +kernel, rfl⟩
theorem qX11_lookers_100 : Dq cX11_lookers 100 (.ifCond .ne 6) 3 103 := ⟨by decide +kernel, rfl⟩
theorem qX11_lookers_103 : Dq cX11_lookers 103 (.bipush (-12)) 2 105 := ⟨by decide +kernel, rfl⟩
theorem qX11_lookers_105 : Dq cX11_lookers 105 (.ireturn) 1 106 := ⟨by decide +kernel, rfl⟩
theorem qX11_lookers_106 : Dq cX11_lookers 106 (.iload_n 3) 1 107 := ⟨by decide +kernel, rfl⟩
theorem qX11_lookers_107 : Dq cX11_lookers 107 (.iconst 2) 1 108 := ⟨by decide +kernel, rfl⟩
theorem qX11_lookers_108 : Dq cX11_lookers 108 (.iload 7) 2 110 := ⟨by decide +kernel, rfl⟩
theorem qX11_lookers_110 : Dq cX11_lookers 110 (.imul) 1 111 := ⟨by decide +kernel, rfl⟩
theorem qX11_lookers_111 : Dq cX11_lookers 111 (.iadd) 1 112 := ⟨by decide +kernel, rfl⟩
theorem qX11_lookers_112 : Dq cX11_lookers 112 (.istore 8) 2 114 := ⟨by decide +kernel, rfl⟩
theorem qX11_lookers_114 : Dq cX11_lookers 114 (.aload_n 0) 1 115 := ⟨by decide +kernel, rfl⟩
theorem qX11_lookers_115 : Dq cX11_lookers 115 (.aload 5) 2 117 := ⟨by decide +kernel, rfl⟩
theorem qX11_lookers_117 : Dq cX11_lookers 117 (.iload 8) 2 119 := ⟨by decide +kernel, rfl⟩
theorem qX11_lookers_119 : Dq cX11_lookers 119 (.invokevirtual 246) 3 122 := ⟨by decide +kernel, rfl⟩
theorem qX11_lookers_122 : Dq cX11_lookers 122 (.aload 5) 2 124 := ⟨by decide +kernel, rfl⟩
theorem qX11_lookers_124 : Dq cX11_lookers 124 (.iload 8) 2 126 := ⟨by decide +kernel, rfl⟩
theorem qX11_lookers_126 : Dq cX11_lookers 126 (.iconst 1) 1 127 := ⟨by decide +kernel, rfl⟩
theorem qX11_lookers_127 : Dq cX11_lookers 127 (.iadd) 1 128 := ⟨by decide +kernel, rfl⟩
theorem qX11_lookers_128 : Dq cX11_lookers 128 (.invokevirtual 246) 3 131 := ⟨by decide +kernel, rfl⟩
theorem qX11_lookers_131 : Dq cX11_lookers 131 (.invokevirtual 325) 3 134 := ⟨by decide +kernel, rfl⟩
theorem qX11_lookers_134 : Dq cX11_lookers 134 (.ifCond .lt 6) 3 137 := ⟨by decide +kernel, rfl⟩
theorem qX11_lookers_137 : Dq cX11_lookers 137 (.iinc 6 1) 3 140 := ⟨by decide +kernel, rfl⟩
theorem qX11_lookers_140 : Dq cX11_lookers 140 (.iinc 7 1) 3 143 := ⟨by decide +kernel, rfl⟩
theorem qX11_lookers_143 : Dq cX11_lookers 143 (.goto (-71)) 3 146 := ⟨by decide +kernel, rfl⟩
theorem qX11_lookers_146 : Dq cX11_lookers 146 (.iload 6) 2 148 := ⟨by decide +kernel, rfl⟩
theorem qX11_lookers_148 : Dq cX11_lookers 148 (.ireturn) 1 149 := ⟨by decide +kernel, rfl⟩
set_option maxRecDepth 100000 in
set_option maxHeartbeats 4000000 in
theorem c_lookers {G : Glb} {h : AHp} {E : Sst} (hc : CV h E) (hN : hpN h + 7 < 1000000) (s so fr n : Int32) : CP G m_X11_lookers 7 6 6 [.ref 0, .int s, .int so, .int fr, .int n] h (fun r h' => r = some (.int (lookersI E s so fr n).1) ∧ CV h' (lookersI E s so fr n).2 ∧ Kp h h' ∧ hpN h' ≤ hpN h + 6) := by
  suffices key : ∀ P : Option Value → AHp → Prop, (∀ r h', (r = some (.int (lookersI E s so fr n).1) ∧ CV h' (lookersI E s so fr n).2 ∧ Kp h h' ∧ hpN h' ≤ hpN h + 6) → P r h') → CP G m_X11_lookers 7 6 6 [.ref 0, .int s, .int so, .int fr, .int n] h P from key _ (fun _ _ z => z)
  intro P hP
  have hs := hc.sh
  have hru := hc.ru
  have hca := hc.ca
  have hbe := hc.be
  have hok := hc.ok
  obtain ⟨hrl, hrl5⟩ := hbe.rl hok.1
  rw [bv0 (by omega) (by omega)] at hrl5
  have hh3 := hbe.2.2.2.1
  rw [bv0 (by omega) (by omega)] at hh3
  refine CP.of (by decide +kernel) (Nat.le_of_ble_eq_true rfl) fun X hX hR hnm => ?_
  show V X G 9 0 0 _ 0 [some (.ref 0), some (.int s), some (.int so), some (.int fr), some (.int n), none, none, none, none] [] h
  refine v_aload_n hX rfl qX11_lookers_0 ?_
  refine v_iload_n hX rfl qX11_lookers_1 ?_
  refine v_callVq hX hR k_X11_234 (hs.kd 0 rfl) (c_sheetAt (by exact hs) _) rfl (Nat.le_of_ble_eq_true rfl) rfl (Nat.le_of_ble_eq_true rfl) ⟨by omega, by omega⟩ qX11_lookers_2 ?_
  rintro _ _ ⟨⟨j, hj, rfl, rfl⟩ | ⟨hn, rfl⟩, rfl⟩
  · obtain ⟨g1, g2, g3⟩ := hc.st j hj
    have hr3 := r3 hj
    have hl40 := (hok.2.2.2.2.2.2.2 j hj).1
    refine v_astore hX (Nat.le_of_ble_eq_true rfl) rfl (ls' := [some _, some _, some _, some _, some _, some _, none, none, none]) rfl qX11_lookers_5 ?_
    refine v_aload hX rfl qX11_lookers_7 ?_
    refine v_ifnull hX qX11_lookers_9 ?_
    refine v_iload_n hX rfl qX11_lookers_12 ?_
    refine v_iconst hX li_0 qX11_lookers_13 ?_
    refine v_iconst hX li_2 qX11_lookers_14 ?_
    refine v_callSq hX hR k_X11_110 (c_isWithin _ _ _) rfl (Nat.le_of_ble_eq_true rfl) rfl (Nat.le_of_ble_eq_true rfl) ⟨by omega, by omega⟩ qX11_lookers_15 ?_
    rintro _ _ ⟨rfl, rfl⟩
    first | refine v_if_eqB hX 32 qX11_lookers_18 rfl (fun q18 => ?_) (fun q18 => ?_) | refine v_if_eq hX 32 qX11_lookers_18 rfl (fun q18 => ?_) (fun q18 => ?_)
    · skip
      refine v_bipush hX lb_n2 qX11_lookers_32 ?_
      refine v_widen (rt := none) (Nat.le_of_ble_eq_true rfl) (Nat.le_of_ble_eq_true rfl) (v_ireturn hX qX11_lookers_34 (hP _ _ ?_))
      first | (rw [lookersI, if_neg (fun z : (0 ≤ s ∧ s ≤ 3) ∧ (0 ≤ so ∧ so ≤ 2) ∧ (0 ≤ n ∧ n ≤ 6) => hn z.1)]; refine ⟨rfl, hc, Kp.rf h, by omega⟩) | (rw [lookersI, if_neg (fun z : (0 ≤ nI j ∧ nI j ≤ 3) ∧ (0 ≤ so ∧ so ≤ 2) ∧ (0 ≤ n ∧ n ≤ 6) => q18 z.2.1)]; refine ⟨rfl, hc, Kp.rf h, by omega⟩) | (rw [lookersI, if_neg (fun z : (0 ≤ nI j ∧ nI j ≤ 3) ∧ (0 ≤ so ∧ so ≤ 2) ∧ (0 ≤ n ∧ n ≤ 6) => q29 z.2.2)]; refine ⟨rfl, hc, Kp.rf h, by omega⟩)
    · skip
      refine v_iload hX rfl qX11_lookers_21 ?_
      refine v_iconst hX li_0 qX11_lookers_23 ?_
      refine v_bipush hX lb_6 qX11_lookers_24 ?_
      refine v_callSq hX hR k_X11_110 (c_isWithin _ _ _) rfl (Nat.le_of_ble_eq_true rfl) rfl (Nat.le_of_ble_eq_true rfl) ⟨by omega, by omega⟩ qX11_lookers_26 ?_
      rintro _ _ ⟨rfl, rfl⟩
      first | refine v_if_neB hX 35 qX11_lookers_29 rfl (fun q29 => ?_) (fun q29 => ?_) | refine v_if_ne hX 35 qX11_lookers_29 rfl (fun q29 => ?_) (fun q29 => ?_)
      · obtain ⟨nn, hnn, rfl⟩ := rng_ex 6 (by omega) q29
        refine v_aload hX rfl qX11_lookers_35 ?_
        refine v_callVq hX hR k_X11_238 (hs.sk (isS_j hj)) (c_isMissing (by exact hs) (by exact (isS_j hj))) rfl (Nat.le_of_ble_eq_true rfl) rfl (Nat.le_of_ble_eq_true rfl) ⟨by omega, by omega⟩ qX11_lookers_37 ?_
        rintro _ _ ⟨rfl, rfl⟩
        first | refine v_if_neB hX 55 qX11_lookers_40 rfl (fun q40 => ?_) (fun q40 => ?_) | refine v_if_ne hX 55 qX11_lookers_40 rfl (fun q40 => ?_) (fun q40 => ?_)
        · skip
          refine v_aload hX rfl qX11_lookers_55 ?_
          refine v_callVq hX hR k_X11_238 (hs.sk (isS_j hj)) (c_isMissing (by exact hs) (by exact (isS_j hj))) rfl (Nat.le_of_ble_eq_true rfl) rfl (Nat.le_of_ble_eq_true rfl) ⟨by omega, by omega⟩ qX11_lookers_57 ?_
          rintro _ _ ⟨rfl, rfl⟩
          first | refine v_if_eqB hX 66 qX11_lookers_60 rfl (fun q60 => ?_) (fun q60 => ?_) | refine v_if_eq hX 66 qX11_lookers_60 rfl (fun q60 => ?_) (fun q60 => ?_)
          · have hno : ¬ sS E j = -1 := fun z => q60 (g1.trans z)
            have hso : ¬ (¬ sS E j = -1 ∧ ¬ sS E j = so) := fun z => by first | exact z.2 q49 | exact q60 q40
            refine v_iconst hX li_0 qX11_lookers_66 ?_
            refine v_istore hX (Nat.le_of_ble_eq_true rfl) rfl (ls' := [some _, some _, some _, some _, some _, some _, some _, none, none]) rfl qX11_lookers_67 ?_
            refine v_iconst hX li_0 qX11_lookers_69 ?_
            refine v_istore hX (Nat.le_of_ble_eq_true rfl) rfl (ls' := [some _, some _, some _, some _, some _, some _, some _, some _, none]) rfl qX11_lookers_70 ?_
            have L72 : ∀ (mz : Nat) (k : Nat) (came : Int32) (h2 : AHp) (E2 : Sst), nn - k = mz → (k ≤ nn) → (CV h2 E2) → (Kp h h2) → (hpN h2 ≤ hpN h + k) → (sS E2 = sS E ∧ sL E2 = sL E ∧ sI' E2 = sI' E) → (lkS (sI' E j) (sL E j) fr (nn - k) k came E2 = lkS (sI' E j) (sL E j) fr nn 0 0 E) → V X G 9 k k (QM X G P 6 6) 72 [some (.ref 0), some (.int (nI j)), some (.int so), some (.int fr), some (.int (nI nn)), some (.ref (30 + 2 * j)), some (.int came), some (.int (nI k)), none] [] h2 := by
              intro mz
              induction mz using Nat.strongRecOn with
              | _ mz ih =>
              intro k came h2 E2 hm hi hc2 hkp hN2 hsh heq
              have hs := hc2.sh
              obtain ⟨g1, g2, g3⟩ := hc2.st j hj
              rw [hsh.2.1] at g2 g3
              rw [hsh.2.2] at g3
              refine v_iload hX rfl qX11_lookers_72 ?_
              refine v_iload hX rfl qX11_lookers_74 ?_
              refine v_icmp_geS hX 146 qX11_lookers_76 rfl (fun q76 => ?_) (fun q76 => ?_)
              · have e1 : k = nn := Nat.le_antisymm hi (nI_le' (by omega) (by omega) q76)
                refine v_iload hX rfl qX11_lookers_146 ?_
                refine v_widen (rt := none) (by omega) (by omega) (v_ireturn hX qX11_lookers_148 (hP _ _ ?_))
                rw [e1, Nat.sub_self] at heq
                rw [lookersI, if_pos (show (0 ≤ nI j ∧ nI j ≤ 3) ∧ (0 ≤ so ∧ so ≤ 2) ∧ (0 ≤ nI nn ∧ nI nn ≤ 6) from ⟨hr3, q18, q29⟩), tn_nI (show j < 2000000 by omega), tn_nI (show nn < 2000000 by omega), if_neg hso, if_neg hno, ← heq]
                exact ⟨rfl, hc2, hkp, by omega⟩
              · have hl := nI_lt' (by omega) (by omega) q76
                refine v_aload hX rfl qX11_lookers_79 ?_
                refine v_iload_n hX rfl qX11_lookers_81 ?_
                refine v_callVq hX hR k_X11_303 (hs.sk (isS_j hj)) (c_hasItem (by exact hs) (by exact (isS_j hj)) (by exact g2) (by exact hl40) _) rfl (Nat.le_of_ble_eq_true rfl) rfl (Nat.le_of_ble_eq_true rfl) ⟨by omega, by omega⟩ qX11_lookers_82 ?_
                rintro _ _ ⟨rfl, rfl⟩
                first | refine v_if_eqB hX 103 qX11_lookers_85 rfl (fun q85 => ?_) (fun q85 => ?_) | refine v_if_eq hX 103 qX11_lookers_85 rfl (fun q85 => ?_) (fun q85 => ?_)
                · skip
                  refine v_bipush hX lb_n12 qX11_lookers_103 ?_
                  refine v_widen (rt := none) (by omega) (by omega) (v_ireturn hX qX11_lookers_105 (hP _ _ ?_))
                  have hstp : lkS (sI' E j) (sL E j) fr (nn - k) k came E2 = (-12, E2) := by
                    rw [show nn - k = nn - (k + 1) + 1 by omega, lkS_neg (fun z => by first | exact q85 ((rg_lk hl40 (by omega)).mpr z).1 | exact q100 ((rg_lk hl40 (by omega)).mpr z).2)]
                  rw [lookersI, if_pos (show (0 ≤ nI j ∧ nI j ≤ 3) ∧ (0 ≤ so ∧ so ≤ 2) ∧ (0 ≤ nI nn ∧ nI nn ≤ 6) from ⟨hr3, q18, q29⟩), tn_nI (show j < 2000000 by omega), tn_nI (show nn < 2000000 by omega), if_neg hso, if_neg hno, ← heq, hstp]
                  exact ⟨rfl, hc2, hkp, by omega⟩
                · skip
                  refine v_aload hX rfl qX11_lookers_88 ?_
                  refine v_iload_n hX rfl qX11_lookers_90 ?_
                  refine v_iconst hX li_2 qX11_lookers_91 ?_
                  refine v_iload hX rfl qX11_lookers_92 ?_
                  refine v_imul hX qX11_lookers_94 ?_
                  refine v_iadd hX qX11_lookers_95 ?_
                  refine v_iconst hX li_2 qX11_lookers_96 ?_
                  refine v_callVq hX hR k_X11_312 (hs.sk (isS_j hj)) (c_hasRange (by exact hs) (by exact (isS_j hj)) (by exact g2) (by exact hl40) _ _) rfl (Nat.le_of_ble_eq_true rfl) rfl (Nat.le_of_ble_eq_true rfl) ⟨by omega, by omega⟩ qX11_lookers_97 ?_
                  rintro _ _ ⟨rfl, rfl⟩
                  first | refine v_if_neB hX 106 qX11_lookers_100 rfl (fun q100 => ?_) (fun q100 => ?_) | refine v_if_ne hX 106 qX11_lookers_100 rfl (fun q100 => ?_) (fun q100 => ?_)
                  · obtain ⟨hfr0, hfr⟩ := (rg_lk hl40 (by omega)).mp ⟨q85, q100⟩
                    obtain ⟨f, hf, rfl⟩ := ofRange q85.1 q85.2 (by omega)
                    rw [tn_nI (show f < 2000000 by omega)] at hfr
                    refine v_iload_n hX rfl qX11_lookers_106 ?_
                    refine v_iconst hX li_2 qX11_lookers_107 ?_
                    refine v_iload hX rfl qX11_lookers_108 ?_
                    refine v_imul hX qX11_lookers_110 ?_
                    refine v_iadd hX qX11_lookers_111 ?_
                    refine v_eqI (show nI f + 2 * nI k = nI (f + 2 * k) by rw [show (2 : Int32) = nI 2 from rfl, pk_mul, nI_add]) ?_
                    refine v_istore hX (Nat.le_of_ble_eq_true rfl) rfl (ls' := [some _, some _, some _, some _, some _, some _, some _, some _, some _]) rfl qX11_lookers_112 ?_
                    refine v_aload_n hX rfl qX11_lookers_114 ?_
                    refine v_aload hX rfl qX11_lookers_115 ?_
                    refine v_iload hX rfl qX11_lookers_117 ?_
                    refine v_callVq hX hR k_X11_246 (hs.sk (isS_j hj)) (c_itemAt (by exact hs) (by exact (isS_j hj)) (by exact g2) (by exact hl40) _) rfl (Nat.le_of_ble_eq_true rfl) rfl (Nat.le_of_ble_eq_true rfl) ⟨by omega, by omega⟩ qX11_lookers_119 ?_
                    rintro _ _ ⟨rfl, rfl⟩
                    refine v_eqI (show _ = sI' E j (f + 2 * k) by rw [if_pos ⟨nI_pos' (by omega), nI_lt (by omega) (by omega)⟩, tn_nI (by omega)]; exact g3 _ (by omega)) ?_
                    refine v_aload hX rfl qX11_lookers_122 ?_
                    refine v_iload hX rfl qX11_lookers_124 ?_
                    refine v_iconst hX li_1 qX11_lookers_126 ?_
                    refine v_iadd hX qX11_lookers_127 ?_
                    refine v_eqI (nI_1 (f + 2 * k)) ?_
                    refine v_callVq hX hR k_X11_246 (hs.sk (isS_j hj)) (c_itemAt (by exact hs) (by exact (isS_j hj)) (by exact g2) (by exact hl40) _) rfl (Nat.le_of_ble_eq_true rfl) rfl (Nat.le_of_ble_eq_true rfl) ⟨by omega, by omega⟩ qX11_lookers_128 ?_
                    rintro _ _ ⟨rfl, rfl⟩
                    refine v_eqI (show _ = sI' E j (f + 2 * k + 1) by rw [if_pos ⟨nI_pos' (by omega), nI_lt (by omega) (by omega)⟩, tn_nI (by omega)]; exact g3 _ (by omega)) ?_
                    refine v_callVq' hX hR k_X11_325 (hs.kd 0 rfl) (c_looker (by exact hc2) (by omega) _ _) rfl (Nat.le_of_ble_eq_true rfl) rfl (Nat.le_of_ble_eq_true rfl) ⟨by omega, by omega⟩ qX11_lookers_131 ?_
                    rintro _ _ ⟨rfl, hc3, hk3, hN3⟩
                    rename_i h3
                    refine v_if_ltS hX 140 qX11_lookers_134 rfl (fun q134 => ?_) (fun q134 => ?_)
                    · skip
                      refine v_iinc hX rfl (ii_nI _) (Nat.le_of_ble_eq_true rfl) rfl (ls' := [some _, some _, some _, some _, some _, some _, some _, some _, some _]) rfl qX11_lookers_140 ?_
                      refine v_goto hX 72 qX11_lookers_143 rfl ?_
                      refine v_forget (ls' := [_, _, _, _, _, _, _, _, none]) ⟨Or.inr rfl, Or.inr rfl, Or.inr rfl, Or.inr rfl, Or.inr rfl, Or.inr rfl, Or.inr rfl, Or.inr rfl, Or.inl rfl, trivial⟩ ?_
                      have hstp : lkS (sI' E j) (sL E j) (nI f) (nn - k) k came E2 = lkS (sI' E j) (sL E j) (nI f) (nn - (k + 1)) (k + 1) (if 0 ≤ (lookerI E2 (sI' E j (f + 2 * k)) (sI' E j (f + 2 * k + 1))).1 then came + 1 else came) (lookerI E2 (sI' E j (f + 2 * k)) (sI' E j (f + 2 * k + 1))).2 := by
                        rw [show nn - k = nn - (k + 1) + 1 by omega, lkS_pos (show 0 ≤ nI f ∧ tn (nI f) + 2 * k + 2 ≤ sL E j from ⟨nI_pos' (by omega), by rw [tn_nI (by omega)]; omega⟩), tn_nI (show f < 2000000 by omega)]
                      obtain ⟨w1, w2, w3⟩ := lookerI_sh E2 (sI' E j (f + 2 * k)) (sI' E j (f + 2 * k + 1))
                      first | (rw [if_pos q134] at hstp; exact ih _ (by omega) (k + 1) (came + 1) h3 _ rfl (by omega) hc3 (hkp.tr hk3) (by omega) ⟨w1.trans hsh.1, w2.trans hsh.2.1, w3.trans hsh.2.2⟩ (hstp.symm.trans heq)) | (rw [if_neg (Int32.not_le.mpr q134)] at hstp; exact ih _ (by omega) (k + 1) came h3 _ rfl (by omega) hc3 (hkp.tr hk3) (by omega) ⟨w1.trans hsh.1, w2.trans hsh.2.1, w3.trans hsh.2.2⟩ (hstp.symm.trans heq))
                    · skip
                      refine v_iinc hX rfl (ii_1 _) (Nat.le_of_ble_eq_true rfl) rfl (ls' := [some _, some _, some _, some _, some _, some _, some _, some _, some _]) rfl qX11_lookers_137 ?_
                      refine v_iinc hX rfl (ii_nI _) (Nat.le_of_ble_eq_true rfl) rfl (ls' := [some _, some _, some _, some _, some _, some _, some _, some _, some _]) rfl qX11_lookers_140 ?_
                      refine v_goto hX 72 qX11_lookers_143 rfl ?_
                      refine v_forget (ls' := [_, _, _, _, _, _, _, _, none]) ⟨Or.inr rfl, Or.inr rfl, Or.inr rfl, Or.inr rfl, Or.inr rfl, Or.inr rfl, Or.inr rfl, Or.inr rfl, Or.inl rfl, trivial⟩ ?_
                      have hstp : lkS (sI' E j) (sL E j) (nI f) (nn - k) k came E2 = lkS (sI' E j) (sL E j) (nI f) (nn - (k + 1)) (k + 1) (if 0 ≤ (lookerI E2 (sI' E j (f + 2 * k)) (sI' E j (f + 2 * k + 1))).1 then came + 1 else came) (lookerI E2 (sI' E j (f + 2 * k)) (sI' E j (f + 2 * k + 1))).2 := by
                        rw [show nn - k = nn - (k + 1) + 1 by omega, lkS_pos (show 0 ≤ nI f ∧ tn (nI f) + 2 * k + 2 ≤ sL E j from ⟨nI_pos' (by omega), by rw [tn_nI (by omega)]; omega⟩), tn_nI (show f < 2000000 by omega)]
                      obtain ⟨w1, w2, w3⟩ := lookerI_sh E2 (sI' E j (f + 2 * k)) (sI' E j (f + 2 * k + 1))
                      first | (rw [if_pos q134] at hstp; exact ih _ (by omega) (k + 1) (came + 1) h3 _ rfl (by omega) hc3 (hkp.tr hk3) (by omega) ⟨w1.trans hsh.1, w2.trans hsh.2.1, w3.trans hsh.2.2⟩ (hstp.symm.trans heq)) | (rw [if_neg (Int32.not_le.mpr q134)] at hstp; exact ih _ (by omega) (k + 1) came h3 _ rfl (by omega) hc3 (hkp.tr hk3) (by omega) ⟨w1.trans hsh.1, w2.trans hsh.2.1, w3.trans hsh.2.2⟩ (hstp.symm.trans heq))
                  · skip
                    refine v_bipush hX lb_n12 qX11_lookers_103 ?_
                    refine v_widen (rt := none) (by omega) (by omega) (v_ireturn hX qX11_lookers_105 (hP _ _ ?_))
                    have hstp : lkS (sI' E j) (sL E j) fr (nn - k) k came E2 = (-12, E2) := by
                      rw [show nn - k = nn - (k + 1) + 1 by omega, lkS_neg (fun z => by first | exact q85 ((rg_lk hl40 (by omega)).mpr z).1 | exact q100 ((rg_lk hl40 (by omega)).mpr z).2)]
                    rw [lookersI, if_pos (show (0 ≤ nI j ∧ nI j ≤ 3) ∧ (0 ≤ so ∧ so ≤ 2) ∧ (0 ≤ nI nn ∧ nI nn ≤ 6) from ⟨hr3, q18, q29⟩), tn_nI (show j < 2000000 by omega), tn_nI (show nn < 2000000 by omega), if_neg hso, if_neg hno, ← heq, hstp]
                    exact ⟨rfl, hc2, hkp, by omega⟩
            exact L72 _ 0 0 h E rfl (by omega) hc (Kp.rf h) (by omega) ⟨rfl, rfl, rfl⟩ rfl
          · skip
            refine v_bipush hX lb_n11 qX11_lookers_63 ?_
            refine v_widen (rt := none) (Nat.le_of_ble_eq_true rfl) (Nat.le_of_ble_eq_true rfl) (v_ireturn hX qX11_lookers_65 (hP _ _ ?_))
            have q57 : sS E j = -1 := g1.symm.trans q60
            rw [lookersI, if_pos (show (0 ≤ nI j ∧ nI j ≤ 3) ∧ (0 ≤ so ∧ so ≤ 2) ∧ (0 ≤ nI nn ∧ nI nn ≤ 6) from ⟨hr3, q18, q29⟩), tn_nI (show j < 2000000 by omega), if_neg (fun z => z.1 q57), if_pos q57]
            refine ⟨rfl, hc, Kp.rf h, by omega⟩
        · skip
          refine v_aload hX rfl qX11_lookers_43 ?_
          refine v_getIv hX g_X11_309 (Or.inl rfl) (hs.sk (isS_j hj)) g1 qX11_lookers_45 ?_
          refine v_iload_n hX rfl qX11_lookers_48 ?_
          refine v_icmp_eq hX 55 qX11_lookers_49 rfl (fun q49 => ?_) (fun q49 => ?_)
          · skip
            refine v_aload hX rfl qX11_lookers_55 ?_
            refine v_callVq hX hR k_X11_238 (hs.sk (isS_j hj)) (c_isMissing (by exact hs) (by exact (isS_j hj))) rfl (Nat.le_of_ble_eq_true rfl) rfl (Nat.le_of_ble_eq_true rfl) ⟨by omega, by omega⟩ qX11_lookers_57 ?_
            rintro _ _ ⟨rfl, rfl⟩
            first | refine v_if_eqB hX 66 qX11_lookers_60 rfl (fun q60 => ?_) (fun q60 => ?_) | refine v_if_eq hX 66 qX11_lookers_60 rfl (fun q60 => ?_) (fun q60 => ?_)
            · have hno : ¬ sS E j = -1 := fun z => q60 (g1.trans z)
              have hso : ¬ (¬ sS E j = -1 ∧ ¬ sS E j = so) := fun z => by first | exact z.2 q49 | exact q60 q40
              refine v_iconst hX li_0 qX11_lookers_66 ?_
              refine v_istore hX (Nat.le_of_ble_eq_true rfl) rfl (ls' := [some _, some _, some _, some _, some _, some _, some _, none, none]) rfl qX11_lookers_67 ?_
              refine v_iconst hX li_0 qX11_lookers_69 ?_
              refine v_istore hX (Nat.le_of_ble_eq_true rfl) rfl (ls' := [some _, some _, some _, some _, some _, some _, some _, some _, none]) rfl qX11_lookers_70 ?_
              have L72 : ∀ (mz : Nat) (k : Nat) (came : Int32) (h2 : AHp) (E2 : Sst), nn - k = mz → (k ≤ nn) → (CV h2 E2) → (Kp h h2) → (hpN h2 ≤ hpN h + k) → (sS E2 = sS E ∧ sL E2 = sL E ∧ sI' E2 = sI' E) → (lkS (sI' E j) (sL E j) fr (nn - k) k came E2 = lkS (sI' E j) (sL E j) fr nn 0 0 E) → V X G 9 k k (QM X G P 6 6) 72 [some (.ref 0), some (.int (nI j)), some (.int so), some (.int fr), some (.int (nI nn)), some (.ref (30 + 2 * j)), some (.int came), some (.int (nI k)), none] [] h2 := by
                intro mz
                induction mz using Nat.strongRecOn with
                | _ mz ih =>
                intro k came h2 E2 hm hi hc2 hkp hN2 hsh heq
                have hs := hc2.sh
                obtain ⟨g1, g2, g3⟩ := hc2.st j hj
                rw [hsh.2.1] at g2 g3
                rw [hsh.2.2] at g3
                refine v_iload hX rfl qX11_lookers_72 ?_
                refine v_iload hX rfl qX11_lookers_74 ?_
                refine v_icmp_geS hX 146 qX11_lookers_76 rfl (fun q76 => ?_) (fun q76 => ?_)
                · have e1 : k = nn := Nat.le_antisymm hi (nI_le' (by omega) (by omega) q76)
                  refine v_iload hX rfl qX11_lookers_146 ?_
                  refine v_widen (rt := none) (by omega) (by omega) (v_ireturn hX qX11_lookers_148 (hP _ _ ?_))
                  rw [e1, Nat.sub_self] at heq
                  rw [lookersI, if_pos (show (0 ≤ nI j ∧ nI j ≤ 3) ∧ (0 ≤ so ∧ so ≤ 2) ∧ (0 ≤ nI nn ∧ nI nn ≤ 6) from ⟨hr3, q18, q29⟩), tn_nI (show j < 2000000 by omega), tn_nI (show nn < 2000000 by omega), if_neg hso, if_neg hno, ← heq]
                  exact ⟨rfl, hc2, hkp, by omega⟩
                · have hl := nI_lt' (by omega) (by omega) q76
                  refine v_aload hX rfl qX11_lookers_79 ?_
                  refine v_iload_n hX rfl qX11_lookers_81 ?_
                  refine v_callVq hX hR k_X11_303 (hs.sk (isS_j hj)) (c_hasItem (by exact hs) (by exact (isS_j hj)) (by exact g2) (by exact hl40) _) rfl (Nat.le_of_ble_eq_true rfl) rfl (Nat.le_of_ble_eq_true rfl) ⟨by omega, by omega⟩ qX11_lookers_82 ?_
                  rintro _ _ ⟨rfl, rfl⟩
                  first | refine v_if_eqB hX 103 qX11_lookers_85 rfl (fun q85 => ?_) (fun q85 => ?_) | refine v_if_eq hX 103 qX11_lookers_85 rfl (fun q85 => ?_) (fun q85 => ?_)
                  · skip
                    refine v_bipush hX lb_n12 qX11_lookers_103 ?_
                    refine v_widen (rt := none) (by omega) (by omega) (v_ireturn hX qX11_lookers_105 (hP _ _ ?_))
                    have hstp : lkS (sI' E j) (sL E j) fr (nn - k) k came E2 = (-12, E2) := by
                      rw [show nn - k = nn - (k + 1) + 1 by omega, lkS_neg (fun z => by first | exact q85 ((rg_lk hl40 (by omega)).mpr z).1 | exact q100 ((rg_lk hl40 (by omega)).mpr z).2)]
                    rw [lookersI, if_pos (show (0 ≤ nI j ∧ nI j ≤ 3) ∧ (0 ≤ so ∧ so ≤ 2) ∧ (0 ≤ nI nn ∧ nI nn ≤ 6) from ⟨hr3, q18, q29⟩), tn_nI (show j < 2000000 by omega), tn_nI (show nn < 2000000 by omega), if_neg hso, if_neg hno, ← heq, hstp]
                    exact ⟨rfl, hc2, hkp, by omega⟩
                  · skip
                    refine v_aload hX rfl qX11_lookers_88 ?_
                    refine v_iload_n hX rfl qX11_lookers_90 ?_
                    refine v_iconst hX li_2 qX11_lookers_91 ?_
                    refine v_iload hX rfl qX11_lookers_92 ?_
                    refine v_imul hX qX11_lookers_94 ?_
                    refine v_iadd hX qX11_lookers_95 ?_
                    refine v_iconst hX li_2 qX11_lookers_96 ?_
                    refine v_callVq hX hR k_X11_312 (hs.sk (isS_j hj)) (c_hasRange (by exact hs) (by exact (isS_j hj)) (by exact g2) (by exact hl40) _ _) rfl (Nat.le_of_ble_eq_true rfl) rfl (Nat.le_of_ble_eq_true rfl) ⟨by omega, by omega⟩ qX11_lookers_97 ?_
                    rintro _ _ ⟨rfl, rfl⟩
                    first | refine v_if_neB hX 106 qX11_lookers_100 rfl (fun q100 => ?_) (fun q100 => ?_) | refine v_if_ne hX 106 qX11_lookers_100 rfl (fun q100 => ?_) (fun q100 => ?_)
                    · obtain ⟨hfr0, hfr⟩ := (rg_lk hl40 (by omega)).mp ⟨q85, q100⟩
                      obtain ⟨f, hf, rfl⟩ := ofRange q85.1 q85.2 (by omega)
                      rw [tn_nI (show f < 2000000 by omega)] at hfr
                      refine v_iload_n hX rfl qX11_lookers_106 ?_
                      refine v_iconst hX li_2 qX11_lookers_107 ?_
                      refine v_iload hX rfl qX11_lookers_108 ?_
                      refine v_imul hX qX11_lookers_110 ?_
                      refine v_iadd hX qX11_lookers_111 ?_
                      refine v_eqI (show nI f + 2 * nI k = nI (f + 2 * k) by rw [show (2 : Int32) = nI 2 from rfl, pk_mul, nI_add]) ?_
                      refine v_istore hX (Nat.le_of_ble_eq_true rfl) rfl (ls' := [some _, some _, some _, some _, some _, some _, some _, some _, some _]) rfl qX11_lookers_112 ?_
                      refine v_aload_n hX rfl qX11_lookers_114 ?_
                      refine v_aload hX rfl qX11_lookers_115 ?_
                      refine v_iload hX rfl qX11_lookers_117 ?_
                      refine v_callVq hX hR k_X11_246 (hs.sk (isS_j hj)) (c_itemAt (by exact hs) (by exact (isS_j hj)) (by exact g2) (by exact hl40) _) rfl (Nat.le_of_ble_eq_true rfl) rfl (Nat.le_of_ble_eq_true rfl) ⟨by omega, by omega⟩ qX11_lookers_119 ?_
                      rintro _ _ ⟨rfl, rfl⟩
                      refine v_eqI (show _ = sI' E j (f + 2 * k) by rw [if_pos ⟨nI_pos' (by omega), nI_lt (by omega) (by omega)⟩, tn_nI (by omega)]; exact g3 _ (by omega)) ?_
                      refine v_aload hX rfl qX11_lookers_122 ?_
                      refine v_iload hX rfl qX11_lookers_124 ?_
                      refine v_iconst hX li_1 qX11_lookers_126 ?_
                      refine v_iadd hX qX11_lookers_127 ?_
                      refine v_eqI (nI_1 (f + 2 * k)) ?_
                      refine v_callVq hX hR k_X11_246 (hs.sk (isS_j hj)) (c_itemAt (by exact hs) (by exact (isS_j hj)) (by exact g2) (by exact hl40) _) rfl (Nat.le_of_ble_eq_true rfl) rfl (Nat.le_of_ble_eq_true rfl) ⟨by omega, by omega⟩ qX11_lookers_128 ?_
                      rintro _ _ ⟨rfl, rfl⟩
                      refine v_eqI (show _ = sI' E j (f + 2 * k + 1) by rw [if_pos ⟨nI_pos' (by omega), nI_lt (by omega) (by omega)⟩, tn_nI (by omega)]; exact g3 _ (by omega)) ?_
                      refine v_callVq' hX hR k_X11_325 (hs.kd 0 rfl) (c_looker (by exact hc2) (by omega) _ _) rfl (Nat.le_of_ble_eq_true rfl) rfl (Nat.le_of_ble_eq_true rfl) ⟨by omega, by omega⟩ qX11_lookers_131 ?_
                      rintro _ _ ⟨rfl, hc3, hk3, hN3⟩
                      rename_i h3
                      refine v_if_ltS hX 140 qX11_lookers_134 rfl (fun q134 => ?_) (fun q134 => ?_)
                      · skip
                        refine v_iinc hX rfl (ii_nI _) (Nat.le_of_ble_eq_true rfl) rfl (ls' := [some _, some _, some _, some _, some _, some _, some _, some _, some _]) rfl qX11_lookers_140 ?_
                        refine v_goto hX 72 qX11_lookers_143 rfl ?_
                        refine v_forget (ls' := [_, _, _, _, _, _, _, _, none]) ⟨Or.inr rfl, Or.inr rfl, Or.inr rfl, Or.inr rfl, Or.inr rfl, Or.inr rfl, Or.inr rfl, Or.inr rfl, Or.inl rfl, trivial⟩ ?_
                        have hstp : lkS (sI' E j) (sL E j) (nI f) (nn - k) k came E2 = lkS (sI' E j) (sL E j) (nI f) (nn - (k + 1)) (k + 1) (if 0 ≤ (lookerI E2 (sI' E j (f + 2 * k)) (sI' E j (f + 2 * k + 1))).1 then came + 1 else came) (lookerI E2 (sI' E j (f + 2 * k)) (sI' E j (f + 2 * k + 1))).2 := by
                          rw [show nn - k = nn - (k + 1) + 1 by omega, lkS_pos (show 0 ≤ nI f ∧ tn (nI f) + 2 * k + 2 ≤ sL E j from ⟨nI_pos' (by omega), by rw [tn_nI (by omega)]; omega⟩), tn_nI (show f < 2000000 by omega)]
                        obtain ⟨w1, w2, w3⟩ := lookerI_sh E2 (sI' E j (f + 2 * k)) (sI' E j (f + 2 * k + 1))
                        first | (rw [if_pos q134] at hstp; exact ih _ (by omega) (k + 1) (came + 1) h3 _ rfl (by omega) hc3 (hkp.tr hk3) (by omega) ⟨w1.trans hsh.1, w2.trans hsh.2.1, w3.trans hsh.2.2⟩ (hstp.symm.trans heq)) | (rw [if_neg (Int32.not_le.mpr q134)] at hstp; exact ih _ (by omega) (k + 1) came h3 _ rfl (by omega) hc3 (hkp.tr hk3) (by omega) ⟨w1.trans hsh.1, w2.trans hsh.2.1, w3.trans hsh.2.2⟩ (hstp.symm.trans heq))
                      · skip
                        refine v_iinc hX rfl (ii_1 _) (Nat.le_of_ble_eq_true rfl) rfl (ls' := [some _, some _, some _, some _, some _, some _, some _, some _, some _]) rfl qX11_lookers_137 ?_
                        refine v_iinc hX rfl (ii_nI _) (Nat.le_of_ble_eq_true rfl) rfl (ls' := [some _, some _, some _, some _, some _, some _, some _, some _, some _]) rfl qX11_lookers_140 ?_
                        refine v_goto hX 72 qX11_lookers_143 rfl ?_
                        refine v_forget (ls' := [_, _, _, _, _, _, _, _, none]) ⟨Or.inr rfl, Or.inr rfl, Or.inr rfl, Or.inr rfl, Or.inr rfl, Or.inr rfl, Or.inr rfl, Or.inr rfl, Or.inl rfl, trivial⟩ ?_
                        have hstp : lkS (sI' E j) (sL E j) (nI f) (nn - k) k came E2 = lkS (sI' E j) (sL E j) (nI f) (nn - (k + 1)) (k + 1) (if 0 ≤ (lookerI E2 (sI' E j (f + 2 * k)) (sI' E j (f + 2 * k + 1))).1 then came + 1 else came) (lookerI E2 (sI' E j (f + 2 * k)) (sI' E j (f + 2 * k + 1))).2 := by
                          rw [show nn - k = nn - (k + 1) + 1 by omega, lkS_pos (show 0 ≤ nI f ∧ tn (nI f) + 2 * k + 2 ≤ sL E j from ⟨nI_pos' (by omega), by rw [tn_nI (by omega)]; omega⟩), tn_nI (show f < 2000000 by omega)]
                        obtain ⟨w1, w2, w3⟩ := lookerI_sh E2 (sI' E j (f + 2 * k)) (sI' E j (f + 2 * k + 1))
                        first | (rw [if_pos q134] at hstp; exact ih _ (by omega) (k + 1) (came + 1) h3 _ rfl (by omega) hc3 (hkp.tr hk3) (by omega) ⟨w1.trans hsh.1, w2.trans hsh.2.1, w3.trans hsh.2.2⟩ (hstp.symm.trans heq)) | (rw [if_neg (Int32.not_le.mpr q134)] at hstp; exact ih _ (by omega) (k + 1) came h3 _ rfl (by omega) hc3 (hkp.tr hk3) (by omega) ⟨w1.trans hsh.1, w2.trans hsh.2.1, w3.trans hsh.2.2⟩ (hstp.symm.trans heq))
                    · skip
                      refine v_bipush hX lb_n12 qX11_lookers_103 ?_
                      refine v_widen (rt := none) (by omega) (by omega) (v_ireturn hX qX11_lookers_105 (hP _ _ ?_))
                      have hstp : lkS (sI' E j) (sL E j) fr (nn - k) k came E2 = (-12, E2) := by
                        rw [show nn - k = nn - (k + 1) + 1 by omega, lkS_neg (fun z => by first | exact q85 ((rg_lk hl40 (by omega)).mpr z).1 | exact q100 ((rg_lk hl40 (by omega)).mpr z).2)]
                      rw [lookersI, if_pos (show (0 ≤ nI j ∧ nI j ≤ 3) ∧ (0 ≤ so ∧ so ≤ 2) ∧ (0 ≤ nI nn ∧ nI nn ≤ 6) from ⟨hr3, q18, q29⟩), tn_nI (show j < 2000000 by omega), tn_nI (show nn < 2000000 by omega), if_neg hso, if_neg hno, ← heq, hstp]
                      exact ⟨rfl, hc2, hkp, by omega⟩
              exact L72 _ 0 0 h E rfl (by omega) hc (Kp.rf h) (by omega) ⟨rfl, rfl, rfl⟩ rfl
            · skip
              refine v_bipush hX lb_n11 qX11_lookers_63 ?_
              refine v_widen (rt := none) (Nat.le_of_ble_eq_true rfl) (Nat.le_of_ble_eq_true rfl) (v_ireturn hX qX11_lookers_65 (hP _ _ ?_))
              have q57 : sS E j = -1 := g1.symm.trans q60
              rw [lookersI, if_pos (show (0 ≤ nI j ∧ nI j ≤ 3) ∧ (0 ≤ so ∧ so ≤ 2) ∧ (0 ≤ nI nn ∧ nI nn ≤ 6) from ⟨hr3, q18, q29⟩), tn_nI (show j < 2000000 by omega), if_neg (fun z => z.1 q57), if_pos q57]
              refine ⟨rfl, hc, Kp.rf h, by omega⟩
          · skip
            refine v_bipush hX lb_n13 qX11_lookers_52 ?_
            refine v_widen (rt := none) (Nat.le_of_ble_eq_true rfl) (Nat.le_of_ble_eq_true rfl) (v_ireturn hX qX11_lookers_54 (hP _ _ ?_))
            rw [lookersI, if_pos (show (0 ≤ nI j ∧ nI j ≤ 3) ∧ (0 ≤ so ∧ so ≤ 2) ∧ (0 ≤ nI nn ∧ nI nn ≤ 6) from ⟨hr3, q18, q29⟩), tn_nI (show j < 2000000 by omega), if_pos ⟨fun z => q40 (g1.trans z), q49⟩]
            refine ⟨rfl, hc, Kp.rf h, by omega⟩
      · skip
        refine v_bipush hX lb_n2 qX11_lookers_32 ?_
        refine v_widen (rt := none) (Nat.le_of_ble_eq_true rfl) (Nat.le_of_ble_eq_true rfl) (v_ireturn hX qX11_lookers_34 (hP _ _ ?_))
        first | (rw [lookersI, if_neg (fun z : (0 ≤ s ∧ s ≤ 3) ∧ (0 ≤ so ∧ so ≤ 2) ∧ (0 ≤ n ∧ n ≤ 6) => hn z.1)]; refine ⟨rfl, hc, Kp.rf h, by omega⟩) | (rw [lookersI, if_neg (fun z : (0 ≤ nI j ∧ nI j ≤ 3) ∧ (0 ≤ so ∧ so ≤ 2) ∧ (0 ≤ n ∧ n ≤ 6) => q18 z.2.1)]; refine ⟨rfl, hc, Kp.rf h, by omega⟩) | (rw [lookersI, if_neg (fun z : (0 ≤ nI j ∧ nI j ≤ 3) ∧ (0 ≤ so ∧ so ≤ 2) ∧ (0 ≤ n ∧ n ≤ 6) => q29 z.2.2)]; refine ⟨rfl, hc, Kp.rf h, by omega⟩)
  · skip
    refine v_astoreN hX (Nat.le_of_ble_eq_true rfl) rfl (ls' := [some _, some _, some _, some _, some _, some _, none, none, none]) rfl qX11_lookers_5 ?_
    refine v_aloadN hX rfl qX11_lookers_7 ?_
    refine v_ifnullN hX 32 qX11_lookers_9 rfl ?_
    refine v_bipush hX lb_n2 qX11_lookers_32 ?_
    refine v_widen (rt := none) (Nat.le_of_ble_eq_true rfl) (Nat.le_of_ble_eq_true rfl) (v_ireturn hX qX11_lookers_34 (hP _ _ ?_))
    first | (rw [lookersI, if_neg (fun z : (0 ≤ s ∧ s ≤ 3) ∧ (0 ≤ so ∧ so ≤ 2) ∧ (0 ≤ n ∧ n ≤ 6) => hn z.1)]; refine ⟨rfl, hc, Kp.rf h, by omega⟩) | (rw [lookersI, if_neg (fun z : (0 ≤ nI j ∧ nI j ≤ 3) ∧ (0 ≤ so ∧ so ≤ 2) ∧ (0 ≤ n ∧ n ≤ 6) => q18 z.2.1)]; refine ⟨rfl, hc, Kp.rf h, by omega⟩) | (rw [lookersI, if_neg (fun z : (0 ≤ nI j ∧ nI j ≤ 3) ∧ (0 ≤ so ∧ so ≤ 2) ∧ (0 ≤ n ∧ n ≤ 6) => q29 z.2.2)]; refine ⟨rfl, hc, Kp.rf h, by omega⟩)
theorem qX11_copy_0 : Dq cX11_copy 0 (.aload_n 0) 1 1 := ⟨by decide +kernel, rfl⟩
theorem qX11_copy_1 : Dq cX11_copy 1 (.iload_n 1) 1 2 := ⟨by decide +kernel, rfl⟩
theorem qX11_copy_2 : Dq cX11_copy 2 (.invokevirtual 234) 3 5 := ⟨by decide +kernel, rfl⟩
theorem qX11_copy_5 : Dq cX11_copy 5 (.astore 6) 2 7 := ⟨by decide +kernel, rfl⟩
theorem qX11_copy_7 : Dq cX11_copy 7 (.aload_n 0) 1 8 := ⟨by decide +kernel, rfl⟩
theorem qX11_copy_8 : Dq cX11_copy 8 (.iload_n 3) 1 9 := ⟨by decide +kernel, rfl⟩
theorem qX11_copy_9 : Dq cX11_copy 9 (.invokevirtual 234) 3 12 := ⟨by decide +kernel, rfl⟩
theorem qX11_copy_12 : Dq cX11_copy 12 (.astore 7) 2 14 := ⟨by decide +kernel, rfl⟩
theorem qX11_copy_14 : Dq cX11_copy 14 (.aload 6) 2 16 := ⟨by decide +kernel, rfl⟩
theorem qX11_copy_16 : Dq cX11_copy 16 (.ifnull 8) 3 19 := ⟨by decide +kernel, rfl⟩
theorem qX11_copy_19 : Dq cX11_copy 19 (.aload 7) 2 21 := ⟨by decide +kernel, rfl⟩
theorem qX11_copy_21 : Dq cX11_copy 21 (.ifnonnull 6) 3 24 := ⟨by decide +kernel, rfl⟩
theorem qX11_copy_24 : Dq cX11_copy 24 (.bipush (-2)) 2 26 := ⟨by decide +kernel, rfl⟩
theorem qX11_copy_26 : Dq cX11_copy 26 (.ireturn) 1 27 := ⟨by decide +kernel, rfl⟩
theorem qX11_copy_27 : Dq cX11_copy 27 (.aload 6) 2 29 := ⟨by decide +kernel, rfl⟩
theorem qX11_copy_29 : Dq cX11_copy 29 (.invokevirtual 238) 3 32 := ⟨by decide +kernel, rfl⟩
theorem qX11_copy_32 : Dq cX11_copy 32 (.ifCond .ne 11) 3 35 := ⟨by decide +kernel, rfl⟩
theorem qX11_copy_35 : Dq cX11_copy 35 (.aload 7) 2 37 := ⟨by decide +kernel, rfl⟩
theorem qX11_copy_37 : Dq cX11_copy 37 (.invokevirtual 238) 3 40 := ⟨by decide +kernel, rfl⟩
theorem qX11_copy_40 : Dq cX11_copy 40 (.ifCond .eq 6) 3 43 := ⟨by decide +kernel, rfl⟩
theorem qX11_copy_43 : Dq cX11_copy 43 (.bipush (-11)) 2 45 := ⟨by decide +kernel, rfl⟩
theorem qX11_copy_45 : Dq cX11_copy 45 (.ireturn) 1 46 := ⟨by decide +kernel, rfl⟩
theorem qX11_copy_46 : Dq cX11_copy 46 (.aload 6) 2 48 := ⟨by decide +kernel, rfl⟩
theorem qX11_copy_48 : Dq cX11_copy 48 (.getfield 309) 3 51 := ⟨by decide +kernel, rfl⟩
theorem qX11_copy_51 : Dq cX11_copy 51 (.aload 7) 2 53 := ⟨by decide +kernel, rfl⟩
theorem qX11_copy_53 : Dq cX11_copy 53 (.getfield 309) 3 56 := ⟨by decide +kernel, rfl⟩
theorem qX11_copy_56 : Dq cX11_copy 56 (.if_icmp .eq 6) 3 59 := ⟨by decide +kernel, rfl⟩
theorem qX11_copy_59 : Dq cX11_copy 59 (.bipush (-13)) 2 61 := ⟨by decide +kernel, rfl⟩
theorem qX11_copy_61 : Dq cX11_copy 61 (.ireturn) 1 62 := ⟨by decide +kernel, rfl⟩
theorem qX11_copy_62 : Dq cX11_copy 62 (.aload 6) 2 64 := ⟨by decide +kernel, rfl⟩
theorem qX11_copy_64 : Dq cX11_copy 64 (.iload_n 2) 1 65 := ⟨by decide +kernel, rfl⟩
theorem qX11_copy_65 : Dq cX11_copy 65 (.iload 5) 2 67 := ⟨by decide +kernel, rfl⟩
theorem qX11_copy_67 : Dq cX11_copy 67 (.invokevirtual 312) 3 70 := ⟨by decide +kernel, rfl⟩
theorem qX11_copy_70 : Dq cX11_copy 70 (.ifCond .eq 15) 3 73 := ⟨by decide +kernel, rfl⟩
theorem qX11_copy_73 : Dq cX11_copy 73 (.aload 7) 2 75 := ⟨by decide +kernel, rfl⟩
theorem qX11_copy_75 : Dq cX11_copy 75 (.iload 4) 2 77 := ⟨by decide +kernel, rfl⟩
theorem qX11_copy_77 : Dq cX11_copy 77 (.iload 5) 2 79 := ⟨by decide +kernel, rfl⟩
theorem qX11_copy_79 : Dq cX11_copy 79 (.invokevirtual 312) 3 82 := ⟨by decide +kernel, rfl⟩
theorem qX11_copy_82 : Dq cX11_copy 82 (.ifCond .ne 6) 3 85 := ⟨by decide +kernel, rfl⟩
theorem qX11_copy_85 : Dq cX11_copy 85 (.bipush (-12)) 2 87 := ⟨by decide +kernel, rfl⟩
theorem qX11_copy_87 : Dq cX11_copy 87 (.ireturn) 1 88 := ⟨by decide +kernel, rfl⟩
theorem qX11_copy_88 : Dq cX11_copy 88 (.aload 6) 2 90 := ⟨by decide +kernel, rfl⟩
theorem qX11_copy_90 : Dq cX11_copy 90 (.getfield 315) 3 93 := ⟨by decide +kernel, rfl⟩
theorem qX11_copy_93 : Dq cX11_copy 93 (.iload_n 2) 1 94 := ⟨by decide +kernel, rfl⟩
theorem qX11_copy_94 : Dq cX11_copy 94 (.aload 7) 2 96 := ⟨by decide +kernel, rfl⟩
theorem qX11_copy_96 : Dq cX11_copy 96 (.getfield 315) 3 99 := ⟨by decide +kernel, rfl⟩
theorem qX11_copy_99 : Dq cX11_copy 99 (.iload 4) 2 101 := ⟨by decide +kernel, rfl⟩
theorem qX11_copy_101 : Dq cX11_copy 101 (.iload 5) 2 103 := ⟨by decide +kernel, rfl⟩
theorem qX11_copy_103 : Dq cX11_copy 103 (.invokestatic 319) 3 106 := ⟨by decide +kernel, rfl⟩
theorem qX11_copy_106 : Dq cX11_copy 106 (.iload 5) 2 108 := ⟨by decide +kernel, rfl⟩
theorem qX11_copy_108 : Dq cX11_copy 108 (.ireturn) 1 109 := ⟨by decide +kernel, rfl⟩
set_option maxRecDepth 100000 in
set_option maxHeartbeats 4000000 in
theorem c_copy {G : Glb} {h : AHp} {E : Sst} (hc : CV h E) (s i o j n : Int32) : CP G m_X11_copy 4 0 0 [.ref 0, .int s, .int i, .int o, .int j, .int n] h (fun r h' => r = some (.int (copyI E s i o j n).1) ∧ ∃ σ, h' = (σ, h.2) ∧ CV (σ, h.2) (setS E (sS E) (sL E) (copyI E s i o j n).2) ∧ K38 h σ) := by
  suffices key : ∀ P : Option Value → AHp → Prop, (∀ r h', (r = some (.int (copyI E s i o j n).1) ∧ ∃ σ, h' = (σ, h.2) ∧ CV (σ, h.2) (setS E (sS E) (sL E) (copyI E s i o j n).2) ∧ K38 h σ) → P r h') → CP G m_X11_copy 4 0 0 [.ref 0, .int s, .int i, .int o, .int j, .int n] h P from key _ (fun _ _ z => z)
  intro P hP
  have hs := hc.sh
  have hru := hc.ru
  have hca := hc.ca
  have hbe := hc.be
  have hok := hc.ok
  obtain ⟨hrl, hrl5⟩ := hbe.rl hok.1
  rw [bv0 (by omega) (by omega)] at hrl5
  have hh3 := hbe.2.2.2.1
  rw [bv0 (by omega) (by omega)] at hh3
  refine CP.of (by decide +kernel) (Nat.le_of_ble_eq_true rfl) fun X hX hR hnm => ?_
  show V X G 8 0 0 _ 0 [some (.ref 0), some (.int s), some (.int i), some (.int o), some (.int j), some (.int n), none, none] [] h
  refine v_aload_n hX rfl qX11_copy_0 ?_
  refine v_iload_n hX rfl qX11_copy_1 ?_
  refine v_callVq hX hR k_X11_234 (hs.kd 0 rfl) (c_sheetAt (by exact hs) _) rfl (Nat.le_of_ble_eq_true rfl) rfl (Nat.le_of_ble_eq_true rfl) ⟨Nat.le_of_ble_eq_true rfl, Nat.le_of_ble_eq_true rfl⟩ qX11_copy_2 ?_
  rintro _ _ ⟨⟨p, hp, rfl, rfl⟩ | ⟨hnp, rfl⟩, rfl⟩
  · obtain ⟨g1p, g2p, g3p⟩ := hc.st p hp
    have hr3p := r3 hp
    have hl40p := (hok.2.2.2.2.2.2.2 p hp).1
    refine v_astore hX (Nat.le_of_ble_eq_true rfl) rfl (ls' := [some _, some _, some _, some _, some _, some _, some _, none]) rfl qX11_copy_5 ?_
    refine v_aload_n hX rfl qX11_copy_7 ?_
    refine v_iload_n hX rfl qX11_copy_8 ?_
    refine v_callVq hX hR k_X11_234 (hs.kd 0 rfl) (c_sheetAt (by exact hs) _) rfl (Nat.le_of_ble_eq_true rfl) rfl (Nat.le_of_ble_eq_true rfl) ⟨Nat.le_of_ble_eq_true rfl, Nat.le_of_ble_eq_true rfl⟩ qX11_copy_9 ?_
    rintro _ _ ⟨⟨q, hq, rfl, rfl⟩ | ⟨hnq, rfl⟩, rfl⟩
    · obtain ⟨g1q, g2q, g3q⟩ := hc.st q hq
      have hr3q := r3 hq
      have hl40q := (hok.2.2.2.2.2.2.2 q hq).1
      refine v_astore hX (Nat.le_of_ble_eq_true rfl) rfl (ls' := [some _, some _, some _, some _, some _, some _, some _, some _]) rfl qX11_copy_12 ?_
      refine v_aload hX rfl qX11_copy_14 ?_
      refine v_ifnull hX qX11_copy_16 ?_
      refine v_aload hX rfl qX11_copy_19 ?_
      refine v_ifnonnull hX 27 qX11_copy_21 rfl ?_
      refine v_aload hX rfl qX11_copy_27 ?_
      refine v_callVq hX hR k_X11_238 (hs.sk (isS_j hp)) (c_isMissing (by exact hs) (by exact (isS_j hp))) rfl (Nat.le_of_ble_eq_true rfl) rfl (Nat.le_of_ble_eq_true rfl) ⟨Nat.le_of_ble_eq_true rfl, Nat.le_of_ble_eq_true rfl⟩ qX11_copy_29 ?_
      rintro _ _ ⟨rfl, rfl⟩
      first | refine v_if_neB hX 43 qX11_copy_32 rfl (fun q32 => ?_) (fun q32 => ?_) | refine v_if_ne hX 43 qX11_copy_32 rfl (fun q32 => ?_) (fun q32 => ?_)
      · skip
        refine v_bipush hX lb_n11 qX11_copy_43 ?_
        refine v_ireturn hX qX11_copy_45 (hP _ _ ?_)
        first | (rw [copyI, if_pos (show (0 ≤ nI p ∧ nI p ≤ 3) ∧ (0 ≤ nI q ∧ nI q ≤ 3) from ⟨hr3p, hr3q⟩), tn_nI (show p < 2000000 by omega), tn_nI (show q < 2000000 by omega), if_pos (Or.inl (g1p.symm.trans q32))]; exact ⟨rfl, h.1, rfl, hc, fun a _ => rfl⟩) | (rw [copyI, if_pos (show (0 ≤ nI p ∧ nI p ≤ 3) ∧ (0 ≤ nI q ∧ nI q ≤ 3) from ⟨hr3p, hr3q⟩), tn_nI (show p < 2000000 by omega), tn_nI (show q < 2000000 by omega), if_pos (Or.inr (g1q.symm.trans q40))]; exact ⟨rfl, h.1, rfl, hc, fun a _ => rfl⟩)
      · skip
        refine v_aload hX rfl qX11_copy_35 ?_
        refine v_callVq hX hR k_X11_238 (hs.sk (isS_j hq)) (c_isMissing (by exact hs) (by exact (isS_j hq))) rfl (Nat.le_of_ble_eq_true rfl) rfl (Nat.le_of_ble_eq_true rfl) ⟨Nat.le_of_ble_eq_true rfl, Nat.le_of_ble_eq_true rfl⟩ qX11_copy_37 ?_
        rintro _ _ ⟨rfl, rfl⟩
        first | refine v_if_eqB hX 46 qX11_copy_40 rfl (fun q40 => ?_) (fun q40 => ?_) | refine v_if_eq hX 46 qX11_copy_40 rfl (fun q40 => ?_) (fun q40 => ?_)
        · have hno : ¬ (sS E p = -1 ∨ sS E q = -1) := fun z => z.elim (fun y => q32 (g1p.trans y)) (fun y => q40 (g1q.trans y))
          refine v_aload hX rfl qX11_copy_46 ?_
          refine v_getIv hX g_X11_309 (Or.inl rfl) (hs.sk (isS_j hp)) g1p qX11_copy_48 ?_
          refine v_aload hX rfl qX11_copy_51 ?_
          refine v_getIv hX g_X11_309 (Or.inl rfl) (hs.sk (isS_j hq)) g1q qX11_copy_53 ?_
          refine v_icmp_eq hX 62 qX11_copy_56 rfl (fun q56 => ?_) (fun q56 => ?_)
          · skip
            refine v_aload hX rfl qX11_copy_62 ?_
            refine v_iload_n hX rfl qX11_copy_64 ?_
            refine v_iload hX rfl qX11_copy_65 ?_
            refine v_callVq hX hR k_X11_312 (hs.sk (isS_j hp)) (c_hasRange (by exact hs) (by exact (isS_j hp)) (by exact g2p) (by exact hl40p) _ _) rfl (Nat.le_of_ble_eq_true rfl) rfl (Nat.le_of_ble_eq_true rfl) ⟨Nat.le_of_ble_eq_true rfl, Nat.le_of_ble_eq_true rfl⟩ qX11_copy_67 ?_
            rintro _ _ ⟨rfl, rfl⟩
            first | refine v_if_eqB hX 85 qX11_copy_70 rfl (fun q70 => ?_) (fun q70 => ?_) | refine v_if_eq hX 85 qX11_copy_70 rfl (fun q70 => ?_) (fun q70 => ?_)
            · skip
              refine v_bipush hX lb_n12 qX11_copy_85 ?_
              refine v_ireturn hX qX11_copy_87 (hP _ _ ?_)
              first | (rw [copyI, if_pos (show (0 ≤ nI p ∧ nI p ≤ 3) ∧ (0 ≤ nI q ∧ nI q ≤ 3) from ⟨hr3p, hr3q⟩), tn_nI (show p < 2000000 by omega), tn_nI (show q < 2000000 by omega), if_neg hno, if_neg (fun z => z q56), if_neg (fun z => q70 z.1)]; exact ⟨rfl, h.1, rfl, hc, fun a _ => rfl⟩) | (rw [copyI, if_pos (show (0 ≤ nI p ∧ nI p ≤ 3) ∧ (0 ≤ nI q ∧ nI q ≤ 3) from ⟨hr3p, hr3q⟩), tn_nI (show p < 2000000 by omega), tn_nI (show q < 2000000 by omega), if_neg hno, if_neg (fun z => z q56), if_neg (fun z => q82 z.2)]; exact ⟨rfl, h.1, rfl, hc, fun a _ => rfl⟩)
            · skip
              refine v_aload hX rfl qX11_copy_73 ?_
              refine v_iload hX rfl qX11_copy_75 ?_
              refine v_iload hX rfl qX11_copy_77 ?_
              refine v_callVq hX hR k_X11_312 (hs.sk (isS_j hq)) (c_hasRange (by exact hs) (by exact (isS_j hq)) (by exact g2q) (by exact hl40q) _ _) rfl (Nat.le_of_ble_eq_true rfl) rfl (Nat.le_of_ble_eq_true rfl) ⟨Nat.le_of_ble_eq_true rfl, Nat.le_of_ble_eq_true rfl⟩ qX11_copy_79 ?_
              rintro _ _ ⟨rfl, rfl⟩
              first | refine v_if_neB hX 88 qX11_copy_82 rfl (fun q82 => ?_) (fun q82 => ?_) | refine v_if_ne hX 88 qX11_copy_82 rfl (fun q82 => ?_) (fun q82 => ?_)
              · obtain ⟨a, c, rfl, rfl, hac⟩ := rg_ex hl40p q70
                obtain ⟨b, c2, rfl, hcc, hbc⟩ := rg_ex hl40q q82
                have hc2 : c = c2 := (nI_eq (by omega) (by omega)).mp hcc
                subst hc2
                refine v_aload hX rfl qX11_copy_88 ?_
                refine v_getR hX g_X11_315 (hs.sk (isS_j hp)) (hs.si (isS_j hp)) qX11_copy_90 ?_
                refine v_iload_n hX rfl qX11_copy_93 ?_
                refine v_aload hX rfl qX11_copy_94 ?_
                refine v_getR hX g_X11_315 (hs.sk (isS_j hq)) (hs.si (isS_j hq)) qX11_copy_96 ?_
                refine v_iload hX rfl qX11_copy_99 ?_
                refine v_iload hX rfl qX11_copy_101 ?_
                refine v_acopy hX hR (Nat.le_of_ble_eq_true rfl) k_X11_319 (hs.sik (isS_j hp)) (hs.sik (isS_j hq)) (hs.sil (isS_j hp)) (hs.sil (isS_j hq)) ?_ ?_ ?_ ?_ ?_ (Nat.le_of_ble_eq_true rfl) qX11_copy_103 ?_
                · exact nI_pos (by omega)
                · exact nI_pos (by omega)
                · exact nI_pos (by omega)
                · show tn (nI a) + tn (nI c) ≤ 40; rw [tn_nI (by omega), tn_nI (by omega)]; omega
                · show tn (nI b) + tn (nI c) ≤ 40; rw [tn_nI (by omega), tn_nI (by omega)]; omega
                refine v_iload hX rfl qX11_copy_106 ?_
                refine v_ireturn hX qX11_copy_108 (hP _ _ ?_)
                refine (show _ ∧ ∃ σ, stC h (30 + 2 * p + 1) (30 + 2 * q + 1) (tn (nI a)) (tn (nI b)) (tn (nI c)) = (σ, h.2) ∧ _ from ?_)
                rw [copyI, if_pos (show (0 ≤ nI p ∧ nI p ≤ 3) ∧ (0 ≤ nI q ∧ nI q ≤ 3) from ⟨hr3p, hr3q⟩), tn_nI (show p < 2000000 by omega), tn_nI (show q < 2000000 by omega), if_neg hno, if_neg (fun z => z q56), if_pos ⟨q70, q82⟩, tn_nI (show a < 2000000 by omega), tn_nI (show b < 2000000 by omega), tn_nI (show c < 2000000 by omega)]
                refine ⟨rfl, (stC h (30 + 2 * p + 1) (30 + 2 * q + 1) a b c).1, rfl, hc.shts (fun x k a1 => ?_) (fun i hi => ?_) hok.2.2.2.2.2.2.2, fun x ha => funext fun k => ?_⟩
                · show hpI (stC _ _ _ _ _ _) _ _ = _; rw [hpI_stC, if_neg (by omega)]
                · obtain ⟨f1, f2, f3⟩ := hc.st i hi
                  refine ⟨?_, ?_, fun k hk => ?_⟩
                  · show hpI (stC _ _ _ _ _ _) _ _ = _; rw [hpI_stC, if_neg (by omega)]; exact f1
                  · show hpI (stC _ _ _ _ _ _) _ _ = _; rw [hpI_stC, if_neg (by omega)]; exact f2
                  · show hpI (stC _ _ _ _ _ _) _ _ = cpyI (sI' E) p q a b c i k
                    rw [hpI_stC, cpyI]
                    by_cases e : i = q ∧ b ≤ k ∧ k < b + c
                    · rw [if_pos ⟨by rw [e.1], e.2⟩, if_pos e]; exact g3p _ (by omega)
                    · rw [if_neg (fun z => e ⟨by omega, z.2⟩), if_neg e]; exact f3 k hk
                · show hpI (stC _ _ _ _ _ _) _ _ = _; rw [hpI_stC, if_neg (by omega)]
              · skip
                refine v_bipush hX lb_n12 qX11_copy_85 ?_
                refine v_ireturn hX qX11_copy_87 (hP _ _ ?_)
                first | (rw [copyI, if_pos (show (0 ≤ nI p ∧ nI p ≤ 3) ∧ (0 ≤ nI q ∧ nI q ≤ 3) from ⟨hr3p, hr3q⟩), tn_nI (show p < 2000000 by omega), tn_nI (show q < 2000000 by omega), if_neg hno, if_neg (fun z => z q56), if_neg (fun z => q70 z.1)]; exact ⟨rfl, h.1, rfl, hc, fun a _ => rfl⟩) | (rw [copyI, if_pos (show (0 ≤ nI p ∧ nI p ≤ 3) ∧ (0 ≤ nI q ∧ nI q ≤ 3) from ⟨hr3p, hr3q⟩), tn_nI (show p < 2000000 by omega), tn_nI (show q < 2000000 by omega), if_neg hno, if_neg (fun z => z q56), if_neg (fun z => q82 z.2)]; exact ⟨rfl, h.1, rfl, hc, fun a _ => rfl⟩)
          · skip
            refine v_bipush hX lb_n13 qX11_copy_59 ?_
            refine v_ireturn hX qX11_copy_61 (hP _ _ ?_)
            rw [copyI, if_pos (show (0 ≤ nI p ∧ nI p ≤ 3) ∧ (0 ≤ nI q ∧ nI q ≤ 3) from ⟨hr3p, hr3q⟩), tn_nI (show p < 2000000 by omega), tn_nI (show q < 2000000 by omega), if_neg hno, if_pos q56]
            exact ⟨rfl, h.1, rfl, hc, fun a _ => rfl⟩
        · skip
          refine v_bipush hX lb_n11 qX11_copy_43 ?_
          refine v_ireturn hX qX11_copy_45 (hP _ _ ?_)
          first | (rw [copyI, if_pos (show (0 ≤ nI p ∧ nI p ≤ 3) ∧ (0 ≤ nI q ∧ nI q ≤ 3) from ⟨hr3p, hr3q⟩), tn_nI (show p < 2000000 by omega), tn_nI (show q < 2000000 by omega), if_pos (Or.inl (g1p.symm.trans q32))]; exact ⟨rfl, h.1, rfl, hc, fun a _ => rfl⟩) | (rw [copyI, if_pos (show (0 ≤ nI p ∧ nI p ≤ 3) ∧ (0 ≤ nI q ∧ nI q ≤ 3) from ⟨hr3p, hr3q⟩), tn_nI (show p < 2000000 by omega), tn_nI (show q < 2000000 by omega), if_pos (Or.inr (g1q.symm.trans q40))]; exact ⟨rfl, h.1, rfl, hc, fun a _ => rfl⟩)
    · skip
      refine v_astoreN hX (Nat.le_of_ble_eq_true rfl) rfl (ls' := [some _, some _, some _, some _, some _, some _, some _, some _]) rfl qX11_copy_12 ?_
      refine v_aload hX rfl qX11_copy_14 ?_
      refine v_ifnull hX qX11_copy_16 ?_
      refine v_aloadN hX rfl qX11_copy_19 ?_
      refine v_ifnonnullN hX qX11_copy_21 ?_
      refine v_bipush hX lb_n2 qX11_copy_24 ?_
      refine v_ireturn hX qX11_copy_26 (hP _ _ ?_)
      first | (rw [copyI, if_neg (fun z => hnp z.1)]; exact ⟨rfl, h.1, rfl, hc, fun a _ => rfl⟩) | (rw [copyI, if_neg (fun z => hnq z.2)]; exact ⟨rfl, h.1, rfl, hc, fun a _ => rfl⟩)
  · skip
    refine v_astoreN hX (Nat.le_of_ble_eq_true rfl) rfl (ls' := [some _, some _, some _, some _, some _, some _, some _, none]) rfl qX11_copy_5 ?_
    refine v_aload_n hX rfl qX11_copy_7 ?_
    refine v_iload_n hX rfl qX11_copy_8 ?_
    refine v_callVq hX hR k_X11_234 (hs.kd 0 rfl) (c_sheetAt (by exact hs) _) rfl (Nat.le_of_ble_eq_true rfl) rfl (Nat.le_of_ble_eq_true rfl) ⟨Nat.le_of_ble_eq_true rfl, Nat.le_of_ble_eq_true rfl⟩ qX11_copy_9 ?_
    rintro _ _ ⟨⟨q, hq, rfl, rfl⟩ | ⟨hnq, rfl⟩, rfl⟩
    · obtain ⟨g1q, g2q, g3q⟩ := hc.st q hq
      have hr3q := r3 hq
      have hl40q := (hok.2.2.2.2.2.2.2 q hq).1
      refine v_astore hX (Nat.le_of_ble_eq_true rfl) rfl (ls' := [some _, some _, some _, some _, some _, some _, some _, some _]) rfl qX11_copy_12 ?_
      refine v_aloadN hX rfl qX11_copy_14 ?_
      refine v_ifnullN hX 24 qX11_copy_16 rfl ?_
      refine v_bipush hX lb_n2 qX11_copy_24 ?_
      refine v_ireturn hX qX11_copy_26 (hP _ _ ?_)
      first | (rw [copyI, if_neg (fun z => hnp z.1)]; exact ⟨rfl, h.1, rfl, hc, fun a _ => rfl⟩) | (rw [copyI, if_neg (fun z => hnq z.2)]; exact ⟨rfl, h.1, rfl, hc, fun a _ => rfl⟩)
    · skip
      refine v_astoreN hX (Nat.le_of_ble_eq_true rfl) rfl (ls' := [some _, some _, some _, some _, some _, some _, some _, some _]) rfl qX11_copy_12 ?_
      refine v_aloadN hX rfl qX11_copy_14 ?_
      refine v_ifnullN hX 24 qX11_copy_16 rfl ?_
      refine v_bipush hX lb_n2 qX11_copy_24 ?_
      refine v_ireturn hX qX11_copy_26 (hP _ _ ?_)
      first | (rw [copyI, if_neg (fun z => hnp z.1)]; exact ⟨rfl, h.1, rfl, hc, fun a _ => rfl⟩) | (rw [copyI, if_neg (fun z => hnq z.2)]; exact ⟨rfl, h.1, rfl, hc, fun a _ => rfl⟩)
