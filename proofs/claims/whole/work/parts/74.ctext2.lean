/-! text() of the class -/
theorem evn_cg {f g env : Nat → Int32} : ∀ n i s, (∀ k, i ≤ k → k < i + n → f k = g k) → evn f env n i s = evn g env n i s := by
  intro n
  induction n with
  | zero => intro i s _; rfl
  | succ n ih =>
    intro i s h
    unfold evn
    rw [h i (Nat.le_refl _) (by omega)]
    exact congrArg (fun z => (ev1 env (g i) s).bind z) (funext fun s' => ih (i + 1) s' (fun k h1 h2 => h k (by omega) (by omega)))
theorem mono_up {E : Nat → Nat} {N : Nat} (h : ∀ i, i < N → E i ≤ E (i + 1)) : ∀ d i, i + d ≤ N → E i ≤ E (i + d) := by
  intro d
  induction d with
  | zero => intro i _; exact Nat.le_refl _
  | succ d ih => intro i hi; exact Nat.le_trans (ih i (by omega)) (h (i + d) (by omega))
theorem RuOK.new {h : AHp} {cnt : Nat} {TV : TVt} (hr : RuOK h cnt TV) (hc6 : cnt < 6) {σ : Nat → Nat → Int32} {b n1 n2 n3 : Nat} (hb : hpI h 19 (cnt * 3) = nI b) (hb8 : b ≤ 800) (g2 : σ 17 2 = nI (cnt + 1)) (g18 : ∀ k, k < b → σ 18 k = hpI h 18 k) (g19 : ∀ k, k ≤ cnt * 3 → σ 19 k = hpI h 19 k) (e1 : σ 19 (cnt * 3 + 1) = nI (b + n1)) (e2 : σ 19 (cnt * 3 + 2) = nI (b + (n1 + n2))) (e3 : σ 19 (cnt * 3 + 3) = nI (b + (n1 + n2 + n3))) (hn : n1 + n2 + n3 ≤ 160) {V3 : Nat → (Nat → Int32) → Int32} (r1 : ∀ env, evn (σ 18) env n1 b [] = some [V3 0 env]) (r2 : ∀ env, evn (σ 18) env n2 (b + n1) [] = some [V3 1 env]) (r3 : ∀ env, evn (σ 18) env n3 (b + (n1 + n2)) [] = some [V3 2 env]) : RuOK (σ, h.2) (cnt + 1) (fun t => if t = cnt then V3 else TV t) := by
  obtain ⟨z1, z2, E, E0, E1, E2, E3, E4⟩ := hr
  have hbe : E (cnt * 3) = b := by
    have := (E1 (cnt * 3) (Nat.le_refl _)).1
    rw [hb] at this
    exact ((nI_eq (by omega) (by have := (E1 (cnt * 3) (Nat.le_refl _)).2; omega)).mp this).symm
  refine ⟨g2, hc6, fun i => if i ≤ cnt * 3 then E i else if i = cnt * 3 + 1 then b + n1 else if i = cnt * 3 + 2 then b + (n1 + n2) else b + (n1 + n2 + n3), by show (if 0 ≤ cnt * 3 then E 0 else _) = 0; rw [if_pos (Nat.zero_le _)]; exact E0, fun i hi => ?_, fun i hi => ?_, ?_, fun t q ht hq env => ?_⟩
  · show σ 19 i = nI (if i ≤ cnt * 3 then E i else if i = cnt * 3 + 1 then b + n1 else if i = cnt * 3 + 2 then b + (n1 + n2) else b + (n1 + n2 + n3)) ∧ (if i ≤ cnt * 3 then E i else if i = cnt * 3 + 1 then b + n1 else if i = cnt * 3 + 2 then b + (n1 + n2) else b + (n1 + n2 + n3)) ≤ 960
    by_cases h1 : i ≤ cnt * 3
    · rw [if_pos h1, g19 i h1]; exact E1 i h1
    rw [if_neg h1]
    by_cases h2 : i = cnt * 3 + 1
    · rw [if_pos h2, h2]; exact ⟨e1, by omega⟩
    rw [if_neg h2]
    by_cases h3 : i = cnt * 3 + 2
    · rw [if_pos h3, h3]; exact ⟨e2, by omega⟩
    rw [if_neg h3, show i = cnt * 3 + 3 by omega]
    exact ⟨e3, by omega⟩
  · show (if i ≤ cnt * 3 then E i else if i = cnt * 3 + 1 then b + n1 else if i = cnt * 3 + 2 then b + (n1 + n2) else b + (n1 + n2 + n3)) ≤ (if i + 1 ≤ cnt * 3 then E (i + 1) else if i + 1 = cnt * 3 + 1 then b + n1 else if i + 1 = cnt * 3 + 2 then b + (n1 + n2) else b + (n1 + n2 + n3))
    by_cases h1 : i + 1 ≤ cnt * 3
    · rw [if_pos h1, if_pos (by omega)]; exact E2 i (by omega)
    rw [if_neg h1]
    by_cases h2 : i = cnt * 3
    · rw [if_pos (by omega), if_pos (by omega), h2, hbe]; omega
    rw [if_neg (by omega)]
    repeat' split
    all_goals omega
  · show (if (cnt + 1) * 3 ≤ cnt * 3 then _ else if (cnt + 1) * 3 = cnt * 3 + 1 then _ else if (cnt + 1) * 3 = cnt * 3 + 2 then _ else b + (n1 + n2 + n3)) ≤ _
    rw [if_neg (by omega), if_neg (by omega), if_neg (by omega)]
    omega
  · show evn (σ 18) env ((if t * 3 + q + 1 ≤ cnt * 3 then E (t * 3 + q + 1) else if t * 3 + q + 1 = cnt * 3 + 1 then b + n1 else if t * 3 + q + 1 = cnt * 3 + 2 then b + (n1 + n2) else b + (n1 + n2 + n3)) - (if t * 3 + q ≤ cnt * 3 then E (t * 3 + q) else if t * 3 + q = cnt * 3 + 1 then b + n1 else if t * 3 + q = cnt * 3 + 2 then b + (n1 + n2) else b + (n1 + n2 + n3))) (if t * 3 + q ≤ cnt * 3 then E (t * 3 + q) else if t * 3 + q = cnt * 3 + 1 then b + n1 else if t * 3 + q = cnt * 3 + 2 then b + (n1 + n2) else b + (n1 + n2 + n3)) [] = some [(if t = cnt then V3 else TV t) q env]
    by_cases h1 : t = cnt
    · subst h1
      rw [if_pos rfl]
      have hq3 : q = 0 ∨ q = 1 ∨ q = 2 := by omega
      rcases hq3 with rfl | rfl | rfl
      · rw [if_neg (by omega), if_pos (by omega), if_pos (by omega), Nat.add_zero, hbe, show b + n1 - b = n1 by omega]
        exact r1 env
      · rw [if_neg (by omega), if_neg (by omega), if_pos (by omega), if_neg (by omega), if_pos (by omega), show b + (n1 + n2) - (b + n1) = n2 by omega]
        exact r2 env
      · rw [if_neg (by omega), if_neg (by omega), if_neg (by omega), if_neg (by omega), if_neg (by omega), if_pos (by omega), show b + (n1 + n2 + n3) - (b + (n1 + n2)) = n3 by omega]
        exact r3 env
    · have htc : t < cnt := by omega
      rw [if_neg h1, if_pos (by omega), if_pos (by omega)]
      have hu := mono_up E2 (cnt * 3 - (t * 3 + q + 1)) (t * 3 + q + 1) (by omega)
      rw [show t * 3 + q + 1 + (cnt * 3 - (t * 3 + q + 1)) = cnt * 3 by omega, hbe] at hu
      rw [evn_cg (f := σ 18) (g := hpI h 18) _ _ _ (fun k k1 k2 => g18 k (by have := E2 (t * 3 + q) (by omega); omega))]
      exact E4 t q htc hq env
theorem qX10_clear_0 : Dq cX10_clear 0 (.aload_n 0) 1 1 := ⟨by decide +kernel, rfl⟩
theorem qX10_clear_1 : Dq cX10_clear 1 (.iconst 0) 1 2 := ⟨by decide +kernel, rfl⟩
theorem qX10_clear_2 : Dq cX10_clear 2 (.putfield 27) 3 5 := ⟨by decide +kernel, rfl⟩
theorem qX10_clear_5 : Dq cX10_clear 5 (.return_) 1 6 := ⟨by decide +kernel, rfl⟩
set_option maxRecDepth 100000 in
set_option maxHeartbeats 4000000 in
theorem c_tclear {G : Glb} {h : AHp} (hs : ShC h)  : CP G m_X10_clear 1 0 0 [.ref 11] h (fun r h' => r = none ∧ stI h 11 1 0 = h') := by
  suffices key : ∀ P : Option Value → AHp → Prop, (∀ r h', (r = none ∧ stI h 11 1 0 = h') → P r h') → CP G m_X10_clear 1 0 0 [.ref 11] h P from key _ (fun _ _ z => z)
  intro P hP
  refine CP.of (by decide +kernel) (Nat.le_of_ble_eq_true rfl) fun X hX hR hnm => ?_
  show V X G 1 0 0 _ 0 [some (.ref 11)] [] h
  refine v_aload_n hX rfl qX10_clear_0 ?_
  refine v_iconst hX li_0 qX10_clear_1 ?_
  refine v_putI hX p_X10_27 (hs.kd 11 rfl) (Or.inl rfl) qX10_clear_2 ?_
  refine v_return hX qX10_clear_5 (hP _ _ ?_)
  exact ⟨rfl, rfl⟩
theorem qX10_stepAt_0 : Dq cX10_stepAt 0 (.iload_n 1) 1 1 := ⟨by decide +kernel, rfl⟩
theorem qX10_stepAt_1 : Dq cX10_stepAt 1 (.iconst 0) 1 2 := ⟨by decide +kernel, rfl⟩
theorem qX10_stepAt_2 : Dq cX10_stepAt 2 (.sipush 159) 3 5 := ⟨by decide +kernel, rfl⟩
theorem qX10_stepAt_5 : Dq cX10_stepAt 5 (.invokestatic 31) 3 8 := ⟨by decide +kernel, rfl⟩
theorem qX10_stepAt_8 : Dq cX10_stepAt 8 (.ifCond .eq 12) 3 11 := ⟨by decide +kernel, rfl⟩
theorem qX10_stepAt_11 : Dq cX10_stepAt 11 (.aload_n 0) 1 12 := ⟨by decide +kernel, rfl⟩
theorem qX10_stepAt_12 : Dq cX10_stepAt 12 (.getfield 24) 3 15 := ⟨by decide +kernel, rfl⟩
theorem qX10_stepAt_15 : Dq cX10_stepAt 15 (.iload_n 1) 1 16 := ⟨by decide +kernel, rfl⟩
theorem qX10_stepAt_16 : Dq cX10_stepAt 16 (.iaload) 1 17 := ⟨by decide +kernel, rfl⟩
theorem qX10_stepAt_17 : Dq cX10_stepAt 17 (.goto 4) 3 20 := ⟨by decide +kernel, rfl⟩
theorem qX10_stepAt_21 : Dq cX10_stepAt 21 (.ireturn) 1 22 := ⟨by decide +kernel, rfl⟩
set_option maxRecDepth 100000 in
set_option maxHeartbeats 4000000 in
theorem c_stepAt {G : Glb} {h : AHp} (hs : ShC h) {i : Nat} (hi : i < 160) : CP G m_X10_stepAt 2 0 0 [.ref 11, .int (nI i)] h (fun r h' => r = some (.int (hpI h 16 i)) ∧ h = h') := by
  suffices key : ∀ P : Option Value → AHp → Prop, (∀ r h', (r = some (.int (hpI h 16 i)) ∧ h = h') → P r h') → CP G m_X10_stepAt 2 0 0 [.ref 11, .int (nI i)] h P from key _ (fun _ _ z => z)
  intro P hP
  refine CP.of (by decide +kernel) (Nat.le_of_ble_eq_true rfl) fun X hX hR hnm => ?_
  show V X G 2 0 0 _ 0 [some (.ref 11), some (.int (nI i))] [] h
  refine v_iload_n hX rfl qX10_stepAt_0 ?_
  refine v_iconst hX li_0 qX10_stepAt_1 ?_
  refine v_sipush hX ls_159 qX10_stepAt_2 ?_
  refine v_callNq hX hR k_X10_31 (c_isWithin _ _ _) rfl (Nat.le_of_ble_eq_true rfl) rfl (Nat.le_of_ble_eq_true rfl) ⟨Nat.le_of_ble_eq_true rfl, Nat.le_of_ble_eq_true rfl⟩ qX10_stepAt_5 ?_
  rintro _ _ ⟨rfl, rfl⟩
  first | refine v_if_eqB hX 20 qX10_stepAt_8 rfl (fun q8 => ?_) (fun q8 => ?_) | refine v_if_eq hX 20 qX10_stepAt_8 rfl (fun q8 => ?_) (fun q8 => ?_)
  · exact absurd ⟨nI_pos' (by omega), nI_le (a := i) (b := 159) (by omega) (by omega)⟩ q8
  · skip
    refine v_aload_n hX rfl qX10_stepAt_11 ?_
    refine v_getR hX g_X10_24 (hs.kd 11 rfl) (hs.rf 18 rfl) qX10_stepAt_12 ?_
    refine v_iload_n hX rfl qX10_stepAt_15 ?_
    refine v_ialdJ hX (hs.kd 16 rfl) (hs.ln 16 rfl) (by exact ix_n hi rfl) qX10_stepAt_16 ?_
    refine v_goto hX 21 qX10_stepAt_17 rfl ?_
    refine v_ireturn hX qX10_stepAt_21 (hP _ _ ?_)
    exact ⟨rfl, rfl⟩
theorem qX5_addFrom_0 : Dq cX5_addFrom 0 (.aload_n 0) 1 1 := ⟨by decide +kernel, rfl⟩
theorem qX5_addFrom_1 : Dq cX5_addFrom 1 (.getfield 36) 3 4 := ⟨by decide +kernel, rfl⟩
theorem qX5_addFrom_4 : Dq cX5_addFrom 4 (.iconst 3) 1 5 := ⟨by decide +kernel, rfl⟩
theorem qX5_addFrom_5 : Dq cX5_addFrom 5 (.imul) 1 6 := ⟨by decide +kernel, rfl⟩
theorem qX5_addFrom_6 : Dq cX5_addFrom 6 (.istore_n 2) 1 7 := ⟨by decide +kernel, rfl⟩
theorem qX5_addFrom_7 : Dq cX5_addFrom 7 (.aload_n 0) 1 8 := ⟨by decide +kernel, rfl⟩
theorem qX5_addFrom_8 : Dq cX5_addFrom 8 (.invokevirtual 44) 3 11 := ⟨by decide +kernel, rfl⟩
theorem qX5_addFrom_11 : Dq cX5_addFrom 11 (.ifCond .ne 14) 3 14 := ⟨by decide +kernel, rfl⟩
theorem qX5_addFrom_14 : Dq cX5_addFrom 14 (.iload_n 2) 1 15 := ⟨by decide +kernel, rfl⟩
theorem qX5_addFrom_15 : Dq cX5_addFrom 15 (.iconst 3) 1 16 := ⟨by decide +kernel, rfl⟩
theorem qX5_addFrom_16 : Dq cX5_addFrom 16 (.iadd) 1 17 := ⟨by decide +kernel, rfl⟩
theorem qX5_addFrom_17 : Dq cX5_addFrom 17 (.aload_n 0) 1 18 := ⟨by decide +kernel, rfl⟩
theorem qX5_addFrom_18 : Dq cX5_addFrom 18 (.getfield 15) 3 21 := ⟨by decide +kernel, rfl⟩
theorem qX5_addFrom_21 : Dq cX5_addFrom 21 (.arraylength) 1 22 := ⟨by decide +kernel, rfl⟩
theorem qX5_addFrom_22 : Dq cX5_addFrom 22 (.if_icmp .lt 4) 3 25 := ⟨by decide +kernel, rfl⟩
theorem qX5_addFrom_26 : Dq cX5_addFrom 26 (.aload_n 0) 1 27 := ⟨by decide +kernel, rfl⟩
theorem qX5_addFrom_27 : Dq cX5_addFrom 27 (.getfield 15) 3 30 := ⟨by decide +kernel, rfl⟩
theorem qX5_addFrom_30 : Dq cX5_addFrom 30 (.iload_n 2) 1 31 := ⟨by decide +kernel, rfl⟩
theorem qX5_addFrom_31 : Dq cX5_addFrom 31 (.iaload) 1 32 := ⟨by decide +kernel, rfl⟩
theorem qX5_addFrom_32 : Dq cX5_addFrom 32 (.istore_n 3) 1 33 := ⟨by decide +kernel, rfl⟩
theorem qX5_addFrom_33 : Dq cX5_addFrom 33 (.iconst 0) 1 34 := ⟨by decide +kernel, rfl⟩
theorem qX5_addFrom_34 : Dq cX5_addFrom 34 (.istore 4) 2 36 := ⟨by decide +kernel, rfl⟩
theorem qX5_addFrom_36 : Dq cX5_addFrom 36 (.iload 4) 2 38 := ⟨by decide +kernel, rfl⟩
theorem qX5_addFrom_38 : Dq cX5_addFrom 38 (.aload_n 1) 1 39 := ⟨by decide +kernel, rfl⟩
theorem qX5_addFrom_39 : Dq cX5_addFrom 39 (.getfield 48) 3 42 := ⟨by decide +kernel, rfl⟩
theorem qX5_addFrom_42 : Dq cX5_addFrom 42 (.if_icmp .ge 36) 3 45 := ⟨by decide +kernel, rfl⟩
theorem qX5_addFrom_45 : Dq cX5_addFrom 45 (.iload_n 3) 1 46 := ⟨by decide +kernel, rfl⟩
theorem qX5_addFrom_46 : Dq cX5_addFrom 46 (.iload 4) 2 48 := ⟨by decide +kernel, rfl⟩
theorem qX5_addFrom_48 : Dq cX5_addFrom 48 (.iadd) 1 49 := ⟨by decide +kernel, rfl⟩
theorem qX5_addFrom_49 : Dq cX5_addFrom 49 (.aload_n 0) 1 50 := ⟨by decide +kernel, rfl⟩
theorem qX5_addFrom_50 : Dq cX5_addFrom 50 (.getfield 9) 3 53 := ⟨by decide +kernel, rfl⟩
theorem qX5_addFrom_53 : Dq cX5_addFrom 53 (.arraylength) 1 54 := ⟨by decide +kernel, rfl⟩
theorem qX5_addFrom_54 : Dq cX5_addFrom 54 (.if_icmp .ge 24) 3 57 := ⟨by decide +kernel, rfl⟩
theorem qX5_addFrom_57 : Dq cX5_addFrom 57 (.aload_n 0) 1 58 := ⟨by decide +kernel, rfl⟩
theorem qX5_addFrom_58 : Dq cX5_addFrom 58 (.getfield 9) 3 61 := ⟨by decide +kernel, rfl⟩
theorem qX5_addFrom_61 : Dq cX5_addFrom 61 (.iload_n 3) 1 62 := ⟨by decide +kernel, rfl⟩
theorem qX5_addFrom_62 : Dq cX5_addFrom 62 (.iload 4) 2 64 := ⟨by decide +kernel, rfl⟩
theorem qX5_addFrom_64 : Dq cX5_addFrom 64 (.iadd) 1 65 := ⟨by decide +kernel, rfl⟩
theorem qX5_addFrom_65 : Dq cX5_addFrom 65 (.aload_n 1) 1 66 := ⟨by decide +kernel, rfl⟩
theorem qX5_addFrom_66 : Dq cX5_addFrom 66 (.iload 4) 2 68 := ⟨by decide +kernel, rfl⟩
theorem qX5_addFrom_68 : Dq cX5_addFrom 68 (.invokevirtual 53) 3 71 := ⟨by decide +kernel, rfl⟩
theorem qX5_addFrom_71 : Dq cX5_addFrom 71 (.iastore) 1 72 := ⟨by decide +kernel, rfl⟩
theorem qX5_addFrom_72 : Dq cX5_addFrom 72 (.iinc 4 1) 3 75 := ⟨by decide +kernel, rfl⟩
theorem qX5_addFrom_75 : Dq cX5_addFrom 75 (.goto (-39)) 3 78 := ⟨by decide +kernel, rfl⟩
theorem qX5_addFrom_78 : Dq cX5_addFrom 78 (.aload_n 0) 1 79 := ⟨by decide +kernel, rfl⟩
theorem qX5_addFrom_79 : Dq cX5_addFrom 79 (.getfield 15) 3 82 := ⟨by decide +kernel, rfl⟩
theorem qX5_addFrom_82 : Dq cX5_addFrom 82 (.iload_n 2) 1 83 := ⟨by decide +kernel, rfl⟩
theorem qX5_addFrom_83 : Dq cX5_addFrom 83 (.iconst 1) 1 84 := ⟨by decide +kernel, rfl⟩
theorem qX5_addFrom_84 : Dq cX5_addFrom 84 (.iadd) 1 85 := ⟨by decide +kernel, rfl⟩
theorem qX5_addFrom_85 : Dq cX5_addFrom 85 (.iload_n 3) 1 86 := ⟨by decide +kernel, rfl⟩
theorem qX5_addFrom_86 : Dq cX5_addFrom 86 (.aload_n 1) 1 87 := ⟨by decide +kernel, rfl⟩
theorem qX5_addFrom_87 : Dq cX5_addFrom 87 (.getfield 57) 3 90 := ⟨by decide +kernel, rfl⟩
theorem qX5_addFrom_90 : Dq cX5_addFrom 90 (.iadd) 1 91 := ⟨by decide +kernel, rfl⟩
theorem qX5_addFrom_91 : Dq cX5_addFrom 91 (.iastore) 1 92 := ⟨by decide +kernel, rfl⟩
theorem qX5_addFrom_92 : Dq cX5_addFrom 92 (.aload_n 0) 1 93 := ⟨by decide +kernel, rfl⟩
theorem qX5_addFrom_93 : Dq cX5_addFrom 93 (.getfield 15) 3 96 := ⟨by decide +kernel, rfl⟩
theorem qX5_addFrom_96 : Dq cX5_addFrom 96 (.iload_n 2) 1 97 := ⟨by decide +kernel, rfl⟩
theorem qX5_addFrom_97 : Dq cX5_addFrom 97 (.iconst 2) 1 98 := ⟨by decide +kernel, rfl⟩
theorem qX5_addFrom_98 : Dq cX5_addFrom 98 (.iadd) 1 99 := ⟨by decide +kernel, rfl⟩
theorem qX5_addFrom_99 : Dq cX5_addFrom 99 (.iload_n 3) 1 100 := ⟨by decide +kernel, rfl⟩
theorem qX5_addFrom_100 : Dq cX5_addFrom 100 (.aload_n 1) 1 101 := ⟨by decide +kernel, rfl⟩
theorem qX5_addFrom_101 : Dq cX5_addFrom 101 (.getfield 60) 3 104 := ⟨by decide +kernel, rfl⟩
theorem qX5_addFrom_104 : Dq cX5_addFrom 104 (.iadd) 1 105 := ⟨by decide +kernel, rfl⟩
theorem qX5_addFrom_105 : Dq cX5_addFrom 105 (.iastore) 1 106 := ⟨by decide +kernel, rfl⟩
theorem qX5_addFrom_106 : Dq cX5_addFrom 106 (.aload_n 0) 1 107 := ⟨by decide +kernel, rfl⟩
theorem qX5_addFrom_107 : Dq cX5_addFrom 107 (.getfield 15) 3 110 := ⟨by decide +kernel, rfl⟩
theorem qX5_addFrom_110 : Dq cX5_addFrom 110 (.iload_n 2) 1 111 := ⟨by decide +kernel, rfl⟩
theorem qX5_addFrom_111 : Dq cX5_addFrom 111 (.iconst 3) 1 112 := ⟨by decide +kernel, rfl⟩
theorem qX5_addFrom_112 : Dq cX5_addFrom 112 (.iadd) 1 113 := ⟨by decide +kernel, rfl⟩
theorem qX5_addFrom_113 : Dq cX5_addFrom 113 (.iload_n 3) 1 114 := ⟨by decide +kernel, rfl⟩
theorem qX5_addFrom_114 : Dq cX5_addFrom 114 (.aload_n 1) 1 115 := ⟨by decide +kernel, rfl⟩
theorem qX5_addFrom_115 : Dq cX5_addFrom 115 (.getfield 48) 3 118 := ⟨by decide +kernel, rfl⟩
theorem qX5_addFrom_118 : Dq cX5_addFrom 118 (.iadd) 1 119 := ⟨by decide +kernel, rfl⟩
theorem qX5_addFrom_119 : Dq cX5_addFrom 119 (.iastore) 1 120 := ⟨by decide +kernel, rfl⟩
theorem qX5_addFrom_120 : Dq cX5_addFrom 120 (.aload_n 0) 1 121 := ⟨by decide +kernel, rfl⟩
theorem qX5_addFrom_121 : Dq cX5_addFrom 121 (.dup) 1 122 := ⟨by decide +kernel, rfl⟩
theorem qX5_addFrom_122 : Dq cX5_addFrom 122 (.getfield 36) 3 125 := ⟨by decide +kernel, rfl⟩
theorem qX5_addFrom_125 : Dq cX5_addFrom 125 (.iconst 1) 1 126 := ⟨by decide +kernel, rfl⟩
theorem qX5_addFrom_126 : Dq cX5_addFrom 126 (.iadd) 1 127 := ⟨by decide +kernel, rfl⟩
theorem qX5_addFrom_127 : Dq cX5_addFrom 127 (.putfield 36) 3 130 := ⟨by decide +kernel, rfl⟩
theorem qX5_addFrom_130 : Dq cX5_addFrom 130 (.return_) 1 131 := ⟨by decide +kernel, rfl⟩
set_option maxRecDepth 100000 in
set_option maxHeartbeats 4000000 in
theorem c_addFrom {G : Glb} {h : AHp} (hs : ShC h) {cnt b n n1 n2 : Nat} (hz : hpI h 17 2 = nI cnt) (hc6 : cnt < 6) (hb0 : hpI h 19 (cnt * 3) = nI b) (hb8 : b ≤ 800) (h11 : hpI h 11 11 = nI n) (hn : n ≤ 160) (h12 : hpI h 11 12 = nI n1) (h13 : hpI h 11 13 = nI n2) : CP G m_X5_addFrom 3 0 0 [.ref 17, .ref 11] h (fun r h' => r = none ∧ ∃ σ, h' = (σ, h.2) ∧ (∀ a k, ¬ (a = 18 ∨ a = 19 ∨ a = 17 ∧ k = 2) → σ a k = hpI h a k) ∧ σ 17 2 = nI (cnt + 1) ∧ (∀ k, k < b → σ 18 k = hpI h 18 k) ∧ (∀ k, k ≤ cnt * 3 → σ 19 k = hpI h 19 k) ∧ σ 19 (cnt * 3 + 1) = nI (b + n1) ∧ σ 19 (cnt * 3 + 2) = nI (b + n2) ∧ σ 19 (cnt * 3 + 3) = nI (b + n) ∧ ∀ q, q < n → σ 18 (b + q) = hpI h 16 q) := by
  suffices key : ∀ P : Option Value → AHp → Prop, (∀ r h', (r = none ∧ ∃ σ, h' = (σ, h.2) ∧ (∀ a k, ¬ (a = 18 ∨ a = 19 ∨ a = 17 ∧ k = 2) → σ a k = hpI h a k) ∧ σ 17 2 = nI (cnt + 1) ∧ (∀ k, k < b → σ 18 k = hpI h 18 k) ∧ (∀ k, k ≤ cnt * 3 → σ 19 k = hpI h 19 k) ∧ σ 19 (cnt * 3 + 1) = nI (b + n1) ∧ σ 19 (cnt * 3 + 2) = nI (b + n2) ∧ σ 19 (cnt * 3 + 3) = nI (b + n) ∧ ∀ q, q < n → σ 18 (b + q) = hpI h 16 q) → P r h') → CP G m_X5_addFrom 3 0 0 [.ref 17, .ref 11] h P from key _ (fun _ _ z => z)
  intro P hP
  refine CP.of (by decide +kernel) (Nat.le_of_ble_eq_true rfl) fun X hX hR hnm => ?_
  show V X G 5 0 0 _ 0 [some (.ref 17), some (.ref 11), none, none, none] [] h
  refine v_aload_n hX rfl qX5_addFrom_0 ?_
  refine v_getIv hX g_X5_36 (Or.inl rfl) (hs.kd 17 rfl) hz qX5_addFrom_1 ?_
  refine v_iconst hX li_3 qX5_addFrom_4 ?_
  refine v_imul hX qX5_addFrom_5 ?_
  refine v_eqI (show _ = nI (cnt * 3) by rw [show (3 : Int32) = nI 3 from rfl, pk_mul]) ?_
  refine v_istore_n hX (Nat.le_of_ble_eq_true rfl) rfl (ls' := [some _, some _, some _, none, none]) rfl qX5_addFrom_6 ?_
  refine v_aload_n hX rfl qX5_addFrom_7 ?_
  refine v_callVq hX hR k_X5_44 (hs.kd 17 rfl) (c_isFull (by exact hs)) rfl (Nat.le_of_ble_eq_true rfl) rfl (Nat.le_of_ble_eq_true rfl) ⟨Nat.le_of_ble_eq_true rfl, Nat.le_of_ble_eq_true rfl⟩ qX5_addFrom_8 ?_
  rintro _ _ ⟨rfl, rfl⟩
  first | refine v_if_neB hX 25 qX5_addFrom_11 rfl (fun q11 => ?_) (fun q11 => ?_) | refine v_if_ne hX 25 qX5_addFrom_11 rfl (fun q11 => ?_) (fun q11 => ?_)
  · exact absurd q11 (by rw [hz]; exact nI_ge (a := cnt) (b := 6) hc6 (by omega))
  · skip
    refine v_iload_n hX rfl qX5_addFrom_14 ?_
    refine v_iconst hX li_3 qX5_addFrom_15 ?_
    refine v_iadd hX qX5_addFrom_16 ?_
    refine v_eqI (nI_add (cnt * 3) 3) ?_
    refine v_aload_n hX rfl qX5_addFrom_17 ?_
    refine v_getR hX g_X5_15 (hs.kd 17 rfl) (hs.rf 20 rfl) qX5_addFrom_18 ?_
    refine v_alen hX (hs.kd 19 rfl) (hs.ln 19 rfl) qX5_addFrom_21 ?_
    refine v_icmp_ltS hX 26 qX5_addFrom_22 rfl (fun q22 => ?_) (fun q22 => ?_)
    · skip
      refine v_aload_n hX rfl qX5_addFrom_26 ?_
      refine v_getR hX g_X5_15 (hs.kd 17 rfl) (hs.rf 20 rfl) qX5_addFrom_27 ?_
      refine v_iload_n hX rfl qX5_addFrom_30 ?_
      refine v_ialdV hX (hs.kd 19 rfl) (hs.ln 19 rfl) (by exact ix_n (n := cnt * 3) (by omega) rfl) hb0 qX5_addFrom_31 ?_
      refine v_istore_n hX (Nat.le_of_ble_eq_true rfl) rfl (ls' := [some _, some _, some _, some _, none]) rfl qX5_addFrom_32 ?_
      refine v_iconst hX li_0 qX5_addFrom_33 ?_
      refine v_istore hX (Nat.le_of_ble_eq_true rfl) rfl (ls' := [some _, some _, some _, some _, some _]) rfl qX5_addFrom_34 ?_
      have L36 : ∀ (mz : Nat) (i : Nat) (σ : Nat → Nat → Int32), n - i = mz → (i ≤ n) → (∀ a k, ¬ a = 18 → σ a k = hpI h a k) → (∀ k, k < b → σ 18 k = hpI h 18 k) → (∀ q, q < i → σ 18 (b + q) = hpI h 16 q) → V X G 5 0 0 (QM X G P 0 0) 36 [some (.ref 17), some (.ref 11), some (.int (nI (cnt * 3))), some (.int (nI b)), some (.int (nI i))] [] (σ, h.2) := by
        intro mz
        induction mz using Nat.strongRecOn with
        | _ mz ih =>
        intro i σ hmz hi hf hk8 h0
        refine v_iload hX rfl qX5_addFrom_36 ?_
        refine v_aload_n hX rfl qX5_addFrom_38 ?_
        refine v_getIv hX g_X5_48 (Or.inl rfl) (hs.kd 11 rfl) (show _ = nI n from (hf 11 11 (by omega)).trans h11) qX5_addFrom_39 ?_
        refine v_icmp_geS hX 78 qX5_addFrom_42 rfl (fun q42 => ?_) (fun q42 => ?_)
        · have e1 : i = n := Nat.le_antisymm hi (nI_le' (by omega) (by omega) q42)
          refine v_aload_n hX rfl qX5_addFrom_78 ?_
          refine v_getR hX g_X5_15 (hs.kd 17 rfl) (hs.rf 20 rfl) qX5_addFrom_79 ?_
          refine v_iload_n hX rfl qX5_addFrom_82 ?_
          refine v_iconst hX li_1 qX5_addFrom_83 ?_
          refine v_iadd hX qX5_addFrom_84 ?_
          refine v_eqI (nI_add (cnt * 3) 1) ?_
          refine v_iload_n hX rfl qX5_addFrom_85 ?_
          refine v_aload_n hX rfl qX5_addFrom_86 ?_
          refine v_getIv hX g_X5_57 (Or.inl rfl) (hs.kd 11 rfl) (show _ = nI n1 from (hf 11 12 (by omega)).trans h12) qX5_addFrom_87 ?_
          refine v_iadd hX qX5_addFrom_90 ?_
          refine v_eqI (nI_add b n1) ?_
          refine v_iastJ hX (hs.kd 19 rfl) (hs.ln 19 rfl) (by exact ix_n (n := cnt * 3 + 1) (by omega) rfl) qX5_addFrom_91 ?_
          refine v_aload_n hX rfl qX5_addFrom_92 ?_
          refine v_getR hX g_X5_15 (hs.kd 17 rfl) (hs.rf 20 rfl) qX5_addFrom_93 ?_
          refine v_iload_n hX rfl qX5_addFrom_96 ?_
          refine v_iconst hX li_2 qX5_addFrom_97 ?_
          refine v_iadd hX qX5_addFrom_98 ?_
          refine v_eqI (nI_add (cnt * 3) 2) ?_
          refine v_iload_n hX rfl qX5_addFrom_99 ?_
          refine v_aload_n hX rfl qX5_addFrom_100 ?_
          refine v_getIv hX g_X5_60 (Or.inl rfl) (hs.kd 11 rfl) (show _ = nI n2 from (hf 11 13 (by omega)).trans h13) qX5_addFrom_101 ?_
          refine v_iadd hX qX5_addFrom_104 ?_
          refine v_eqI (nI_add b n2) ?_
          refine v_iastJ hX (hs.kd 19 rfl) (hs.ln 19 rfl) (by exact ix_n (n := cnt * 3 + 2) (by omega) rfl) qX5_addFrom_105 ?_
          refine v_aload_n hX rfl qX5_addFrom_106 ?_
          refine v_getR hX g_X5_15 (hs.kd 17 rfl) (hs.rf 20 rfl) qX5_addFrom_107 ?_
          refine v_iload_n hX rfl qX5_addFrom_110 ?_
          refine v_iconst hX li_3 qX5_addFrom_111 ?_
          refine v_iadd hX qX5_addFrom_112 ?_
          refine v_eqI (nI_add (cnt * 3) 3) ?_
          refine v_iload_n hX rfl qX5_addFrom_113 ?_
          refine v_aload_n hX rfl qX5_addFrom_114 ?_
          refine v_getIv hX g_X5_48 (Or.inl rfl) (hs.kd 11 rfl) (show _ = nI n from (hf 11 11 (by omega)).trans h11) qX5_addFrom_115 ?_
          refine v_iadd hX qX5_addFrom_118 ?_
          refine v_eqI (nI_add b n) ?_
          refine v_iastJ hX (hs.kd 19 rfl) (hs.ln 19 rfl) (by exact ix_n (n := cnt * 3 + 3) (by omega) rfl) qX5_addFrom_119 ?_
          refine v_aload_n hX rfl qX5_addFrom_120 ?_
          refine v_dup hX rfl qX5_addFrom_121 ?_
          refine v_getIv hX g_X5_36 (Or.inl rfl) (hs.kd 17 rfl) (show _ = nI cnt from (hf 17 2 (by omega)).trans hz) qX5_addFrom_122 ?_
          refine v_iconst hX li_1 qX5_addFrom_125 ?_
          refine v_iadd hX qX5_addFrom_126 ?_
          refine v_eqI (nI_1 _) ?_
          refine v_putI hX p_X5_36 (hs.kd 17 rfl) (Or.inl rfl) qX5_addFrom_127 ?_
          refine v_return hX qX5_addFrom_130 (hP _ _ ?_)
          have hie : i = n := e1
          refine ⟨rfl, (stI (stI (stI (stI (σ, h.2) 19 (cnt * 3 + 1) (nI (b + n1))) 19 (cnt * 3 + 2) (nI (b + n2))) 19 (cnt * 3 + 3) (nI (b + n))) 17 2 (nI (cnt + 1))).1, rfl, fun a k a1 => ?_, rfl, fun k hk => ?_, fun k hk => ?_, ?_, ?_, ?_, fun q hq => ?_⟩
          · show hpI (stI (stI (stI (stI (σ, h.2) 19 (cnt * 3 + 1) (nI (b + n1))) 19 (cnt * 3 + 2) (nI (b + n2))) 19 (cnt * 3 + 3) (nI (b + n))) 17 2 (nI (cnt + 1))) _ _ = _; rw [hpI_st, if_neg (by omega), hpI_st, if_neg (by omega), hpI_st, if_neg (by omega), hpI_st, if_neg (by omega)]; exact hf a k (by omega)
          · show hpI (stI (stI (stI (stI (σ, h.2) 19 (cnt * 3 + 1) (nI (b + n1))) 19 (cnt * 3 + 2) (nI (b + n2))) 19 (cnt * 3 + 3) (nI (b + n))) 17 2 (nI (cnt + 1))) _ _ = _; rw [hpI_st, if_neg (by omega), hpI_st, if_neg (by omega), hpI_st, if_neg (by omega), hpI_st, if_neg (by omega)]; exact hk8 k hk
          · show hpI (stI (stI (stI (stI (σ, h.2) 19 (cnt * 3 + 1) (nI (b + n1))) 19 (cnt * 3 + 2) (nI (b + n2))) 19 (cnt * 3 + 3) (nI (b + n))) 17 2 (nI (cnt + 1))) _ _ = _; rw [hpI_st, if_neg (by omega), hpI_st, if_neg (by omega), hpI_st, if_neg (by omega), hpI_st, if_neg (by omega)]; exact hf 19 k (by omega)
          · show hpI (stI (stI (stI (stI (σ, h.2) 19 (cnt * 3 + 1) (nI (b + n1))) 19 (cnt * 3 + 2) (nI (b + n2))) 19 (cnt * 3 + 3) (nI (b + n))) 17 2 (nI (cnt + 1))) _ _ = _; rw [hpI_st, if_neg (by omega), hpI_st, if_neg (by omega), hpI_st, if_neg (by omega), hpI_st, if_pos ⟨rfl, rfl⟩]
          · show hpI (stI (stI (stI (stI (σ, h.2) 19 (cnt * 3 + 1) (nI (b + n1))) 19 (cnt * 3 + 2) (nI (b + n2))) 19 (cnt * 3 + 3) (nI (b + n))) 17 2 (nI (cnt + 1))) _ _ = _; rw [hpI_st, if_neg (by omega), hpI_st, if_neg (by omega), hpI_st, if_pos ⟨rfl, rfl⟩]
          · show hpI (stI (stI (stI (stI (σ, h.2) 19 (cnt * 3 + 1) (nI (b + n1))) 19 (cnt * 3 + 2) (nI (b + n2))) 19 (cnt * 3 + 3) (nI (b + n))) 17 2 (nI (cnt + 1))) _ _ = _; rw [hpI_st, if_neg (by omega), hpI_st, if_pos ⟨rfl, rfl⟩]
          · show hpI (stI (stI (stI (stI (σ, h.2) 19 (cnt * 3 + 1) (nI (b + n1))) 19 (cnt * 3 + 2) (nI (b + n2))) 19 (cnt * 3 + 3) (nI (b + n))) 17 2 (nI (cnt + 1))) _ _ = _; rw [hpI_st, if_neg (by omega), hpI_st, if_neg (by omega), hpI_st, if_neg (by omega), hpI_st, if_neg (by omega)]; exact h0 q (by omega)
        · have hl := nI_lt' (by omega) (by omega) q42
          refine v_iload_n hX rfl qX5_addFrom_45 ?_
          refine v_iload hX rfl qX5_addFrom_46 ?_
          refine v_iadd hX qX5_addFrom_48 ?_
          refine v_eqI (nI_add b i) ?_
          refine v_aload_n hX rfl qX5_addFrom_49 ?_
          refine v_getR hX g_X5_9 (hs.kd 17 rfl) (hs.rf 19 rfl) qX5_addFrom_50 ?_
          refine v_alen hX (hs.kd 18 rfl) (hs.ln 18 rfl) qX5_addFrom_53 ?_
          refine v_icmp_geS hX 78 qX5_addFrom_54 rfl (fun q54 => ?_) (fun q54 => ?_)
          · exact absurd q54 (nI_ge (a := b + i) (b := 960) (by omega) (by omega))
          · skip
            refine v_aload_n hX rfl qX5_addFrom_57 ?_
            refine v_getR hX g_X5_9 (hs.kd 17 rfl) (hs.rf 19 rfl) qX5_addFrom_58 ?_
            refine v_iload_n hX rfl qX5_addFrom_61 ?_
            refine v_iload hX rfl qX5_addFrom_62 ?_
            refine v_iadd hX qX5_addFrom_64 ?_
            refine v_eqI (nI_add b i) ?_
            refine v_aload_n hX rfl qX5_addFrom_65 ?_
            refine v_iload hX rfl qX5_addFrom_66 ?_
            refine v_callVq hX hR k_X5_53 (hs.kd 11 rfl) (c_stepAt (h := (σ, h.2)) (by exact hs) (i := i) (by omega)) rfl (Nat.le_of_ble_eq_true rfl) rfl (Nat.le_of_ble_eq_true rfl) ⟨Nat.le_of_ble_eq_true rfl, Nat.le_of_ble_eq_true rfl⟩ qX5_addFrom_68 ?_
            rintro _ _ ⟨rfl, rfl⟩
            refine v_eqI (show _ = hpI h 16 i from hf 16 i (by omega)) ?_
            refine v_iastJ hX (hs.kd 18 rfl) (hs.ln 18 rfl) (by exact ix_n (n := b + i) (by omega) rfl) qX5_addFrom_71 ?_
            refine v_iinc hX rfl (by first | exact ii_nI _ | exact ii_1 _) (Nat.le_of_ble_eq_true rfl) rfl (ls' := [some _, some _, some _, some _, some _]) rfl qX5_addFrom_72 ?_
            refine v_goto hX 36 qX5_addFrom_75 rfl ?_
            exact ih _ (by omega) (i + 1) (stI (σ, h.2) 18 (b + i) (hpI h 16 i)).1 rfl (by omega) (fun a k a1 => by show hpI (stI _ _ _ _) _ _ = _; rw [hpI_st, if_neg (fun z => a1 z.1)]; exact hf a k a1) (fun k hk => by show hpI (stI _ _ _ _) _ _ = _; rw [hpI_st, if_neg (by omega)]; exact hk8 k hk) (fun q hq => by
              show hpI (stI _ _ _ _) _ _ = _
              rw [hpI_st]
              by_cases e : q = i
              · rw [if_pos ⟨rfl, by omega⟩, e]
              · rw [if_neg (by omega)]; exact h0 q (by omega))
      exact L36 _ 0 h.1 rfl (by omega) (fun _ _ _ => rfl) (fun _ _ => rfl) (fun q hq => absurd hq (by omega))
    · exact absurd (nI_lt (a := cnt * 3 + 3) (b := 19) (by omega) (by omega)) (Int32.not_lt.mpr q22)
