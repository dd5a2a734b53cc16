/-! the reference: plan, planned, giveUp, foundBy, under, drowned -/
theorem fc_f {p : Nat → Bool} : ∀ n i k, i ≤ k → k < fc p n i → p k = false := by
  intro n
  induction n with
  | zero => intro i k h1 h2; have h2 : k < i := h2; omega
  | succ n ih =>
    intro i k h1 h2
    unfold fc at h2
    by_cases e : p i = true
    · rw [if_pos e] at h2; omega
    · rw [if_neg e] at h2
      by_cases ek : k = i
      · subst ek; exact Bool.eq_false_iff.mpr e
      · exact ih (i + 1) k (by omega) h2
theorem ce_in {E : Sst} (hm : sM E ≤ 6) {n i : Nat} (hi : i < szE E n) : ∃ w, w < 48 ∧ ceE E i = nI w := by
  have h := fc_f n 0 i (Nat.zero_le _) hi
  have h2 : ¬ (pCh (sT E) (sM E) (sK E) (sN E) (sB E) i).1 = -1 := of_decide_eq_false h
  obtain ⟨l, w, hl, hw, e, -⟩ := ch_some (TV := sT E) (b := pbE E i) hm h2
  refine ⟨w, hw, ?_⟩
  show (chB (sT E) (sM E) (sK E) (sN E) (pbE E i)).2.1 = _
  rw [e]
theorem szE_le (E : Sst) (n : Nat) : szE E n ≤ n := by
  have h : szE E n ≤ 0 + n := fc_le n 0
  omega
theorem anyB_0 {p : Nat → Bool} : ∀ n, (∀ k, k < n → p k = false) → anyB p n = false := by
  intro n
  induction n with
  | zero => intro _; rfl
  | succ n ih => intro h; unfold anyB; rw [ih (fun k hk => h k (by omega)), h n (by omega)]; rfl
theorem duS_in {TV : TVt} {b : Bch} {c : Nat} (hb : BeOK b c) (hr : Int32) : ∀ n, n ≤ 48 → ∃ s, s ≤ n * 999999 ∧ duS TV b hr n = nI s := by
  intro n
  induction n with
  | zero => intro _; exact ⟨0, Nat.zero_le _, rfl⟩
  | succ n ih =>
    intro hn
    obtain ⟨s, hs, e⟩ := ih (by omega)
    obtain ⟨j, hj, ej⟩ := (hb.1 n (by omega)).ex (by omega)
    unfold duS
    split
    · exact ⟨s + j, by rw [Nat.succ_mul]; omega, by rw [e, ej, nI_add]⟩
    · exact ⟨s, Nat.le_trans hs (Nat.mul_le_mul_right _ (Nat.le_succ n)), e⟩
theorem du_wet {TV : TVt} {b : Bch} {c : Nat} (hb : BeOK b c) {hr : Int32} {n : Nat} (hn : n < 48) (hs : ¬ wetB TV b n hr = 0) : duS TV b hr n + b 1 n = duS TV b hr (n + 1) := by
  show _ = if 0 < b 1 n ∧ ¬ wetB TV b n hr = 0 then duS TV b hr n + b 1 n else duS TV b hr n
  by_cases h : 0 < b 1 n
  · rw [if_pos ⟨h, hs⟩]
  · rw [if_neg (fun z => h z.1)]
    obtain ⟨j, hj, ej⟩ := (hb.1 n hn).ex (by omega)
    rw [ej] at h ⊢
    have : j = 0 := Nat.eq_zero_of_not_pos (fun z => h (nI_lt (a := 0) z (by omega)))
    rw [this]
    exact Int32.add_zero _
theorem du_dry {TV : TVt} {b : Bch} {hr : Int32} {n : Nat} (hs : wetB TV b n hr = 0) : duS TV b hr n + 0 = duS TV b hr (n + 1) := by
  show _ = if 0 < b 1 n ∧ ¬ wetB TV b n hr = 0 then duS TV b hr n + b 1 n else duS TV b hr n
  rw [if_neg (fun z => z.2 hs)]
  exact Int32.add_zero _
theorem du_up (TV : TVt) (b : Bch) (v w : Int32) : ∀ n, duS TV (up2 b 0 3 v) w n = duS TV b w n := by
  intro n
  have hr : rlB (up2 b 0 3 v) = rlB b := by unfold rlB; rw [up2_ne (by omega)]
  induction n with
  | zero => rfl
  | succ n ih =>
    unfold duS
    rw [ih, up2_ne (by omega), show wetB TV (up2 b 0 3 v) n w = wetB TV b n w by unfold wetB; rw [hr, up2_ne (by omega)]]
def mdX (f : Nat → Int32) (h0 : Nat) : Nat → Int32 × Int32
  | 0 => (nI h0, -1)
  | j + 1 => mdS f h0 j
theorem mdX_s {f : Nat → Int32} {h0 : Nat} (h1 : -1 < f h0) (j : Nat) : mdX f h0 (j + 1) = if (mdX f h0 j).2 < f (h0 + j) then (nI (h0 + j), f (h0 + j)) else mdX f h0 j := by
  cases j with
  | zero => show (nI h0, f h0) = if (-1 : Int32) < f h0 then (nI h0, f h0) else (nI h0, -1); rw [if_pos h1]
  | succ j => rfl
theorem nI_gt1 {n : Nat} (h : n < 2 ^ 31) : (-1 : Int32) < nI n := by
  rw [ltI, nI_toInt h]
  have : (-1 : Int32).toInt = -1 := rfl
  omega
theorem qX12_plan_0 : Dq cX12_plan 0 (.iload_n 1) 1 1 := ⟨by decide +kernel, rfl⟩
theorem qX12_plan_1 : Dq cX12_plan 1 (.i2l) 1 2 := ⟨by decide +kernel, rfl⟩
theorem qX12_plan_2 : Dq cX12_plan 2 (.lconst 0) 1 3 := ⟨by decide +kernel, rfl⟩
theorem qX12_plan_3 : Dq cX12_plan 3 (.ldc2_w 312) 3 6 := ⟨by decide +kernel, rfl⟩
theorem qX12_plan_6 : Dq cX12_plan 6 (.invokestatic 87) 3 9 := ⟨by decide +kernel, rfl⟩
theorem qX12_plan_9 : Dq cX12_plan 9 (.ifCond .eq 15) 3 12 := ⟨by decide +kernel, rfl⟩
theorem qX12_plan_12 : Dq cX12_plan 12 (.iload_n 2) 1 13 := ⟨by decide +kernel, rfl⟩
theorem qX12_plan_13 : Dq cX12_plan 13 (.i2l) 1 14 := ⟨by decide +kernel, rfl⟩
theorem qX12_plan_14 : Dq cX12_plan 14 (.lconst 0) 1 15 := ⟨by decide +kernel, rfl⟩
theorem qX12_plan_15 : Dq cX12_plan 15 (.ldc2_w 289) 3 18 := ⟨by decide +kernel, rfl⟩
theorem qX12_plan_18 : Dq cX12_plan 18 (.invokestatic 87) 3 21 := ⟨by decide +kernel, rfl⟩
theorem qX12_plan_21 : Dq cX12_plan 21 (.ifCond .ne 6) 3 24 := ⟨by decide +kernel, rfl⟩
theorem qX12_plan_24 : Dq cX12_plan 24 (.bipush (-2)) 2 26 := ⟨by decide +kernel, rfl⟩
theorem qX12_plan_26 : Dq cX12_plan 26 (.ireturn) 1 27 := ⟨by decide +kernel, rfl⟩
theorem qX12_plan_27 : Dq cX12_plan 27 (.aload_n 0) 1 28 := ⟨by decide +kernel, rfl⟩
theorem qX12_plan_28 : Dq cX12_plan 28 (.iload_n 1) 1 29 := ⟨by decide +kernel, rfl⟩
theorem qX12_plan_29 : Dq cX12_plan 29 (.invokevirtual 314) 3 32 := ⟨by decide +kernel, rfl⟩
theorem qX12_plan_32 : Dq cX12_plan 32 (.iload_n 2) 1 33 := ⟨by decide +kernel, rfl⟩
theorem qX12_plan_33 : Dq cX12_plan 33 (.ifCond .le 20) 3 36 := ⟨by decide +kernel, rfl⟩
theorem qX12_plan_36 : Dq cX12_plan 36 (.iload_n 2) 1 37 := ⟨by decide +kernel, rfl⟩
theorem qX12_plan_37 : Dq cX12_plan 37 (.iconst 1) 1 38 := ⟨by decide +kernel, rfl⟩
theorem qX12_plan_38 : Dq cX12_plan 38 (.if_icmp .ne 10) 3 41 := ⟨by decide +kernel, rfl⟩
theorem qX12_plan_41 : Dq cX12_plan 41 (.aload_n 0) 1 42 := ⟨by decide +kernel, rfl⟩
theorem qX12_plan_42 : Dq cX12_plan 42 (.getfield 303) 3 45 := ⟨by decide +kernel, rfl⟩
theorem qX12_plan_45 : Dq cX12_plan 45 (.goto 7) 3 48 := ⟨by decide +kernel, rfl⟩
theorem qX12_plan_48 : Dq cX12_plan 48 (.aload_n 0) 1 49 := ⟨by decide +kernel, rfl⟩
theorem qX12_plan_49 : Dq cX12_plan 49 (.getfield 306) 3 52 := ⟨by decide +kernel, rfl⟩
theorem qX12_plan_52 : Dq cX12_plan 52 (.ireturn) 1 53 := ⟨by decide +kernel, rfl⟩
theorem qX12_plan_53 : Dq cX12_plan 53 (.iconst 0) 1 54 := ⟨by decide +kernel, rfl⟩
theorem qX12_plan_54 : Dq cX12_plan 54 (.istore_n 3) 1 55 := ⟨by decide +kernel, rfl⟩
theorem qX12_plan_55 : Dq cX12_plan 55 (.iconst 0) 1 56 := ⟨by decide +kernel, rfl⟩
theorem qX12_plan_56 : Dq cX12_plan 56 (.istore 4) 2 58 := ⟨by decide +kernel, rfl⟩
theorem qX12_plan_58 : Dq cX12_plan 58 (.iload 4) 2 60 := ⟨by decide +kernel, rfl⟩
theorem qX12_plan_60 : Dq cX12_plan 60 (.aload_n 0) 1 61 := ⟨by decide +kernel, rfl⟩
theorem qX12_plan_61 : Dq cX12_plan 61 (.getfield 303) 3 64 := ⟨by decide +kernel, rfl⟩
theorem qX12_plan_64 : Dq cX12_plan 64 (.if_icmp .ge 19) 3 67 := ⟨by decide +kernel, rfl⟩
theorem qX12_plan_67 : Dq cX12_plan 67 (.iload_n 3) 1 68 := ⟨by decide +kernel, rfl⟩
theorem qX12_plan_68 : Dq cX12_plan 68 (.aload_n 0) 1 69 := ⟨by decide +kernel, rfl⟩
theorem qX12_plan_69 : Dq cX12_plan 69 (.getfield 53) 3 72 := ⟨by decide +kernel, rfl⟩
theorem qX12_plan_72 : Dq cX12_plan 72 (.iload 4) 2 74 := ⟨by decide +kernel, rfl⟩
theorem qX12_plan_74 : Dq cX12_plan 74 (.iaload) 1 75 := ⟨by decide +kernel, rfl⟩
theorem qX12_plan_75 : Dq cX12_plan 75 (.iadd) 1 76 := ⟨by decide +kernel, rfl⟩
theorem qX12_plan_76 : Dq cX12_plan 76 (.istore_n 3) 1 77 := ⟨by decide +kernel, rfl⟩
theorem qX12_plan_77 : Dq cX12_plan 77 (.iinc 4 1) 3 80 := ⟨by decide +kernel, rfl⟩
theorem qX12_plan_80 : Dq cX12_plan 80 (.goto (-22)) 3 83 := ⟨by decide +kernel, rfl⟩
theorem qX12_plan_83 : Dq cX12_plan 83 (.iload_n 3) 1 84 := ⟨by decide +kernel, rfl⟩
theorem qX12_plan_84 : Dq cX12_plan 84 (.ireturn) 1 85 := ⟨by decide +kernel, rfl⟩
set_option maxRecDepth 100000 in
set_option maxHeartbeats 4000000 in
theorem m_plan {G : Glb} {h : AHp} {E : Sst} (hc : MW h E) (nn w : Int32) : CP G m_X12_plan 67 0 0 [.ref 38, .int nn, .int w] h (fun r h' => r = some (.int (planI E nn w)) ∧ ∃ σ J, h' = mkH h σ J ∧ MW (mkH h σ J) E ∧ K58 h σ) := by
  suffices key : ∀ P : Option Value → AHp → Prop, (∀ r h', (r = some (.int (planI E nn w)) ∧ ∃ σ J, h' = mkH h σ J ∧ MW (mkH h σ J) E ∧ K58 h σ) → P r h') → CP G m_X12_plan 67 0 0 [.ref 38, .int nn, .int w] h P from key _ (fun _ _ z => z)
  intro P hP
  obtain ⟨hm, htx, hp, hb, hkp, htp, hst, hok⟩ := id hc
  have hc6 := hok.1
  have hm6 := hok.2.1
  have hkd : ∀ i, i < sM E → sK E i < 6 := fun i hi => (hok.2.2.1 i hi).1
  have hnu : ∀ i, i < sM E → inR (sN E i) 9 := fun i hi => (hok.2.2.1 i hi).2
  have hbe : BeOK (bm h) (sC E) := by rw [hb]; exact hok.2.2.2.1
  refine CP.of (by decide +kernel) (Nat.le_of_ble_eq_true rfl) fun X hX hR hnm => ?_
  show V X G 5 0 0 _ 0 [some (.ref 38), some (.int nn), some (.int w), none, none] [] h
  refine v_iload_n hX rfl qX12_plan_0 ?_
  refine v_i2l hX qX12_plan_1 ?_
  refine v_lconst hX ll_0 qX12_plan_2 ?_
  refine v_ldc2 hX c_X12_312 qX12_plan_3 ?_
  refine v_callSq hX hR k_X12_87 (m_in _ (by exact (0)) (by exact (20))) rfl (Nat.le_of_ble_eq_true rfl) rfl (Nat.le_of_ble_eq_true rfl) ⟨Nat.le_of_ble_eq_true rfl, Nat.le_of_ble_eq_true rfl⟩ qX12_plan_6 ?_
  rintro _ _ ⟨rfl, rfl⟩
  first | refine v_if_eqB hX 24 qX12_plan_9 rfl (fun q9 => ?_) (fun q9 => ?_) | refine v_if_eq hX 24 qX12_plan_9 rfl (fun q9 => ?_) (fun q9 => ?_)
  · skip
    refine v_bipush hX lb_n2 qX12_plan_24 ?_
    refine v_ireturn hX qX12_plan_26 (hP _ _ ?_)
    first | (rw [planI, if_neg (fun z => q9 z.1)]; exact ⟨rfl, h.1, h.2.2.1, rfl, hc, fun a _ => rfl⟩) | (rw [planI, if_neg (fun z => q21 z.2)]; exact ⟨rfl, h.1, h.2.2.1, rfl, hc, fun a _ => rfl⟩)
  · skip
    refine v_iload_n hX rfl qX12_plan_12 ?_
    refine v_i2l hX qX12_plan_13 ?_
    refine v_lconst hX ll_0 qX12_plan_14 ?_
    refine v_ldc2 hX c_X12_289 qX12_plan_15 ?_
    refine v_callSq hX hR k_X12_87 (m_in _ (by exact (0)) (by exact (2))) rfl (Nat.le_of_ble_eq_true rfl) rfl (Nat.le_of_ble_eq_true rfl) ⟨Nat.le_of_ble_eq_true rfl, Nat.le_of_ble_eq_true rfl⟩ qX12_plan_18 ?_
    rintro _ _ ⟨rfl, rfl⟩
    first | refine v_if_neB hX 27 qX12_plan_21 rfl (fun q21 => ?_) (fun q21 => ?_) | refine v_if_ne hX 27 qX12_plan_21 rfl (fun q21 => ?_) (fun q21 => ?_)
    · skip
      obtain ⟨n, hn, rfl⟩ := rng_ex 20 (by omega) q9
      have hsz := szE_le E n
      refine v_aload_n hX rfl qX12_plan_27 ?_
      refine v_iload_n hX rfl qX12_plan_28 ?_
      refine v_callVq hX hR k_X12_314 (hm.kd 38 rfl) (m_plans (by exact hc) (n := n) (by omega)) rfl (Nat.le_of_ble_eq_true rfl) rfl (Nat.le_of_ble_eq_true rfl) ⟨Nat.le_of_ble_eq_true rfl, Nat.le_of_ble_eq_true rfl⟩ qX12_plan_29 ?_
      rintro _ _ ⟨rfl, σ, J, rfl, hm2, hf, p1, p2, p3⟩
      refine v_iload_n hX rfl qX12_plan_32 ?_
      refine v_if_leS hX 53 qX12_plan_33 rfl (fun q33 => ?_) (fun q33 => ?_)
      · skip
        refine v_iconst hX li_0 qX12_plan_53 ?_
        refine v_istore_n hX (Nat.le_of_ble_eq_true rfl) rfl (ls' := [some _, some _, some _, some _, none]) rfl qX12_plan_54 ?_
        refine v_iconst hX li_0 qX12_plan_55 ?_
        refine v_istore hX (Nat.le_of_ble_eq_true rfl) rfl (ls' := [some _, some _, some _, some _, some _]) rfl qX12_plan_56 ?_
        have L58 : ∀ (mz : Nat) (i : Nat), szE E n - i = mz → (i ≤ szE E n) → V X G 5 0 0 (QM X G P 0 0) 58 [some (.ref 38), some (.int (nI n)), some (.int w), some (.int (sumN (gaE E) i)), some (.int (nI i))] [] (mkH h σ J) := by
          intro mz
          induction mz using Nat.strongRecOn with
          | _ mz ih =>
          intro i hmz hi
          refine v_iload hX rfl qX12_plan_58 ?_
          refine v_aload_n hX rfl qX12_plan_60 ?_
          refine v_getIv hX g_X12_303 (Or.inl rfl) (hm.kd 38 rfl) p1 qX12_plan_61 ?_
          refine v_icmp_geS hX 83 qX12_plan_64 rfl (fun q64 => ?_) (fun q64 => ?_)
          · have e1 : i = szE E n := Nat.le_antisymm hi (nI_le' (by omega) (by omega) q64)
            refine v_iload_n hX rfl qX12_plan_83 ?_
            refine v_ireturn hX qX12_plan_84 (hP _ _ ?_)
            have w0 : w = 0 := Int32.le_antisymm q33 q21.1
            rw [planI, if_pos (show (0 ≤ nI n ∧ nI n ≤ 20) ∧ (0 ≤ w ∧ w ≤ 2) from ⟨q9, q21⟩), tn_nI (show n < 2000000 by omega), if_pos w0, ← e1]
            exact ⟨rfl, σ, J, rfl, hm2, hf.n.k⟩
          · have hl := nI_lt' (by omega) (by omega) q64
            refine v_iload_n hX rfl qX12_plan_67 ?_
            refine v_aload_n hX rfl qX12_plan_68 ?_
            refine v_getR hX g_X12_53 (hm.kd 38 rfl) (hm.rf 12 rfl) qX12_plan_69 ?_
            refine v_iload hX rfl qX12_plan_72 ?_
            refine v_ialdV hX (hm.kd 51 rfl) (hm.ln 51 rfl) (by exact ix_n (n := i) (by omega) rfl) (p3 i hl).2 qX12_plan_74 ?_
            refine v_iadd hX qX12_plan_75 ?_
            refine v_istore_n hX (Nat.le_of_ble_eq_true rfl) rfl (ls' := [some _, some _, some _, some _, some _]) rfl qX12_plan_76 ?_
            refine v_iinc hX rfl (by first | exact ii_nI _ | exact ii_1 _) (Nat.le_of_ble_eq_true rfl) rfl (ls' := [some _, some _, some _, some _, some _]) rfl qX12_plan_77 ?_
            refine v_goto hX 58 qX12_plan_80 rfl ?_
            exact ih _ (by omega) (i + 1) rfl (by omega)
        exact L58 _ 0 rfl (by omega)
      · skip
        refine v_iload_n hX rfl qX12_plan_36 ?_
        refine v_iconst hX li_1 qX12_plan_37 ?_
        refine v_icmp_ne hX 48 qX12_plan_38 rfl (fun q38 => ?_) (fun q38 => ?_)
        · skip
          refine v_aload_n hX rfl qX12_plan_48 ?_
          refine v_getIv hX g_X12_306 (Or.inl rfl) (hm.kd 38 rfl) p2 qX12_plan_49 ?_
          refine v_ireturn hX qX12_plan_52 (hP _ _ ?_)
          have w0 : ¬ w = 0 := fun z => by rw [z] at q33; exact absurd q33 (by decide)
          first | (rw [planI, if_pos (show (0 ≤ nI n ∧ nI n ≤ 20) ∧ (0 ≤ w ∧ w ≤ 2) from ⟨q9, q21⟩), tn_nI (show n < 2000000 by omega), if_neg w0, if_pos q38]; exact ⟨rfl, σ, J, rfl, hm2, hf.n.k⟩) | (rw [planI, if_pos (show (0 ≤ nI n ∧ nI n ≤ 20) ∧ (0 ≤ w ∧ w ≤ 2) from ⟨q9, q21⟩), tn_nI (show n < 2000000 by omega), if_neg w0, if_neg q38]; exact ⟨rfl, σ, J, rfl, hm2, hf.n.k⟩)
        · skip
          refine v_aload_n hX rfl qX12_plan_41 ?_
          refine v_getIv hX g_X12_303 (Or.inl rfl) (hm.kd 38 rfl) p1 qX12_plan_42 ?_
          refine v_goto hX 52 qX12_plan_45 rfl ?_
          refine v_ireturn hX qX12_plan_52 (hP _ _ ?_)
          have w0 : ¬ w = 0 := fun z => by rw [z] at q33; exact absurd q33 (by decide)
          first | (rw [planI, if_pos (show (0 ≤ nI n ∧ nI n ≤ 20) ∧ (0 ≤ w ∧ w ≤ 2) from ⟨q9, q21⟩), tn_nI (show n < 2000000 by omega), if_neg w0, if_pos q38]; exact ⟨rfl, σ, J, rfl, hm2, hf.n.k⟩) | (rw [planI, if_pos (show (0 ≤ nI n ∧ nI n ≤ 20) ∧ (0 ≤ w ∧ w ≤ 2) from ⟨q9, q21⟩), tn_nI (show n < 2000000 by omega), if_neg w0, if_neg q38]; exact ⟨rfl, σ, J, rfl, hm2, hf.n.k⟩)
    · skip
      refine v_bipush hX lb_n2 qX12_plan_24 ?_
      refine v_ireturn hX qX12_plan_26 (hP _ _ ?_)
      first | (rw [planI, if_neg (fun z => q9 z.1)]; exact ⟨rfl, h.1, h.2.2.1, rfl, hc, fun a _ => rfl⟩) | (rw [planI, if_neg (fun z => q21 z.2)]; exact ⟨rfl, h.1, h.2.2.1, rfl, hc, fun a _ => rfl⟩)
theorem qX12_planned_0 : Dq cX12_planned 0 (.iload_n 1) 1 1 := ⟨by decide +kernel, rfl⟩
theorem qX12_planned_1 : Dq cX12_planned 1 (.i2l) 1 2 := ⟨by decide +kernel, rfl⟩
theorem qX12_planned_2 : Dq cX12_planned 2 (.lconst 0) 1 3 := ⟨by decide +kernel, rfl⟩
theorem qX12_planned_3 : Dq cX12_planned 3 (.ldc2_w 318) 3 6 := ⟨by decide +kernel, rfl⟩
theorem qX12_planned_6 : Dq cX12_planned 6 (.invokestatic 87) 3 9 := ⟨by decide +kernel, rfl⟩
theorem qX12_planned_9 : Dq cX12_planned 9 (.ifCond .ne 6) 3 12 := ⟨by decide +kernel, rfl⟩
theorem qX12_planned_12 : Dq cX12_planned 12 (.bipush (-2)) 2 14 := ⟨by decide +kernel, rfl⟩
theorem qX12_planned_14 : Dq cX12_planned 14 (.ireturn) 1 15 := ⟨by decide +kernel, rfl⟩
theorem qX12_planned_15 : Dq cX12_planned 15 (.aload_n 0) 1 16 := ⟨by decide +kernel, rfl⟩
theorem qX12_planned_16 : Dq cX12_planned 16 (.bipush 20) 2 18 := ⟨by decide +kernel, rfl⟩
theorem qX12_planned_18 : Dq cX12_planned 18 (.invokevirtual 314) 3 21 := ⟨by decide +kernel, rfl⟩
theorem qX12_planned_21 : Dq cX12_planned 21 (.iload_n 1) 1 22 := ⟨by decide +kernel, rfl⟩
theorem qX12_planned_22 : Dq cX12_planned 22 (.aload_n 0) 1 23 := ⟨by decide +kernel, rfl⟩
theorem qX12_planned_23 : Dq cX12_planned 23 (.getfield 303) 3 26 := ⟨by decide +kernel, rfl⟩
theorem qX12_planned_26 : Dq cX12_planned 26 (.if_icmp .ge 12) 3 29 := ⟨by decide +kernel, rfl⟩
theorem qX12_planned_29 : Dq cX12_planned 29 (.aload_n 0) 1 30 := ⟨by decide +kernel, rfl⟩
theorem qX12_planned_30 : Dq cX12_planned 30 (.getfield 50) 3 33 := ⟨by decide +kernel, rfl⟩
theorem qX12_planned_33 : Dq cX12_planned 33 (.iload_n 1) 1 34 := ⟨by decide +kernel, rfl⟩
theorem qX12_planned_34 : Dq cX12_planned 34 (.iaload) 1 35 := ⟨by decide +kernel, rfl⟩
theorem qX12_planned_35 : Dq cX12_planned 35 (.goto 4) 3 38 := ⟨by decide +kernel, rfl⟩
theorem qX12_planned_38 : Dq cX12_planned 38 (.iconst (-1)) 1 39 := ⟨by decide +kernel, rfl⟩
theorem qX12_planned_39 : Dq cX12_planned 39 (.ireturn) 1 40 := ⟨by decide +kernel, rfl⟩
set_option maxRecDepth 100000 in
set_option maxHeartbeats 4000000 in
theorem m_planned {G : Glb} {h : AHp} {E : Sst} (hc : MW h E) (i : Int32) : CP G m_X12_planned 67 0 0 [.ref 38, .int i] h (fun r h' => r = some (.int (plannedI E i)) ∧ ∃ σ J, h' = mkH h σ J ∧ MW (mkH h σ J) E ∧ K58 h σ) := by
  suffices key : ∀ P : Option Value → AHp → Prop, (∀ r h', (r = some (.int (plannedI E i)) ∧ ∃ σ J, h' = mkH h σ J ∧ MW (mkH h σ J) E ∧ K58 h σ) → P r h') → CP G m_X12_planned 67 0 0 [.ref 38, .int i] h P from key _ (fun _ _ z => z)
  intro P hP
  obtain ⟨hm, htx, hp, hb, hkp, htp, hst, hok⟩ := id hc
  have hc6 := hok.1
  have hm6 := hok.2.1
  have hkd : ∀ i, i < sM E → sK E i < 6 := fun i hi => (hok.2.2.1 i hi).1
  have hnu : ∀ i, i < sM E → inR (sN E i) 9 := fun i hi => (hok.2.2.1 i hi).2
  have hbe : BeOK (bm h) (sC E) := by rw [hb]; exact hok.2.2.2.1
  have hsz := szE_le E 20
  refine CP.of (by decide +kernel) (Nat.le_of_ble_eq_true rfl) fun X hX hR hnm => ?_
  show V X G 2 0 0 _ 0 [some (.ref 38), some (.int i)] [] h
  refine v_iload_n hX rfl qX12_planned_0 ?_
  refine v_i2l hX qX12_planned_1 ?_
  refine v_lconst hX ll_0 qX12_planned_2 ?_
  refine v_ldc2 hX c_X12_318 qX12_planned_3 ?_
  refine v_callSq hX hR k_X12_87 (m_in _ (by exact (0)) (by exact (19))) rfl (Nat.le_of_ble_eq_true rfl) rfl (Nat.le_of_ble_eq_true rfl) ⟨Nat.le_of_ble_eq_true rfl, Nat.le_of_ble_eq_true rfl⟩ qX12_planned_6 ?_
  rintro _ _ ⟨rfl, rfl⟩
  first | refine v_if_neB hX 15 qX12_planned_9 rfl (fun q9 => ?_) (fun q9 => ?_) | refine v_if_ne hX 15 qX12_planned_9 rfl (fun q9 => ?_) (fun q9 => ?_)
  · skip
    refine v_aload_n hX rfl qX12_planned_15 ?_
    refine v_bipush hX lb_20 qX12_planned_16 ?_
    refine v_callVq hX hR k_X12_314 (hm.kd 38 rfl) (m_plans (by exact hc) (n := 20) (by omega)) rfl (Nat.le_of_ble_eq_true rfl) rfl (Nat.le_of_ble_eq_true rfl) ⟨Nat.le_of_ble_eq_true rfl, Nat.le_of_ble_eq_true rfl⟩ qX12_planned_18 ?_
    rintro _ _ ⟨rfl, σ, J, rfl, hm2, hf, p1, p2, p3⟩
    refine v_iload_n hX rfl qX12_planned_21 ?_
    refine v_aload_n hX rfl qX12_planned_22 ?_
    refine v_getIv hX g_X12_303 (Or.inl rfl) (hm.kd 38 rfl) p1 qX12_planned_23 ?_
    refine v_icmp_geS hX 38 qX12_planned_26 rfl (fun q26 => ?_) (fun q26 => ?_)
    · skip
      refine v_iconst hX li_n1 qX12_planned_38 ?_
      refine v_ireturn hX qX12_planned_39 (hP _ _ ?_)
      first | (rw [plannedI, if_pos q9, if_pos q26, tn_nI (show j < 2000000 by omega)]; exact ⟨rfl, σ, J, rfl, hm2, hf.n.k⟩) | (rw [plannedI, if_pos q9, if_neg (Int32.not_lt.mpr q26)]; exact ⟨rfl, σ, J, rfl, hm2, hf.n.k⟩)
    · obtain ⟨j, hj, rfl⟩ := ofRange q9.1 q26 (by omega)
      refine v_aload_n hX rfl qX12_planned_29 ?_
      refine v_getR hX g_X12_50 (hm.kd 38 rfl) (hm.rf 11 rfl) qX12_planned_30 ?_
      refine v_iload_n hX rfl qX12_planned_33 ?_
      refine v_ialdV hX (hm.kd 50 rfl) (hm.ln 50 rfl) (by exact ix_n (n := j) (by omega) rfl) (p3 j hj).1 qX12_planned_34 ?_
      refine v_goto hX 39 qX12_planned_35 rfl ?_
      refine v_ireturn hX qX12_planned_39 (hP _ _ ?_)
      first | (rw [plannedI, if_pos q9, if_pos q26, tn_nI (show j < 2000000 by omega)]; exact ⟨rfl, σ, J, rfl, hm2, hf.n.k⟩) | (rw [plannedI, if_pos q9, if_neg (Int32.not_lt.mpr q26)]; exact ⟨rfl, σ, J, rfl, hm2, hf.n.k⟩)
  · skip
    refine v_bipush hX lb_n2 qX12_planned_12 ?_
    refine v_ireturn hX qX12_planned_14 (hP _ _ ?_)
    rw [plannedI, if_neg q9]
    exact ⟨rfl, h.1, h.2.2.1, rfl, hc, fun a _ => rfl⟩
theorem qX12_giveUp_0 : Dq cX12_giveUp 0 (.iload_n 1) 1 1 := ⟨by decide +kernel, rfl⟩
theorem qX12_giveUp_1 : Dq cX12_giveUp 1 (.i2l) 1 2 := ⟨by decide +kernel, rfl⟩
theorem qX12_giveUp_2 : Dq cX12_giveUp 2 (.lconst 0) 1 3 := ⟨by decide +kernel, rfl⟩
theorem qX12_giveUp_3 : Dq cX12_giveUp 3 (.ldc2_w 106) 3 6 := ⟨by decide +kernel, rfl⟩
theorem qX12_giveUp_6 : Dq cX12_giveUp 6 (.invokestatic 87) 3 9 := ⟨by decide +kernel, rfl⟩
theorem qX12_giveUp_9 : Dq cX12_giveUp 9 (.ifCond .ne 6) 3 12 := ⟨by decide +kernel, rfl⟩
theorem qX12_giveUp_12 : Dq cX12_giveUp 12 (.bipush (-2)) 2 14 := ⟨by decide +kernel, rfl⟩
theorem qX12_giveUp_14 : Dq cX12_giveUp 14 (.ireturn) 1 15 := ⟨by decide +kernel, rfl⟩
theorem qX12_giveUp_15 : Dq cX12_giveUp 15 (.aload_n 0) 1 16 := ⟨by decide +kernel, rfl⟩
theorem qX12_giveUp_16 : Dq cX12_giveUp 16 (.bipush 20) 2 18 := ⟨by decide +kernel, rfl⟩
theorem qX12_giveUp_18 : Dq cX12_giveUp 18 (.invokevirtual 314) 3 21 := ⟨by decide +kernel, rfl⟩
theorem qX12_giveUp_21 : Dq cX12_giveUp 21 (.iconst 0) 1 22 := ⟨by decide +kernel, rfl⟩
theorem qX12_giveUp_22 : Dq cX12_giveUp 22 (.istore_n 2) 1 23 := ⟨by decide +kernel, rfl⟩
theorem qX12_giveUp_23 : Dq cX12_giveUp 23 (.iload_n 2) 1 24 := ⟨by decide +kernel, rfl⟩
theorem qX12_giveUp_24 : Dq cX12_giveUp 24 (.aload_n 0) 1 25 := ⟨by decide +kernel, rfl⟩
theorem qX12_giveUp_25 : Dq cX12_giveUp 25 (.getfield 303) 3 28 := ⟨by decide +kernel, rfl⟩
theorem qX12_giveUp_28 : Dq cX12_giveUp 28 (.if_icmp .ge 19) 3 31 := ⟨by decide +kernel, rfl⟩
theorem qX12_giveUp_31 : Dq cX12_giveUp 31 (.aload_n 0) 1 32 := ⟨by decide +kernel, rfl⟩
theorem qX12_giveUp_32 : Dq cX12_giveUp 32 (.getfield 53) 3 35 := ⟨by decide +kernel, rfl⟩
theorem qX12_giveUp_35 : Dq cX12_giveUp 35 (.iload_n 2) 1 36 := ⟨by decide +kernel, rfl⟩
theorem qX12_giveUp_36 : Dq cX12_giveUp 36 (.iaload) 1 37 := ⟨by decide +kernel, rfl⟩
theorem qX12_giveUp_37 : Dq cX12_giveUp 37 (.iload_n 1) 1 38 := ⟨by decide +kernel, rfl⟩
theorem qX12_giveUp_38 : Dq cX12_giveUp 38 (.if_icmp .lt 9) 3 41 := ⟨by decide +kernel, rfl⟩
theorem qX12_giveUp_41 : Dq cX12_giveUp 41 (.iinc 2 1) 3 44 := ⟨by decide +kernel, rfl⟩
theorem qX12_giveUp_44 : Dq cX12_giveUp 44 (.goto (-21)) 3 47 := ⟨by decide +kernel, rfl⟩
theorem qX12_giveUp_47 : Dq cX12_giveUp 47 (.iload_n 2) 1 48 := ⟨by decide +kernel, rfl⟩
theorem qX12_giveUp_48 : Dq cX12_giveUp 48 (.ireturn) 1 49 := ⟨by decide +kernel, rfl⟩
set_option maxRecDepth 100000 in
set_option maxHeartbeats 4000000 in
theorem m_giveUp {G : Glb} {h : AHp} {E : Sst} (hc : MW h E) (pr : Int32) : CP G m_X12_giveUp 67 0 0 [.ref 38, .int pr] h (fun r h' => r = some (.int (giveI E pr)) ∧ ∃ σ J, h' = mkH h σ J ∧ MW (mkH h σ J) E ∧ K58 h σ) := by
  suffices key : ∀ P : Option Value → AHp → Prop, (∀ r h', (r = some (.int (giveI E pr)) ∧ ∃ σ J, h' = mkH h σ J ∧ MW (mkH h σ J) E ∧ K58 h σ) → P r h') → CP G m_X12_giveUp 67 0 0 [.ref 38, .int pr] h P from key _ (fun _ _ z => z)
  intro P hP
  obtain ⟨hm, htx, hp, hb, hkp, htp, hst, hok⟩ := id hc
  have hc6 := hok.1
  have hm6 := hok.2.1
  have hkd : ∀ i, i < sM E → sK E i < 6 := fun i hi => (hok.2.2.1 i hi).1
  have hnu : ∀ i, i < sM E → inR (sN E i) 9 := fun i hi => (hok.2.2.1 i hi).2
  have hbe : BeOK (bm h) (sC E) := by rw [hb]; exact hok.2.2.2.1
  have hsz := szE_le E 20
  refine CP.of (by decide +kernel) (Nat.le_of_ble_eq_true rfl) fun X hX hR hnm => ?_
  show V X G 3 0 0 _ 0 [some (.ref 38), some (.int pr), none] [] h
  refine v_iload_n hX rfl qX12_giveUp_0 ?_
  refine v_i2l hX qX12_giveUp_1 ?_
  refine v_lconst hX ll_0 qX12_giveUp_2 ?_
  refine v_ldc2 hX c_X12_106 qX12_giveUp_3 ?_
  refine v_callSq hX hR k_X12_87 (m_in _ (by exact (0)) (by exact (999999))) rfl (Nat.le_of_ble_eq_true rfl) rfl (Nat.le_of_ble_eq_true rfl) ⟨Nat.le_of_ble_eq_true rfl, Nat.le_of_ble_eq_true rfl⟩ qX12_giveUp_6 ?_
  rintro _ _ ⟨rfl, rfl⟩
  first | refine v_if_neB hX 15 qX12_giveUp_9 rfl (fun q9 => ?_) (fun q9 => ?_) | refine v_if_ne hX 15 qX12_giveUp_9 rfl (fun q9 => ?_) (fun q9 => ?_)
  · skip
    refine v_aload_n hX rfl qX12_giveUp_15 ?_
    refine v_bipush hX lb_20 qX12_giveUp_16 ?_
    refine v_callVq hX hR k_X12_314 (hm.kd 38 rfl) (m_plans (by exact hc) (n := 20) (by omega)) rfl (Nat.le_of_ble_eq_true rfl) rfl (Nat.le_of_ble_eq_true rfl) ⟨Nat.le_of_ble_eq_true rfl, Nat.le_of_ble_eq_true rfl⟩ qX12_giveUp_18 ?_
    rintro _ _ ⟨rfl, σ, J, rfl, hm2, hf, p1, p2, p3⟩
    refine v_iconst hX li_0 qX12_giveUp_21 ?_
    refine v_istore_n hX (Nat.le_of_ble_eq_true rfl) rfl (ls' := [some _, some _, some _]) rfl qX12_giveUp_22 ?_
    have L23 : ∀ (mz : Nat) (i : Nat), szE E 20 - i = mz → (i ≤ szE E 20) → (∀ j, j < i → decide (gaE E j < pr) = false) → V X G 3 0 0 (QM X G P 0 0) 23 [some (.ref 38), some (.int pr), some (.int (nI i))] [] (mkH h σ J) := by
      intro mz
      induction mz using Nat.strongRecOn with
      | _ mz ih =>
      intro i hmz hi hno
      refine v_iload_n hX rfl qX12_giveUp_23 ?_
      refine v_aload_n hX rfl qX12_giveUp_24 ?_
      refine v_getIv hX g_X12_303 (Or.inl rfl) (hm.kd 38 rfl) p1 qX12_giveUp_25 ?_
      refine v_icmp_geS hX 47 qX12_giveUp_28 rfl (fun q28 => ?_) (fun q28 => ?_)
      · have e1 : i = szE E 20 := Nat.le_antisymm hi (nI_le' (by omega) (by omega) q28)
        refine v_iload_n hX rfl qX12_giveUp_47 ?_
        refine v_ireturn hX qX12_giveUp_48 (hP _ _ ?_)
        first | (rw [giveI, if_pos q9, fc_hit (decide_eq_true q38) (szE E 20) 0 (by omega) (by omega) (fun j _ hj => hno j hj)]; exact ⟨rfl, σ, J, rfl, hm2, hf.n.k⟩) | (rw [giveI, if_pos q9, fc_no (szE E 20) 0 (fun j _ hj => hno j (by omega)), Nat.zero_add, e1]; exact ⟨rfl, σ, J, rfl, hm2, hf.n.k⟩)
      · have hl := nI_lt' (by omega) (by omega) q28
        refine v_aload_n hX rfl qX12_giveUp_31 ?_
        refine v_getR hX g_X12_53 (hm.kd 38 rfl) (hm.rf 12 rfl) qX12_giveUp_32 ?_
        refine v_iload_n hX rfl qX12_giveUp_35 ?_
        refine v_ialdV hX (hm.kd 51 rfl) (hm.ln 51 rfl) (by exact ix_n (n := i) (by omega) rfl) (p3 i hl).2 qX12_giveUp_36 ?_
        refine v_iload_n hX rfl qX12_giveUp_37 ?_
        refine v_icmp_ltS hX 47 qX12_giveUp_38 rfl (fun q38 => ?_) (fun q38 => ?_)
        · skip
          refine v_iload_n hX rfl qX12_giveUp_47 ?_
          refine v_ireturn hX qX12_giveUp_48 (hP _ _ ?_)
          first | (rw [giveI, if_pos q9, fc_hit (decide_eq_true q38) (szE E 20) 0 (by omega) (by omega) (fun j _ hj => hno j hj)]; exact ⟨rfl, σ, J, rfl, hm2, hf.n.k⟩) | (rw [giveI, if_pos q9, fc_no (szE E 20) 0 (fun j _ hj => hno j (by omega)), Nat.zero_add, e1]; exact ⟨rfl, σ, J, rfl, hm2, hf.n.k⟩)
        · skip
          refine v_iinc hX rfl (by first | exact ii_nI _ | exact ii_1 _) (Nat.le_of_ble_eq_true rfl) rfl (ls' := [some _, some _, some _]) rfl qX12_giveUp_41 ?_
          refine v_goto hX 23 qX12_giveUp_44 rfl ?_
          exact ih _ (by omega) (i + 1) rfl (by omega) (fun j hj => by
            by_cases e : j = i
            · subst e; exact decide_eq_false (Int32.not_lt.mpr q38)
            · exact hno j (by omega))
    exact L23 _ 0 rfl (by omega) (fun j hj => absurd hj (by omega))
  · skip
    refine v_bipush hX lb_n2 qX12_giveUp_12 ?_
    refine v_ireturn hX qX12_giveUp_14 (hP _ _ ?_)
    rw [giveI, if_neg q9]
    exact ⟨rfl, h.1, h.2.2.1, rfl, hc, fun a _ => rfl⟩
theorem qX12_foundBy_0 : Dq cX12_foundBy 0 (.iload_n 2) 1 1 := ⟨by decide +kernel, rfl⟩
theorem qX12_foundBy_1 : Dq cX12_foundBy 1 (.i2l) 1 2 := ⟨by decide +kernel, rfl⟩
theorem qX12_foundBy_2 : Dq cX12_foundBy 2 (.lconst 1) 1 3 := ⟨by decide +kernel, rfl⟩
theorem qX12_foundBy_3 : Dq cX12_foundBy 3 (.ldc2_w 312) 3 6 := ⟨by decide +kernel, rfl⟩
theorem qX12_foundBy_6 : Dq cX12_foundBy 6 (.invokestatic 87) 3 9 := ⟨by decide +kernel, rfl⟩
theorem qX12_foundBy_9 : Dq cX12_foundBy 9 (.ifCond .ne 6) 3 12 := ⟨by decide +kernel, rfl⟩
theorem qX12_foundBy_12 : Dq cX12_foundBy 12 (.bipush (-2)) 2 14 := ⟨by decide +kernel, rfl⟩
theorem qX12_foundBy_14 : Dq cX12_foundBy 14 (.ireturn) 1 15 := ⟨by decide +kernel, rfl⟩
theorem qX12_foundBy_15 : Dq cX12_foundBy 15 (.aload_n 0) 1 16 := ⟨by decide +kernel, rfl⟩
theorem qX12_foundBy_16 : Dq cX12_foundBy 16 (.bipush 20) 2 18 := ⟨by decide +kernel, rfl⟩
theorem qX12_foundBy_18 : Dq cX12_foundBy 18 (.invokevirtual 314) 3 21 := ⟨by decide +kernel, rfl⟩
theorem qX12_foundBy_21 : Dq cX12_foundBy 21 (.iconst 0) 1 22 := ⟨by decide +kernel, rfl⟩
theorem qX12_foundBy_22 : Dq cX12_foundBy 22 (.istore_n 3) 1 23 := ⟨by decide +kernel, rfl⟩
theorem qX12_foundBy_23 : Dq cX12_foundBy 23 (.iconst 0) 1 24 := ⟨by decide +kernel, rfl⟩
theorem qX12_foundBy_24 : Dq cX12_foundBy 24 (.istore 4) 2 26 := ⟨by decide +kernel, rfl⟩
theorem qX12_foundBy_26 : Dq cX12_foundBy 26 (.iload 4) 2 28 := ⟨by decide +kernel, rfl⟩
theorem qX12_foundBy_28 : Dq cX12_foundBy 28 (.iload_n 2) 1 29 := ⟨by decide +kernel, rfl⟩
theorem qX12_foundBy_29 : Dq cX12_foundBy 29 (.if_icmp .ge 83) 3 32 := ⟨by decide +kernel, rfl⟩
theorem qX12_foundBy_32 : Dq cX12_foundBy 32 (.aload_n 0) 1 33 := ⟨by decide +kernel, rfl⟩
theorem qX12_foundBy_33 : Dq cX12_foundBy 33 (.iload_n 1) 1 34 := ⟨by decide +kernel, rfl⟩
theorem qX12_foundBy_34 : Dq cX12_foundBy 34 (.iload 4) 2 36 := ⟨by decide +kernel, rfl⟩
theorem qX12_foundBy_36 : Dq cX12_foundBy 36 (.iadd) 1 37 := ⟨by decide +kernel, rfl⟩
theorem qX12_foundBy_37 : Dq cX12_foundBy 37 (.invokevirtual 350) 3 40 := ⟨by decide +kernel, rfl⟩
theorem qX12_foundBy_40 : Dq cX12_foundBy 40 (.istore 5) 2 42 := ⟨by decide +kernel, rfl⟩
theorem qX12_foundBy_42 : Dq cX12_foundBy 42 (.iconst 0) 1 43 := ⟨by decide +kernel, rfl⟩
theorem qX12_foundBy_43 : Dq cX12_foundBy 43 (.istore 6) 2 45 := ⟨by decide +kernel, rfl⟩
theorem qX12_foundBy_45 : Dq cX12_foundBy 45 (.iconst 0) 1 46 := ⟨by decide +kernel, rfl⟩
theorem qX12_foundBy_46 : Dq cX12_foundBy 46 (.istore 7) 2 48 := ⟨by decide +kernel, rfl⟩
theorem qX12_foundBy_48 : Dq cX12_foundBy 48 (.iload 7) 2 50 := ⟨by decide +kernel, rfl⟩
theorem qX12_foundBy_50 : Dq cX12_foundBy 50 (.aload_n 0) 1 51 := ⟨by decide +kernel, rfl⟩
theorem qX12_foundBy_51 : Dq cX12_foundBy 51 (.getfield 303) 3 54 := ⟨by decide +kernel, rfl⟩
theorem qX12_foundBy_54 : Dq cX12_foundBy 54 (.if_icmp .ge 39) 3 57 := ⟨by decide +kernel, rfl⟩
theorem qX12_foundBy_57 : Dq cX12_foundBy 57 (.iload 5) 2 59 := ⟨by decide +kernel, rfl⟩
theorem qX12_foundBy_59 : Dq cX12_foundBy 59 (.iconst (-1)) 1 60 := ⟨by decide +kernel, rfl⟩
theorem qX12_foundBy_60 : Dq cX12_foundBy 60 (.if_icmp .eq 33) 3 63 := ⟨by decide +kernel, rfl⟩
theorem qX12_foundBy_63 : Dq cX12_foundBy 63 (.iload 6) 2 65 := ⟨by decide +kernel, rfl⟩
theorem qX12_foundBy_65 : Dq cX12_foundBy 65 (.ifCond .ne 15) 3 68 := ⟨by decide +kernel, rfl⟩
theorem qX12_foundBy_68 : Dq cX12_foundBy 68 (.aload_n 0) 1 69 := ⟨by decide +kernel, rfl⟩
theorem qX12_foundBy_69 : Dq cX12_foundBy 69 (.getfield 50) 3 72 := ⟨by decide +kernel, rfl⟩
theorem qX12_foundBy_72 : Dq cX12_foundBy 72 (.iload 7) 2 74 := ⟨by decide +kernel, rfl⟩
theorem qX12_foundBy_74 : Dq cX12_foundBy 74 (.iaload) 1 75 := ⟨by decide +kernel, rfl⟩
theorem qX12_foundBy_75 : Dq cX12_foundBy 75 (.iload 5) 2 77 := ⟨by decide +kernel, rfl⟩
theorem qX12_foundBy_77 : Dq cX12_foundBy 77 (.if_icmp .ne 7) 3 80 := ⟨by decide +kernel, rfl⟩
theorem qX12_foundBy_80 : Dq cX12_foundBy 80 (.iconst 1) 1 81 := ⟨by decide +kernel, rfl⟩
theorem qX12_foundBy_81 : Dq cX12_foundBy 81 (.goto 4) 3 84 := ⟨by decide +kernel, rfl⟩
theorem qX12_foundBy_84 : Dq cX12_foundBy 84 (.iconst 0) 1 85 := ⟨by decide +kernel, rfl⟩
theorem qX12_foundBy_85 : Dq cX12_foundBy 85 (.istore 6) 2 87 := ⟨by decide +kernel, rfl⟩
theorem qX12_foundBy_87 : Dq cX12_foundBy 87 (.iinc 7 1) 3 90 := ⟨by decide +kernel, rfl⟩
theorem qX12_foundBy_90 : Dq cX12_foundBy 90 (.goto (-42)) 3 93 := ⟨by decide +kernel, rfl⟩
theorem qX12_foundBy_93 : Dq cX12_foundBy 93 (.iload_n 3) 1 94 := ⟨by decide +kernel, rfl⟩
theorem qX12_foundBy_94 : Dq cX12_foundBy 94 (.iload 6) 2 96 := ⟨by decide +kernel, rfl⟩
theorem qX12_foundBy_96 : Dq cX12_foundBy 96 (.ifCond .eq 7) 3 99 := ⟨by decide +kernel, rfl⟩
theorem qX12_foundBy_99 : Dq cX12_foundBy 99 (.iconst 1) 1 100 := ⟨by decide +kernel, rfl⟩
theorem qX12_foundBy_100 : Dq cX12_foundBy 100 (.goto 4) 3 103 := ⟨by decide +kernel, rfl⟩
theorem qX12_foundBy_103 : Dq cX12_foundBy 103 (.iconst 0) 1 104 := ⟨by decide +kernel, rfl⟩
theorem qX12_foundBy_104 : Dq cX12_foundBy 104 (.iadd) 1 105 := ⟨by decide +kernel, rfl⟩
theorem qX12_foundBy_105 : Dq cX12_foundBy 105 (.istore_n 3) 1 106 := ⟨by decide +kernel, rfl⟩
theorem qX12_foundBy_106 : Dq cX12_foundBy 106 (.iinc 4 1) 3 109 := ⟨by decide +kernel, rfl⟩
theorem qX12_foundBy_109 : Dq cX12_foundBy 109 (.goto (-83)) 3 112 := ⟨by decide +kernel, rfl⟩
theorem qX12_foundBy_112 : Dq cX12_foundBy 112 (.iload_n 3) 1 113 := ⟨by decide +kernel, rfl⟩
theorem qX12_foundBy_113 : Dq cX12_foundBy 113 (.ireturn) 1 114 := ⟨by decide +kernel, rfl⟩
set_option maxRecDepth 100000 in
set_option maxHeartbeats 4000000 in
theorem m_foundBy {G : Glb} {h : AHp} {E : Sst} (hc : MW h E) (seed nn : Int32) : CP G m_X12_foundBy 67 0 0 [.ref 38, .int seed, .int nn] h (fun r h' => r = some (.int (foundByI E seed nn)) ∧ ∃ σ J, h' = mkH h σ J ∧ MW (mkH h σ J) E ∧ K58 h σ) := by
  suffices key : ∀ P : Option Value → AHp → Prop, (∀ r h', (r = some (.int (foundByI E seed nn)) ∧ ∃ σ J, h' = mkH h σ J ∧ MW (mkH h σ J) E ∧ K58 h σ) → P r h') → CP G m_X12_foundBy 67 0 0 [.ref 38, .int seed, .int nn] h P from key _ (fun _ _ z => z)
  intro P hP
  obtain ⟨hm, htx, hp, hb, hkp, htp, hst, hok⟩ := id hc
  have hc6 := hok.1
  have hm6 := hok.2.1
  have hkd : ∀ i, i < sM E → sK E i < 6 := fun i hi => (hok.2.2.1 i hi).1
  have hnu : ∀ i, i < sM E → inR (sN E i) 9 := fun i hi => (hok.2.2.1 i hi).2
  have hbe : BeOK (bm h) (sC E) := by rw [hb]; exact hok.2.2.2.1
  have hsz := szE_le E 20
  refine CP.of (by decide +kernel) (Nat.le_of_ble_eq_true rfl) fun X hX hR hnm => ?_
  show V X G 8 0 0 _ 0 [some (.ref 38), some (.int seed), some (.int nn), none, none, none, none, none] [] h
  refine v_iload_n hX rfl qX12_foundBy_0 ?_
  refine v_i2l hX qX12_foundBy_1 ?_
  refine v_lconst hX ll_1 qX12_foundBy_2 ?_
  refine v_ldc2 hX c_X12_312 qX12_foundBy_3 ?_
  refine v_callSq hX hR k_X12_87 (m_in _ (by exact (1)) (by exact (20))) rfl (Nat.le_of_ble_eq_true rfl) rfl (Nat.le_of_ble_eq_true rfl) ⟨Nat.le_of_ble_eq_true rfl, Nat.le_of_ble_eq_true rfl⟩ qX12_foundBy_6 ?_
  rintro _ _ ⟨rfl, rfl⟩
  first | refine v_if_neB hX 15 qX12_foundBy_9 rfl (fun q9 => ?_) (fun q9 => ?_) | refine v_if_ne hX 15 qX12_foundBy_9 rfl (fun q9 => ?_) (fun q9 => ?_)
  · skip
    obtain ⟨n, hn, rfl⟩ := rng_ex 20 (by omega) ⟨Int32.le_trans (by decide) q9.1, q9.2⟩
    refine v_aload_n hX rfl qX12_foundBy_15 ?_
    refine v_bipush hX lb_20 qX12_foundBy_16 ?_
    refine v_callVq hX hR k_X12_314 (hm.kd 38 rfl) (m_plans (by exact hc) (n := 20) (by omega)) rfl (Nat.le_of_ble_eq_true rfl) rfl (Nat.le_of_ble_eq_true rfl) ⟨Nat.le_of_ble_eq_true rfl, Nat.le_of_ble_eq_true rfl⟩ qX12_foundBy_18 ?_
    rintro _ _ ⟨rfl, σ, J, rfl, hm2, hf, p1, p2, p3⟩
    refine v_iconst hX li_0 qX12_foundBy_21 ?_
    refine v_istore_n hX (Nat.le_of_ble_eq_true rfl) rfl (ls' := [some _, some _, some _, some _, none, none, none, none]) rfl qX12_foundBy_22 ?_
    refine v_iconst hX li_0 qX12_foundBy_23 ?_
    refine v_istore hX (Nat.le_of_ble_eq_true rfl) rfl (ls' := [some _, some _, some _, some _, some _, none, none, none]) rfl qX12_foundBy_24 ?_
    have L26 : ∀ (mz : Nat) (k : Nat), n - k = mz → (k ≤ n) → V X G 8 0 0 (QM X G P 0 0) 26 [some (.ref 38), some (.int seed), some (.int (nI n)), some (.int (fbS E seed k)), some (.int (nI k)), none, none, none] [] (mkH h σ J) := by
      intro mz
      induction mz using Nat.strongRecOn with
      | _ mz ih =>
      intro k hmz hk
      have ihO := ih
      refine v_iload hX rfl qX12_foundBy_26 ?_
      refine v_iload_n hX rfl qX12_foundBy_28 ?_
      refine v_icmp_geS hX 112 qX12_foundBy_29 rfl (fun q29 => ?_) (fun q29 => ?_)
      · have e0 : k = n := Nat.le_antisymm hk (nI_le' (by omega) (by omega) q29)
        refine v_iload_n hX rfl qX12_foundBy_112 ?_
        refine v_ireturn hX qX12_foundBy_113 (hP _ _ ?_)
        rw [foundByI, if_pos q9, tn_nI (show n < 2000000 by omega), ← e0]
        exact ⟨rfl, σ, J, rfl, hm2, hf.n.k⟩
      · have hkl := nI_lt' (by omega) (by omega) q29
        refine v_aload_n hX rfl qX12_foundBy_32 ?_
        refine v_iload_n hX rfl qX12_foundBy_33 ?_
        refine v_iload hX rfl qX12_foundBy_34 ?_
        refine v_iadd hX qX12_foundBy_36 ?_
        refine v_callVq hX hR k_X12_350 (hm.kd 38 rfl) (m_drawn (by exact hm2) _) rfl (Nat.le_of_ble_eq_true rfl) rfl (Nat.le_of_ble_eq_true rfl) ⟨Nat.le_of_ble_eq_true rfl, Nat.le_of_ble_eq_true rfl⟩ qX12_foundBy_37 ?_
        rintro _ _ ⟨rfl, rfl⟩
        refine v_istore hX (Nat.le_of_ble_eq_true rfl) rfl (ls' := [some _, some _, some _, some _, some _, some _, none, none]) rfl qX12_foundBy_40 ?_
        refine v_iconst hX li_0 qX12_foundBy_42 ?_
        refine v_istore hX (Nat.le_of_ble_eq_true rfl) rfl (ls' := [some _, some _, some _, some _, some _, some _, some _, none]) rfl qX12_foundBy_43 ?_
        refine v_iconst hX li_0 qX12_foundBy_45 ?_
        refine v_istore hX (Nat.le_of_ble_eq_true rfl) rfl (ls' := [some _, some _, some _, some _, some _, some _, some _, some _]) rfl qX12_foundBy_46 ?_
        have L48 : ∀ (mz : Nat) (i : Nat), szE E 20 - i = mz → (i ≤ szE E 20) → V X G 8 0 0 (QM X G P 0 0) 48 [some (.ref 38), some (.int seed), some (.int (nI n)), some (.int (fbS E seed k)), some (.int (nI k)), some (.int (drawnI (sB E) (seed + nI k))), some (.int (bz (anyB (fun j => decide (ceE E j = drawnI (sB E) (seed + nI k))) i = true))), some (.int (nI i))] [] (mkH h σ J) := by
          intro mz
          induction mz using Nat.strongRecOn with
          | _ mz ih =>
          intro i hmz hi
          refine v_iload hX rfl qX12_foundBy_48 ?_
          refine v_aload_n hX rfl qX12_foundBy_50 ?_
          refine v_getIv hX g_X12_303 (Or.inl rfl) (hm.kd 38 rfl) p1 qX12_foundBy_51 ?_
          refine v_icmp_geS hX 93 qX12_foundBy_54 rfl (fun q54 => ?_) (fun q54 => ?_)
          · have e1 : i = szE E 20 := Nat.le_antisymm hi (nI_le' (by omega) (by omega) q54)
            have hany : anyB (fun j => decide (ceE E j = drawnI (sB E) (seed + nI k))) (szE E 20) = anyB (fun j => decide (ceE E j = drawnI (sB E) (seed + nI k))) i := by rw [e1]
            refine v_iload_n hX rfl qX12_foundBy_93 ?_
            refine v_iload hX rfl qX12_foundBy_94 ?_
            first | refine v_if_eqB hX 103 qX12_foundBy_96 rfl (fun q96 => ?_) (fun q96 => ?_) | refine v_if_eq hX 103 qX12_foundBy_96 rfl (fun q96 => ?_) (fun q96 => ?_)
            · skip
              refine v_iconst hX li_0 qX12_foundBy_103 ?_
              refine v_iadd hX qX12_foundBy_104 ?_
              rw [← hany] at q96
              refine v_eqI (show _ = fbS E seed (k + 1) by
                first
                | exact (if_pos q96).symm
                | exact (Int32.add_zero _).trans (if_neg q96).symm) ?_
              refine v_istore_n hX (Nat.le_of_ble_eq_true rfl) rfl (ls' := [some _, some _, some _, some _, some _, some _, some _, some _]) rfl qX12_foundBy_105 ?_
              refine v_iinc hX rfl (by first | exact ii_nI _ | exact ii_1 _) (Nat.le_of_ble_eq_true rfl) rfl (ls' := [some _, some _, some _, some _, some _, some _, some _, some _]) rfl qX12_foundBy_106 ?_
              refine v_goto hX 26 qX12_foundBy_109 rfl ?_
              refine v_forget (ls' := [_, _, _, _, _, none, none, none]) ⟨Or.inr rfl, Or.inr rfl, Or.inr rfl, Or.inr rfl, Or.inr rfl, Or.inl rfl, Or.inl rfl, Or.inl rfl, trivial⟩ ?_
              exact ihO _ (by omega) (k + 1) rfl (by omega)
            · skip
              refine v_iconst hX li_1 qX12_foundBy_99 ?_
              refine v_goto hX 104 qX12_foundBy_100 rfl ?_
              refine v_iadd hX qX12_foundBy_104 ?_
              rw [← hany] at q96
              refine v_eqI (show _ = fbS E seed (k + 1) by
                first
                | exact (if_pos q96).symm
                | exact (Int32.add_zero _).trans (if_neg q96).symm) ?_
              refine v_istore_n hX (Nat.le_of_ble_eq_true rfl) rfl (ls' := [some _, some _, some _, some _, some _, some _, some _, some _]) rfl qX12_foundBy_105 ?_
              refine v_iinc hX rfl (by first | exact ii_nI _ | exact ii_1 _) (Nat.le_of_ble_eq_true rfl) rfl (ls' := [some _, some _, some _, some _, some _, some _, some _, some _]) rfl qX12_foundBy_106 ?_
              refine v_goto hX 26 qX12_foundBy_109 rfl ?_
              refine v_forget (ls' := [_, _, _, _, _, none, none, none]) ⟨Or.inr rfl, Or.inr rfl, Or.inr rfl, Or.inr rfl, Or.inr rfl, Or.inl rfl, Or.inl rfl, Or.inl rfl, trivial⟩ ?_
              exact ihO _ (by omega) (k + 1) rfl (by omega)
          · have hl := nI_lt' (by omega) (by omega) q54
            refine v_iload hX rfl qX12_foundBy_57 ?_
            refine v_iconst hX li_n1 qX12_foundBy_59 ?_
            refine v_icmp_eq hX 93 qX12_foundBy_60 rfl (fun q60 => ?_) (fun q60 => ?_)
            · have ha0 : ∀ m, m ≤ szE E 20 → anyB (fun j => decide (ceE E j = drawnI (sB E) (seed + nI k))) m = false := fun m hm => anyB_0 m (fun j hj => by
                obtain ⟨w, hw, ew⟩ := ce_in (E := E) hm6 (n := 20) (i := j) (by omega)
                exact decide_eq_false (fun y => by rw [ew, q60] at y; exact nI_ne1 (by omega) y))
              have hany : anyB (fun j => decide (ceE E j = drawnI (sB E) (seed + nI k))) (szE E 20) = anyB (fun j => decide (ceE E j = drawnI (sB E) (seed + nI k))) i := by rw [ha0 _ (Nat.le_refl _), ha0 i (by omega)]
              refine v_iload_n hX rfl qX12_foundBy_93 ?_
              refine v_iload hX rfl qX12_foundBy_94 ?_
              first | refine v_if_eqB hX 103 qX12_foundBy_96 rfl (fun q96 => ?_) (fun q96 => ?_) | refine v_if_eq hX 103 qX12_foundBy_96 rfl (fun q96 => ?_) (fun q96 => ?_)
              · skip
                refine v_iconst hX li_0 qX12_foundBy_103 ?_
                refine v_iadd hX qX12_foundBy_104 ?_
                rw [← hany] at q96
                refine v_eqI (show _ = fbS E seed (k + 1) by
                  first
                  | exact (if_pos q96).symm
                  | exact (Int32.add_zero _).trans (if_neg q96).symm) ?_
                refine v_istore_n hX (Nat.le_of_ble_eq_true rfl) rfl (ls' := [some _, some _, some _, some _, some _, some _, some _, some _]) rfl qX12_foundBy_105 ?_
                refine v_iinc hX rfl (by first | exact ii_nI _ | exact ii_1 _) (Nat.le_of_ble_eq_true rfl) rfl (ls' := [some _, some _, some _, some _, some _, some _, some _, some _]) rfl qX12_foundBy_106 ?_
                refine v_goto hX 26 qX12_foundBy_109 rfl ?_
                refine v_forget (ls' := [_, _, _, _, _, none, none, none]) ⟨Or.inr rfl, Or.inr rfl, Or.inr rfl, Or.inr rfl, Or.inr rfl, Or.inl rfl, Or.inl rfl, Or.inl rfl, trivial⟩ ?_
                exact ihO _ (by omega) (k + 1) rfl (by omega)
              · skip
                refine v_iconst hX li_1 qX12_foundBy_99 ?_
                refine v_goto hX 104 qX12_foundBy_100 rfl ?_
                refine v_iadd hX qX12_foundBy_104 ?_
                rw [← hany] at q96
                refine v_eqI (show _ = fbS E seed (k + 1) by
                  first
                  | exact (if_pos q96).symm
                  | exact (Int32.add_zero _).trans (if_neg q96).symm) ?_
                refine v_istore_n hX (Nat.le_of_ble_eq_true rfl) rfl (ls' := [some _, some _, some _, some _, some _, some _, some _, some _]) rfl qX12_foundBy_105 ?_
                refine v_iinc hX rfl (by first | exact ii_nI _ | exact ii_1 _) (Nat.le_of_ble_eq_true rfl) rfl (ls' := [some _, some _, some _, some _, some _, some _, some _, some _]) rfl qX12_foundBy_106 ?_
                refine v_goto hX 26 qX12_foundBy_109 rfl ?_
                refine v_forget (ls' := [_, _, _, _, _, none, none, none]) ⟨Or.inr rfl, Or.inr rfl, Or.inr rfl, Or.inr rfl, Or.inr rfl, Or.inl rfl, Or.inl rfl, Or.inl rfl, trivial⟩ ?_
                exact ihO _ (by omega) (k + 1) rfl (by omega)
            · skip
              refine v_iload hX rfl qX12_foundBy_63 ?_
              first | refine v_if_neB hX 80 qX12_foundBy_65 rfl (fun q65 => ?_) (fun q65 => ?_) | refine v_if_ne hX 80 qX12_foundBy_65 rfl (fun q65 => ?_) (fun q65 => ?_)
              · skip
                refine v_iconst hX li_1 qX12_foundBy_80 ?_
                refine v_goto hX 85 qX12_foundBy_81 rfl ?_
                refine v_eqI (show _ = bz (anyB (fun j => decide (ceE E j = drawnI (sB E) (seed + nI k))) (i + 1) = true) by
                  first
                  | exact (bz_t (by show (anyB (fun j => decide (ceE E j = drawnI (sB E) (seed + nI k))) i || decide (ceE E i = drawnI (sB E) (seed + nI k))) = true; rw [q65]; rfl)).symm
                  | exact (bz_t (by show (anyB (fun j => decide (ceE E j = drawnI (sB E) (seed + nI k))) i || decide (ceE E i = drawnI (sB E) (seed + nI k))) = true; rw [decide_eq_true q77]; simp)).symm
                  | exact (bz_f (by show ¬ (anyB (fun j => decide (ceE E j = drawnI (sB E) (seed + nI k))) i || decide (ceE E i = drawnI (sB E) (seed + nI k))) = true; rw [decide_eq_false q77, Bool.eq_false_iff.mpr q65]; decide)).symm) ?_
                refine v_istore hX (Nat.le_of_ble_eq_true rfl) rfl (ls' := [some _, some _, some _, some _, some _, some _, some _, some _]) rfl qX12_foundBy_85 ?_
                refine v_iinc hX rfl (by first | exact ii_nI _ | exact ii_1 _) (Nat.le_of_ble_eq_true rfl) rfl (ls' := [some _, some _, some _, some _, some _, some _, some _, some _]) rfl qX12_foundBy_87 ?_
                refine v_goto hX 48 qX12_foundBy_90 rfl ?_
                exact ih _ (by omega) (i + 1) rfl (by omega)
              · skip
                refine v_aload_n hX rfl qX12_foundBy_68 ?_
                refine v_getR hX g_X12_50 (hm.kd 38 rfl) (hm.rf 11 rfl) qX12_foundBy_69 ?_
                refine v_iload hX rfl qX12_foundBy_72 ?_
                refine v_ialdV hX (hm.kd 50 rfl) (hm.ln 50 rfl) (by exact ix_n (n := i) (by omega) rfl) (p3 i hl).1 qX12_foundBy_74 ?_
                refine v_iload hX rfl qX12_foundBy_75 ?_
                refine v_icmp_ne hX 84 qX12_foundBy_77 rfl (fun q77 => ?_) (fun q77 => ?_)
                · skip
                  refine v_iconst hX li_0 qX12_foundBy_84 ?_
                  refine v_eqI (show _ = bz (anyB (fun j => decide (ceE E j = drawnI (sB E) (seed + nI k))) (i + 1) = true) by
                    first
                    | exact (bz_t (by show (anyB (fun j => decide (ceE E j = drawnI (sB E) (seed + nI k))) i || decide (ceE E i = drawnI (sB E) (seed + nI k))) = true; rw [q65]; rfl)).symm
                    | exact (bz_t (by show (anyB (fun j => decide (ceE E j = drawnI (sB E) (seed + nI k))) i || decide (ceE E i = drawnI (sB E) (seed + nI k))) = true; rw [decide_eq_true q77]; simp)).symm
                    | exact (bz_f (by show ¬ (anyB (fun j => decide (ceE E j = drawnI (sB E) (seed + nI k))) i || decide (ceE E i = drawnI (sB E) (seed + nI k))) = true; rw [decide_eq_false q77, Bool.eq_false_iff.mpr q65]; decide)).symm) ?_
                  refine v_istore hX (Nat.le_of_ble_eq_true rfl) rfl (ls' := [some _, some _, some _, some _, some _, some _, some _, some _]) rfl qX12_foundBy_85 ?_
                  refine v_iinc hX rfl (by first | exact ii_nI _ | exact ii_1 _) (Nat.le_of_ble_eq_true rfl) rfl (ls' := [some _, some _, some _, some _, some _, some _, some _, some _]) rfl qX12_foundBy_87 ?_
                  refine v_goto hX 48 qX12_foundBy_90 rfl ?_
                  exact ih _ (by omega) (i + 1) rfl (by omega)
                · skip
                  refine v_iconst hX li_1 qX12_foundBy_80 ?_
                  refine v_goto hX 85 qX12_foundBy_81 rfl ?_
                  refine v_eqI (show _ = bz (anyB (fun j => decide (ceE E j = drawnI (sB E) (seed + nI k))) (i + 1) = true) by
                    first
                    | exact (bz_t (by show (anyB (fun j => decide (ceE E j = drawnI (sB E) (seed + nI k))) i || decide (ceE E i = drawnI (sB E) (seed + nI k))) = true; rw [q65]; rfl)).symm
                    | exact (bz_t (by show (anyB (fun j => decide (ceE E j = drawnI (sB E) (seed + nI k))) i || decide (ceE E i = drawnI (sB E) (seed + nI k))) = true; rw [decide_eq_true q77]; simp)).symm
                    | exact (bz_f (by show ¬ (anyB (fun j => decide (ceE E j = drawnI (sB E) (seed + nI k))) i || decide (ceE E i = drawnI (sB E) (seed + nI k))) = true; rw [decide_eq_false q77, Bool.eq_false_iff.mpr q65]; decide)).symm) ?_
                  refine v_istore hX (Nat.le_of_ble_eq_true rfl) rfl (ls' := [some _, some _, some _, some _, some _, some _, some _, some _]) rfl qX12_foundBy_85 ?_
                  refine v_iinc hX rfl (by first | exact ii_nI _ | exact ii_1 _) (Nat.le_of_ble_eq_true rfl) rfl (ls' := [some _, some _, some _, some _, some _, some _, some _, some _]) rfl qX12_foundBy_87 ?_
                  refine v_goto hX 48 qX12_foundBy_90 rfl ?_
                  exact ih _ (by omega) (i + 1) rfl (by omega)
        exact L48 _ 0 rfl (by omega)
    exact L26 _ 0 rfl (by omega)
  · skip
    refine v_bipush hX lb_n2 qX12_foundBy_12 ?_
    refine v_ireturn hX qX12_foundBy_14 (hP _ _ ?_)
    rw [foundByI, if_neg q9]
    exact ⟨rfl, h.1, h.2.2.1, rfl, hc, fun a _ => rfl⟩
theorem qX12_under_0 : Dq cX12_under 0 (.iload_n 1) 1 1 := ⟨by decide +kernel, rfl⟩
theorem qX12_under_1 : Dq cX12_under 1 (.i2l) 1 2 := ⟨by decide +kernel, rfl⟩
theorem qX12_under_2 : Dq cX12_under 2 (.lconst 0) 1 3 := ⟨by decide +kernel, rfl⟩
theorem qX12_under_3 : Dq cX12_under 3 (.ldc2_w 114) 3 6 := ⟨by decide +kernel, rfl⟩
theorem qX12_under_6 : Dq cX12_under 6 (.invokestatic 87) 3 9 := ⟨by decide +kernel, rfl⟩
theorem qX12_under_9 : Dq cX12_under 9 (.ifCond .ne 6) 3 12 := ⟨by decide +kernel, rfl⟩
theorem qX12_under_12 : Dq cX12_under 12 (.bipush (-2)) 2 14 := ⟨by decide +kernel, rfl⟩
theorem qX12_under_14 : Dq cX12_under 14 (.ireturn) 1 15 := ⟨by decide +kernel, rfl⟩
theorem qX12_under_15 : Dq cX12_under 15 (.iconst 0) 1 16 := ⟨by decide +kernel, rfl⟩
theorem qX12_under_16 : Dq cX12_under 16 (.istore_n 2) 1 17 := ⟨by decide +kernel, rfl⟩
theorem qX12_under_17 : Dq cX12_under 17 (.iconst 0) 1 18 := ⟨by decide +kernel, rfl⟩
theorem qX12_under_18 : Dq cX12_under 18 (.istore_n 3) 1 19 := ⟨by decide +kernel, rfl⟩
theorem qX12_under_19 : Dq cX12_under 19 (.iload_n 3) 1 20 := ⟨by decide +kernel, rfl⟩
theorem qX12_under_20 : Dq cX12_under 20 (.bipush 8) 2 22 := ⟨by decide +kernel, rfl⟩
theorem qX12_under_22 : Dq cX12_under 22 (.if_icmp .ge 32) 3 25 := ⟨by decide +kernel, rfl⟩
theorem qX12_under_25 : Dq cX12_under 25 (.iload_n 2) 1 26 := ⟨by decide +kernel, rfl⟩
theorem qX12_under_26 : Dq cX12_under 26 (.aload_n 0) 1 27 := ⟨by decide +kernel, rfl⟩
theorem qX12_under_27 : Dq cX12_under 27 (.bipush 8) 2 29 := ⟨by decide +kernel, rfl⟩
theorem qX12_under_29 : Dq cX12_under 29 (.iload_n 1) 1 30 := ⟨by decide +kernel, rfl⟩
theorem qX12_under_30 : Dq cX12_under 30 (.imul) 1 31 := ⟨by decide +kernel, rfl⟩
theorem qX12_under_31 : Dq cX12_under 31 (.iload_n 3) 1 32 := ⟨by decide +kernel, rfl⟩
theorem qX12_under_32 : Dq cX12_under 32 (.iadd) 1 33 := ⟨by decide +kernel, rfl⟩
theorem qX12_under_33 : Dq cX12_under 33 (.invokevirtual 255) 3 36 := ⟨by decide +kernel, rfl⟩
theorem qX12_under_36 : Dq cX12_under 36 (.ifCond .eq 7) 3 39 := ⟨by decide +kernel, rfl⟩
theorem qX12_under_39 : Dq cX12_under 39 (.iconst 1) 1 40 := ⟨by decide +kernel, rfl⟩
theorem qX12_under_40 : Dq cX12_under 40 (.goto 4) 3 43 := ⟨by decide +kernel, rfl⟩
theorem qX12_under_43 : Dq cX12_under 43 (.iconst 0) 1 44 := ⟨by decide +kernel, rfl⟩
theorem qX12_under_44 : Dq cX12_under 44 (.iload_n 3) 1 45 := ⟨by decide +kernel, rfl⟩
theorem qX12_under_45 : Dq cX12_under 45 (.ishl) 1 46 := ⟨by decide +kernel, rfl⟩
theorem qX12_under_46 : Dq cX12_under 46 (.ior) 1 47 := ⟨by decide +kernel, rfl⟩
theorem qX12_under_47 : Dq cX12_under 47 (.istore_n 2) 1 48 := ⟨by decide +kernel, rfl⟩
theorem qX12_under_48 : Dq cX12_under 48 (.iinc 3 1) 3 51 := ⟨by decide +kernel, rfl⟩
theorem qX12_under_51 : Dq cX12_under 51 (.goto (-32)) 3 54 := ⟨by decide +kernel, rfl⟩
theorem qX12_under_54 : Dq cX12_under 54 (.iload_n 2) 1 55 := ⟨by decide +kernel, rfl⟩
theorem qX12_under_55 : Dq cX12_under 55 (.ireturn) 1 56 := ⟨by decide +kernel, rfl⟩
set_option maxRecDepth 100000 in
set_option maxHeartbeats 4000000 in
theorem m_under {G : Glb} {h : AHp} {E : Sst} (hc : MW h E) (yy : Int32) : CP G m_X12_under 64 0 0 [.ref 38, .int yy] h (fun r h' => r = some (.int (underI (sT E) (sB E) yy)) ∧ ∃ σ J, h' = mkH h σ J ∧ MW (mkH h σ J) E ∧ K58 h σ) := by
  suffices key : ∀ P : Option Value → AHp → Prop, (∀ r h', (r = some (.int (underI (sT E) (sB E) yy)) ∧ ∃ σ J, h' = mkH h σ J ∧ MW (mkH h σ J) E ∧ K58 h σ) → P r h') → CP G m_X12_under 64 0 0 [.ref 38, .int yy] h P from key _ (fun _ _ z => z)
  intro P hP
  obtain ⟨hm, htx, hp, hb, hkp, htp, hst, hok⟩ := id hc
  have hc6 := hok.1
  have hm6 := hok.2.1
  have hkd : ∀ i, i < sM E → sK E i < 6 := fun i hi => (hok.2.2.1 i hi).1
  have hnu : ∀ i, i < sM E → inR (sN E i) 9 := fun i hi => (hok.2.2.1 i hi).2
  have hbe : BeOK (bm h) (sC E) := by rw [hb]; exact hok.2.2.2.1
  refine CP.of (by decide +kernel) (Nat.le_of_ble_eq_true rfl) fun X hX hR hnm => ?_
  show V X G 4 0 0 _ 0 [some (.ref 38), some (.int yy), none, none] [] h
  refine v_iload_n hX rfl qX12_under_0 ?_
  refine v_i2l hX qX12_under_1 ?_
  refine v_lconst hX ll_0 qX12_under_2 ?_
  refine v_ldc2 hX c_X12_114 qX12_under_3 ?_
  refine v_callSq hX hR k_X12_87 (m_in _ (by exact (0)) (by exact (5))) rfl (Nat.le_of_ble_eq_true rfl) rfl (Nat.le_of_ble_eq_true rfl) ⟨Nat.le_of_ble_eq_true rfl, Nat.le_of_ble_eq_true rfl⟩ qX12_under_6 ?_
  rintro _ _ ⟨rfl, rfl⟩
  first | refine v_if_neB hX 15 qX12_under_9 rfl (fun q9 => ?_) (fun q9 => ?_) | refine v_if_ne hX 15 qX12_under_9 rfl (fun q9 => ?_) (fun q9 => ?_)
  · skip
    obtain ⟨y, hy, rfl⟩ := rng_ex 5 (by omega) q9
    refine v_iconst hX li_0 qX12_under_15 ?_
    refine v_istore_n hX (Nat.le_of_ble_eq_true rfl) rfl (ls' := [some _, some _, some _, none]) rfl qX12_under_16 ?_
    refine v_iconst hX li_0 qX12_under_17 ?_
    refine v_istore_n hX (Nat.le_of_ble_eq_true rfl) rfl (ls' := [some _, some _, some _, some _]) rfl qX12_under_18 ?_
    have L19 : ∀ (mz : Nat) (i : Nat) (σ : Nat → Nat → Int32) (J : Nat → Nat → Int64), 8 - i = mz → (i ≤ 8) → (FrR h σ J) → V X G 4 0 0 (QM X G P 0 0) 19 [some (.ref 38), some (.int (nI y)), some (.int (udS (sT E) (sB E) y i)), some (.int (nI i))] [] (mkH h σ J) := by
      intro mz
      induction mz using Nat.strongRecOn with
      | _ mz ih =>
      intro i σ J hmz hi hf
      refine v_iload_n hX rfl qX12_under_19 ?_
      refine v_bipush hX lb_8 qX12_under_20 ?_
      refine v_icmp_geS hX 54 qX12_under_22 rfl (fun q22 => ?_) (fun q22 => ?_)
      · have e1 := geN (N := 8) rfl hi q22; subst e1
        refine v_iload_n hX rfl qX12_under_54 ?_
        refine v_ireturn hX qX12_under_55 (hP _ _ ?_)
        rw [underI, if_pos q9, tn_nI (show y < 2000000 by omega)]
        exact ⟨rfl, σ, J, rfl, hc.fr hf, hf.k⟩
      · have hl := ltN (N := 8) rfl hi q22
        refine v_iload_n hX rfl qX12_under_25 ?_
        refine v_aload_n hX rfl qX12_under_26 ?_
        refine v_bipush hX lb_8 qX12_under_27 ?_
        refine v_iload_n hX rfl qX12_under_29 ?_
        refine v_imul hX qX12_under_30 ?_
        refine v_iload_n hX rfl qX12_under_31 ?_
        refine v_iadd hX qX12_under_32 ?_
        refine v_eqI (show 8 * nI y + nI i = nI (y * 8 + i) by rw [show (8 : Int32) = nI 8 from rfl, pk_mul, nI_add, Nat.mul_comm]) ?_
        refine v_callVq hX hR k_X12_255 (hm.kd 38 rfl) (mw_isUnder (by exact (hc.fr hf)) (q := y * 8 + i) (by omega)) rfl (Nat.le_of_ble_eq_true rfl) rfl (Nat.le_of_ble_eq_true rfl) ⟨Nat.le_of_ble_eq_true rfl, Nat.le_of_ble_eq_true rfl⟩ qX12_under_33 ?_
        rintro _ _ ⟨rfl, σ2, J2, rfl, hf2⟩
        first | refine v_if_eqB hX 43 qX12_under_36 rfl (fun q36 => ?_) (fun q36 => ?_) | refine v_if_eq hX 43 qX12_under_36 rfl (fun q36 => ?_) (fun q36 => ?_)
        · skip
          refine v_iconst hX li_0 qX12_under_43 ?_
          refine v_iload_n hX rfl qX12_under_44 ?_
          refine v_ishl hX qX12_under_45 ?_
          refine v_ior hX qX12_under_46 ?_
          refine v_eqI (show _ = udS (sT E) (sB E) y (i + 1) by
            first
            | exact (if_neg q36).symm
            | exact (show _ = udS (sT E) (sB E) y i by simp).trans (if_pos (Classical.byContradiction q36)).symm) ?_
          refine v_istore_n hX (Nat.le_of_ble_eq_true rfl) rfl (ls' := [some _, some _, some _, some _]) rfl qX12_under_47 ?_
          refine v_iinc hX rfl (by first | exact ii_nI _ | exact ii_1 _) (Nat.le_of_ble_eq_true rfl) rfl (ls' := [some _, some _, some _, some _]) rfl qX12_under_48 ?_
          refine v_goto hX 19 qX12_under_51 rfl ?_
          exact ih _ (by omega) (i + 1) σ2 J2 rfl (by omega) (hf.tr hf2)
        · skip
          refine v_iconst hX li_1 qX12_under_39 ?_
          refine v_goto hX 44 qX12_under_40 rfl ?_
          refine v_iload_n hX rfl qX12_under_44 ?_
          refine v_ishl hX qX12_under_45 ?_
          refine v_ior hX qX12_under_46 ?_
          refine v_eqI (show _ = udS (sT E) (sB E) y (i + 1) by
            first
            | exact (if_neg q36).symm
            | exact (show _ = udS (sT E) (sB E) y i by simp).trans (if_pos (Classical.byContradiction q36)).symm) ?_
          refine v_istore_n hX (Nat.le_of_ble_eq_true rfl) rfl (ls' := [some _, some _, some _, some _]) rfl qX12_under_47 ?_
          refine v_iinc hX rfl (by first | exact ii_nI _ | exact ii_1 _) (Nat.le_of_ble_eq_true rfl) rfl (ls' := [some _, some _, some _, some _]) rfl qX12_under_48 ?_
          refine v_goto hX 19 qX12_under_51 rfl ?_
          exact ih _ (by omega) (i + 1) σ2 J2 rfl (by omega) (hf.tr hf2)
    exact L19 _ 0 h.1 h.2.2.1 rfl (by omega) (FrR.rf h)
  · skip
    refine v_bipush hX lb_n2 qX12_under_12 ?_
    refine v_ireturn hX qX12_under_14 (hP _ _ ?_)
    rw [underI, if_neg q9]
    exact ⟨rfl, h.1, h.2.2.1, rfl, hc, fun a _ => rfl⟩
theorem qX12_drownedNow_0 : Dq cX12_drownedNow 0 (.iconst 0) 1 1 := ⟨by decide +kernel, rfl⟩
theorem qX12_drownedNow_1 : Dq cX12_drownedNow 1 (.istore_n 1) 1 2 := ⟨by decide +kernel, rfl⟩
theorem qX12_drownedNow_2 : Dq cX12_drownedNow 2 (.iconst 0) 1 3 := ⟨by decide +kernel, rfl⟩
theorem qX12_drownedNow_3 : Dq cX12_drownedNow 3 (.istore_n 2) 1 4 := ⟨by decide +kernel, rfl⟩
theorem qX12_drownedNow_4 : Dq cX12_drownedNow 4 (.iload_n 2) 1 5 := ⟨by decide +kernel, rfl⟩
theorem qX12_drownedNow_5 : Dq cX12_drownedNow 5 (.bipush 48) 2 7 := ⟨by decide +kernel, rfl⟩
theorem qX12_drownedNow_7 : Dq cX12_drownedNow 7 (.if_icmp .ge 30) 3 10 := ⟨by decide +kernel, rfl⟩
theorem qX12_drownedNow_10 : Dq cX12_drownedNow 10 (.iload_n 1) 1 11 := ⟨by decide +kernel, rfl⟩
theorem qX12_drownedNow_11 : Dq cX12_drownedNow 11 (.aload_n 0) 1 12 := ⟨by decide +kernel, rfl⟩
theorem qX12_drownedNow_12 : Dq cX12_drownedNow 12 (.iload_n 2) 1 13 := ⟨by decide +kernel, rfl⟩
theorem qX12_drownedNow_13 : Dq cX12_drownedNow 13 (.invokevirtual 255) 3 16 := ⟨by decide +kernel, rfl⟩
theorem qX12_drownedNow_16 : Dq cX12_drownedNow 16 (.ifCond .eq 12) 3 19 := ⟨by decide +kernel, rfl⟩
theorem qX12_drownedNow_19 : Dq cX12_drownedNow 19 (.aload_n 0) 1 20 := ⟨by decide +kernel, rfl⟩
theorem qX12_drownedNow_20 : Dq cX12_drownedNow 20 (.getfield 23) 3 23 := ⟨by decide +kernel, rfl⟩
theorem qX12_drownedNow_23 : Dq cX12_drownedNow 23 (.iload_n 2) 1 24 := ⟨by decide +kernel, rfl⟩
theorem qX12_drownedNow_24 : Dq cX12_drownedNow 24 (.iaload) 1 25 := ⟨by decide +kernel, rfl⟩
theorem qX12_drownedNow_25 : Dq cX12_drownedNow 25 (.goto 4) 3 28 := ⟨by decide +kernel, rfl⟩
theorem qX12_drownedNow_28 : Dq cX12_drownedNow 28 (.iconst 0) 1 29 := ⟨by decide +kernel, rfl⟩
theorem qX12_drownedNow_29 : Dq cX12_drownedNow 29 (.iadd) 1 30 := ⟨by decide +kernel, rfl⟩
theorem qX12_drownedNow_30 : Dq cX12_drownedNow 30 (.istore_n 1) 1 31 := ⟨by decide +kernel, rfl⟩
theorem qX12_drownedNow_31 : Dq cX12_drownedNow 31 (.iinc 2 1) 3 34 := ⟨by decide +kernel, rfl⟩
theorem qX12_drownedNow_34 : Dq cX12_drownedNow 34 (.goto (-30)) 3 37 := ⟨by decide +kernel, rfl⟩
theorem qX12_drownedNow_37 : Dq cX12_drownedNow 37 (.iload_n 1) 1 38 := ⟨by decide +kernel, rfl⟩
theorem qX12_drownedNow_38 : Dq cX12_drownedNow 38 (.ireturn) 1 39 := ⟨by decide +kernel, rfl⟩
set_option maxRecDepth 100000 in
set_option maxHeartbeats 4000000 in
theorem m_drownedNow {G : Glb} {h : AHp} {E : Sst} (hc : MW h E)  : CP G m_X12_drownedNow 63 0 0 [.ref 38] h (fun r h' => r = some (.int (duS (sT E) (sB E) (sB E 0 3) 48)) ∧ ∃ σ J, h' = mkH h σ J ∧ FrR h σ J) := by
  suffices key : ∀ P : Option Value → AHp → Prop, (∀ r h', (r = some (.int (duS (sT E) (sB E) (sB E 0 3) 48)) ∧ ∃ σ J, h' = mkH h σ J ∧ FrR h σ J) → P r h') → CP G m_X12_drownedNow 63 0 0 [.ref 38] h P from key _ (fun _ _ z => z)
  intro P hP
  obtain ⟨hm, htx, hp, hb, hkp, htp, hst, hok⟩ := id hc
  have hc6 := hok.1
  have hm6 := hok.2.1
  have hkd : ∀ i, i < sM E → sK E i < 6 := fun i hi => (hok.2.2.1 i hi).1
  have hnu : ∀ i, i < sM E → inR (sN E i) 9 := fun i hi => (hok.2.2.1 i hi).2
  have hbe : BeOK (bm h) (sC E) := by rw [hb]; exact hok.2.2.2.1
  refine CP.of (by decide +kernel) (Nat.le_of_ble_eq_true rfl) fun X hX hR hnm => ?_
  show V X G 3 0 0 _ 0 [some (.ref 38), none, none] [] h
  refine v_iconst hX li_0 qX12_drownedNow_0 ?_
  refine v_istore_n hX (Nat.le_of_ble_eq_true rfl) rfl (ls' := [some _, some _, none]) rfl qX12_drownedNow_1 ?_
  refine v_iconst hX li_0 qX12_drownedNow_2 ?_
  refine v_istore_n hX (Nat.le_of_ble_eq_true rfl) rfl (ls' := [some _, some _, some _]) rfl qX12_drownedNow_3 ?_
  have L4 : ∀ (mz : Nat) (i : Nat) (σ : Nat → Nat → Int32) (J : Nat → Nat → Int64), 48 - i = mz → (i ≤ 48) → (FrR h σ J) → V X G 3 0 0 (QM X G P 0 0) 4 [some (.ref 38), some (.int (duS (sT E) (sB E) (sB E 0 3) i)), some (.int (nI i))] [] (mkH h σ J) := by
    intro mz
    induction mz using Nat.strongRecOn with
    | _ mz ih =>
    intro i σ J hmz hi hf
    refine v_iload_n hX rfl qX12_drownedNow_4 ?_
    refine v_bipush hX lb_48 qX12_drownedNow_5 ?_
    refine v_icmp_geS hX 37 qX12_drownedNow_7 rfl (fun q7 => ?_) (fun q7 => ?_)
    · have e1 := geN (N := 48) rfl hi q7; subst e1
      refine v_iload_n hX rfl qX12_drownedNow_37 ?_
      refine v_ireturn hX qX12_drownedNow_38 (hP _ _ ?_)
      exact ⟨rfl, σ, J, rfl, hf⟩
    · have hl := ltN (N := 48) rfl hi q7
      refine v_iload_n hX rfl qX12_drownedNow_10 ?_
      refine v_aload_n hX rfl qX12_drownedNow_11 ?_
      refine v_iload_n hX rfl qX12_drownedNow_12 ?_
      refine v_callVq hX hR k_X12_255 (hm.kd 38 rfl) (mw_isUnder (by exact (hc.fr hf)) (by exact hl)) rfl (Nat.le_of_ble_eq_true rfl) rfl (Nat.le_of_ble_eq_true rfl) ⟨Nat.le_of_ble_eq_true rfl, Nat.le_of_ble_eq_true rfl⟩ qX12_drownedNow_13 ?_
      rintro _ _ ⟨rfl, σ2, J2, rfl, hf2⟩
      first | refine v_if_eqB hX 28 qX12_drownedNow_16 rfl (fun q16 => ?_) (fun q16 => ?_) | refine v_if_eq hX 28 qX12_drownedNow_16 rfl (fun q16 => ?_) (fun q16 => ?_)
      · skip
        refine v_iconst hX li_0 qX12_drownedNow_28 ?_
        refine v_iadd hX qX12_drownedNow_29 ?_
        refine v_eqI (show _ = duS (sT E) (sB E) (sB E 0 3) (i + 1) by
          first
          | exact du_wet hok.2.2.2.1 hl q16
          | exact du_dry (Classical.byContradiction q16)) ?_
        refine v_istore_n hX (Nat.le_of_ble_eq_true rfl) rfl (ls' := [some _, some _, some _]) rfl qX12_drownedNow_30 ?_
        refine v_iinc hX rfl (by first | exact ii_nI _ | exact ii_1 _) (Nat.le_of_ble_eq_true rfl) rfl (ls' := [some _, some _, some _]) rfl qX12_drownedNow_31 ?_
        refine v_goto hX 4 qX12_drownedNow_34 rfl ?_
        exact ih _ (by omega) (i + 1) σ2 J2 rfl (by omega) (hf.tr hf2)
      · skip
        refine v_aload_n hX rfl qX12_drownedNow_19 ?_
        refine v_getR hX g_X12_23 (hm.kd 38 rfl) (hm.rf 3 rfl) qX12_drownedNow_20 ?_
        refine v_iload_n hX rfl qX12_drownedNow_23 ?_
        refine v_ialdV hX (hm.kd 42 rfl) (hm.ln 42 rfl) (by exact ix_n hl rfl) (show _ = sB E 1 i by rw [← hb, bm1 hl]; exact (hf.tr hf2).1 42 i (by omega)) qX12_drownedNow_24 ?_
        refine v_goto hX 29 qX12_drownedNow_25 rfl ?_
        refine v_iadd hX qX12_drownedNow_29 ?_
        refine v_eqI (show _ = duS (sT E) (sB E) (sB E 0 3) (i + 1) by
          first
          | exact du_wet hok.2.2.2.1 hl q16
          | exact du_dry (Classical.byContradiction q16)) ?_
        refine v_istore_n hX (Nat.le_of_ble_eq_true rfl) rfl (ls' := [some _, some _, some _]) rfl qX12_drownedNow_30 ?_
        refine v_iinc hX rfl (by first | exact ii_nI _ | exact ii_1 _) (Nat.le_of_ble_eq_true rfl) rfl (ls' := [some _, some _, some _]) rfl qX12_drownedNow_31 ?_
        refine v_goto hX 4 qX12_drownedNow_34 rfl ?_
        exact ih _ (by omega) (i + 1) σ2 J2 rfl (by omega) (hf.tr hf2)
  exact L4 _ 0 h.1 h.2.2.1 rfl (by omega) (FrR.rf h)
/-- what drowned leaves alone on its way -/
def FrD (h : AHp) (σ : Nat → Nat → Int32) : Prop := ∀ a k, ¬ (a = 38 ∧ (k = 10 ∨ (15 ≤ k ∧ k ≤ 29))) → σ a k = hpI h a k
theorem FrD.mw {h : AHp} {E : Sst} (hc : MW h E) {σ : Nat → Nat → Int32} (hf : FrD h σ) {H : Nat} (hH : H < 24) (h10 : σ 38 10 = nI H) (J : Nat → Nat → Int64) : MW (mkH h σ J) (setB E (up2 (sB E) 0 3 (nI H))) := by
  have hb := hc.2.2.2.1
  refine hc.q (J := J) (fun a k a1 a2 a3 => hf a k (by omega)) (bm_is (h := mkH h σ J) (fun k hk => ?_) (fun k hk => ?_) ?_ ?_ ?_ ?_ (fun i k ho => ?_)) (hc.2.2.2.2.2.2.2.2.2.2.1.f (Or.inr (Or.inl ⟨rfl, inR_nI (by omega) (by omega)⟩)))
  · rw [up2_ne (by omega), ← hb, bm1 hk]; exact hf 42 k (by omega)
  · rw [up2_ne (by omega), ← hb, bm2 hk]; exact hf 43 k (by omega)
  · rw [up2_ne (by omega), ← hb, bmB]; exact hf 38 9 (by omega)
  · rw [up2_at]; exact h10
  · rw [up2_ne (by omega), ← hb, bmN]; exact hf 38 11 (by omega)
  · rw [up2_ne (by omega), ← hb, bmR]; exact hf 38 4 (by omega)
  · rw [up2_ne (fun z => ho (Or.inr ⟨z.1, by omega, by omega⟩)), ← hb]; exact bm_0 ho
theorem qX12_drowned_0 : Dq cX12_drowned 0 (.iload_n 1) 1 1 := ⟨by decide +kernel, rfl⟩
theorem qX12_drowned_1 : Dq cX12_drowned 1 (.i2l) 1 2 := ⟨by decide +kernel, rfl⟩
theorem qX12_drowned_2 : Dq cX12_drowned 2 (.lconst 0) 1 3 := ⟨by decide +kernel, rfl⟩
theorem qX12_drowned_3 : Dq cX12_drowned 3 (.lconst 1) 1 4 := ⟨by decide +kernel, rfl⟩
theorem qX12_drowned_4 : Dq cX12_drowned 4 (.invokestatic 87) 3 7 := ⟨by decide +kernel, rfl⟩
theorem qX12_drowned_7 : Dq cX12_drowned 7 (.ifCond .ne 6) 3 10 := ⟨by decide +kernel, rfl⟩
theorem qX12_drowned_10 : Dq cX12_drowned 10 (.bipush (-2)) 2 12 := ⟨by decide +kernel, rfl⟩
theorem qX12_drowned_12 : Dq cX12_drowned 12 (.ireturn) 1 13 := ⟨by decide +kernel, rfl⟩
theorem qX12_drowned_13 : Dq cX12_drowned 13 (.iload_n 1) 1 14 := ⟨by decide +kernel, rfl⟩
theorem qX12_drowned_14 : Dq cX12_drowned 14 (.ifCond .ne 8) 3 17 := ⟨by decide +kernel, rfl⟩
theorem qX12_drowned_17 : Dq cX12_drowned 17 (.aload_n 0) 1 18 := ⟨by decide +kernel, rfl⟩
theorem qX12_drowned_18 : Dq cX12_drowned 18 (.invokevirtual 329) 3 21 := ⟨by decide +kernel, rfl⟩
theorem qX12_drowned_21 : Dq cX12_drowned 21 (.ireturn) 1 22 := ⟨by decide +kernel, rfl⟩
theorem qX12_drowned_22 : Dq cX12_drowned 22 (.aload_n 0) 1 23 := ⟨by decide +kernel, rfl⟩
theorem qX12_drowned_23 : Dq cX12_drowned 23 (.getfield 29) 3 26 := ⟨by decide +kernel, rfl⟩
theorem qX12_drowned_26 : Dq cX12_drowned 26 (.istore_n 2) 1 27 := ⟨by decide +kernel, rfl⟩
theorem qX12_drowned_27 : Dq cX12_drowned 27 (.iload_n 2) 1 28 := ⟨by decide +kernel, rfl⟩
theorem qX12_drowned_28 : Dq cX12_drowned 28 (.istore_n 3) 1 29 := ⟨by decide +kernel, rfl⟩
theorem qX12_drowned_29 : Dq cX12_drowned 29 (.iconst (-1)) 1 30 := ⟨by decide +kernel, rfl⟩
theorem qX12_drowned_30 : Dq cX12_drowned 30 (.istore 4) 2 32 := ⟨by decide +kernel, rfl⟩
theorem qX12_drowned_32 : Dq cX12_drowned 32 (.aload_n 0) 1 33 := ⟨by decide +kernel, rfl⟩
theorem qX12_drowned_33 : Dq cX12_drowned 33 (.iload_n 2) 1 34 := ⟨by decide +kernel, rfl⟩
theorem qX12_drowned_34 : Dq cX12_drowned 34 (.putfield 29) 3 37 := ⟨by decide +kernel, rfl⟩
theorem qX12_drowned_37 : Dq cX12_drowned 37 (.aload_n 0) 1 38 := ⟨by decide +kernel, rfl⟩
theorem qX12_drowned_38 : Dq cX12_drowned 38 (.getfield 29) 3 41 := ⟨by decide +kernel, rfl⟩
theorem qX12_drowned_41 : Dq cX12_drowned 41 (.bipush 24) 2 43 := ⟨by decide +kernel, rfl⟩
theorem qX12_drowned_43 : Dq cX12_drowned 43 (.if_icmp .ge 38) 3 46 := ⟨by decide +kernel, rfl⟩
theorem qX12_drowned_46 : Dq cX12_drowned 46 (.aload_n 0) 1 47 := ⟨by decide +kernel, rfl⟩
theorem qX12_drowned_47 : Dq cX12_drowned 47 (.invokevirtual 329) 3 50 := ⟨by decide +kernel, rfl⟩
theorem qX12_drowned_50 : Dq cX12_drowned 50 (.istore 5) 2 52 := ⟨by decide +kernel, rfl⟩
theorem qX12_drowned_52 : Dq cX12_drowned 52 (.iload 5) 2 54 := ⟨by decide +kernel, rfl⟩
theorem qX12_drowned_54 : Dq cX12_drowned 54 (.iload 4) 2 56 := ⟨by decide +kernel, rfl⟩
theorem qX12_drowned_56 : Dq cX12_drowned 56 (.if_icmp .le 12) 3 59 := ⟨by decide +kernel, rfl⟩
theorem qX12_drowned_59 : Dq cX12_drowned 59 (.aload_n 0) 1 60 := ⟨by decide +kernel, rfl⟩
theorem qX12_drowned_60 : Dq cX12_drowned 60 (.getfield 29) 3 63 := ⟨by decide +kernel, rfl⟩
theorem qX12_drowned_63 : Dq cX12_drowned 63 (.istore_n 3) 1 64 := ⟨by decide +kernel, rfl⟩
theorem qX12_drowned_64 : Dq cX12_drowned 64 (.iload 5) 2 66 := ⟨by decide +kernel, rfl⟩
theorem qX12_drowned_66 : Dq cX12_drowned 66 (.istore 4) 2 68 := ⟨by decide +kernel, rfl⟩
theorem qX12_drowned_68 : Dq cX12_drowned 68 (.aload_n 0) 1 69 := ⟨by decide +kernel, rfl⟩
theorem qX12_drowned_69 : Dq cX12_drowned 69 (.dup) 1 70 := ⟨by decide +kernel, rfl⟩
theorem qX12_drowned_70 : Dq cX12_drowned 70 (.getfield 29) 3 73 := ⟨by decide +kernel, rfl⟩
theorem qX12_drowned_73 : Dq cX12_drowned 73 (.iconst 1) 1 74 := ⟨by decide +kernel, rfl⟩
theorem qX12_drowned_74 : Dq cX12_drowned 74 (.iadd) 1 75 := ⟨by decide +kernel, rfl⟩
theorem qX12_drowned_75 : Dq cX12_drowned 75 (.putfield 29) 3 78 := ⟨by decide +kernel, rfl⟩
theorem qX12_drowned_78 : Dq cX12_drowned 78 (.goto (-41)) 3 81 := ⟨by decide +kernel, rfl⟩
theorem qX12_drowned_81 : Dq cX12_drowned 81 (.aload_n 0) 1 82 := ⟨by decide +kernel, rfl⟩
theorem qX12_drowned_82 : Dq cX12_drowned 82 (.iload_n 2) 1 83 := ⟨by decide +kernel, rfl⟩
theorem qX12_drowned_83 : Dq cX12_drowned 83 (.putfield 29) 3 86 := ⟨by decide +kernel, rfl⟩
theorem qX12_drowned_86 : Dq cX12_drowned 86 (.iload_n 3) 1 87 := ⟨by decide +kernel, rfl⟩
theorem qX12_drowned_87 : Dq cX12_drowned 87 (.ireturn) 1 88 := ⟨by decide +kernel, rfl⟩
set_option maxRecDepth 100000 in
set_option maxHeartbeats 4000000 in
theorem m_drowned {G : Glb} {h : AHp} {E : Sst} (hc : MW h E) (w : Int32) : CP G m_X12_drowned 64 0 0 [.ref 38, .int w] h (fun r h' => r = some (.int (drownedI (sT E) (sB E) w)) ∧ ∃ σ J, h' = mkH h σ J ∧ MW (mkH h σ J) E ∧ K58 h σ) := by
  suffices key : ∀ P : Option Value → AHp → Prop, (∀ r h', (r = some (.int (drownedI (sT E) (sB E) w)) ∧ ∃ σ J, h' = mkH h σ J ∧ MW (mkH h σ J) E ∧ K58 h σ) → P r h') → CP G m_X12_drowned 64 0 0 [.ref 38, .int w] h P from key _ (fun _ _ z => z)
  intro P hP
  obtain ⟨hm, htx, hp, hb, hkp, htp, hst, hok⟩ := id hc
  have hc6 := hok.1
  have hm6 := hok.2.1
  have hkd : ∀ i, i < sM E → sK E i < 6 := fun i hi => (hok.2.2.1 i hi).1
  have hnu : ∀ i, i < sM E → inR (sN E i) 9 := fun i hi => (hok.2.2.1 i hi).2
  have hbe : BeOK (bm h) (sC E) := by rw [hb]; exact hok.2.2.2.1
  obtain ⟨H, hH, eH⟩ := hok.2.2.2.1.2.2.2.1.ex (by omega)
  have hd1 : (-1 : Int32) < (fun z => duS (sT E) (sB E) (nI z) 48) H := by
    obtain ⟨s, hs, es⟩ := duS_in (TV := sT E) hok.2.2.2.1 (nI H) 48 (by omega)
    show _ < duS (sT E) (sB E) (nI H) 48
    rw [es]; exact nI_gt1 (by omega)
  refine CP.of (by decide +kernel) (Nat.le_of_ble_eq_true rfl) fun X hX hR hnm => ?_
  show V X G 6 0 0 _ 0 [some (.ref 38), some (.int w), none, none, none, none] [] h
  refine v_iload_n hX rfl qX12_drowned_0 ?_
  refine v_i2l hX qX12_drowned_1 ?_
  refine v_lconst hX ll_0 qX12_drowned_2 ?_
  refine v_lconst hX ll_1 qX12_drowned_3 ?_
  refine v_callSq hX hR k_X12_87 (m_in _ (by exact (0)) (by exact (1))) rfl (Nat.le_of_ble_eq_true rfl) rfl (Nat.le_of_ble_eq_true rfl) ⟨Nat.le_of_ble_eq_true rfl, Nat.le_of_ble_eq_true rfl⟩ qX12_drowned_4 ?_
  rintro _ _ ⟨rfl, rfl⟩
  first | refine v_if_neB hX 13 qX12_drowned_7 rfl (fun q7 => ?_) (fun q7 => ?_) | refine v_if_ne hX 13 qX12_drowned_7 rfl (fun q7 => ?_) (fun q7 => ?_)
  · skip
    refine v_iload_n hX rfl qX12_drowned_13 ?_
    first | refine v_if_neB hX 22 qX12_drowned_14 rfl (fun q14 => ?_) (fun q14 => ?_) | refine v_if_ne hX 22 qX12_drowned_14 rfl (fun q14 => ?_) (fun q14 => ?_)
    · skip
      refine v_aload_n hX rfl qX12_drowned_22 ?_
      refine v_getIv hX g_X12_29 (Or.inl rfl) (hm.kd 38 rfl) (show _ = nI H from by rw [← eH, ← hb]; rfl) qX12_drowned_23 ?_
      refine v_istore_n hX (Nat.le_of_ble_eq_true rfl) rfl (ls' := [some _, some _, some _, none, none, none]) rfl qX12_drowned_26 ?_
      refine v_iload_n hX rfl qX12_drowned_27 ?_
      refine v_istore_n hX (Nat.le_of_ble_eq_true rfl) rfl (ls' := [some _, some _, some _, some _, none, none]) rfl qX12_drowned_28 ?_
      refine v_iconst hX li_n1 qX12_drowned_29 ?_
      refine v_istore hX (Nat.le_of_ble_eq_true rfl) rfl (ls' := [some _, some _, some _, some _, some _, none]) rfl qX12_drowned_30 ?_
      refine v_aload_n hX rfl qX12_drowned_32 ?_
      refine v_iload_n hX rfl qX12_drowned_33 ?_
      refine v_putI hX p_X12_29 (hm.kd 38 rfl) (Or.inl rfl) qX12_drowned_34 ?_
      have L37 : ∀ (mz : Nat) (j : Nat) (σ : Nat → Nat → Int32) (J : Nat → Nat → Int64), 24 - H - j = mz → (j ≤ 24 - H) → (FrD h σ) → (σ 38 10 = nI (H + j)) → V X G 6 0 0 (QM X G P 0 0) 37 [some (.ref 38), some (.int w), some (.int (nI H)), some (.int (mdX (fun z => duS (sT E) (sB E) (nI z) 48) H j).1), some (.int (mdX (fun z => duS (sT E) (sB E) (nI z) 48) H j).2), none] [] (mkH h σ J) := by
        intro mz
        induction mz using Nat.strongRecOn with
        | _ mz ih =>
        intro j σ J hmz hi hf h10
        refine v_aload_n hX rfl qX12_drowned_37 ?_
        refine v_getIv hX g_X12_29 (Or.inl rfl) (hm.kd 38 rfl) (show _ = nI (H + j) from h10) qX12_drowned_38 ?_
        refine v_bipush hX lb_24 qX12_drowned_41 ?_
        refine v_icmp_geS hX 81 qX12_drowned_43 rfl (fun q43 => ?_) (fun q43 => ?_)
        · have e1 : j = 24 - H := by
              have := nI_le' (i := 24) (s := H + j) (by omega) (by omega) q43
              omega
          refine v_aload_n hX rfl qX12_drowned_81 ?_
          refine v_iload_n hX rfl qX12_drowned_82 ?_
          refine v_putI hX p_X12_29 (hm.kd 38 rfl) (Or.inl rfl) qX12_drowned_83 ?_
          refine v_iload_n hX rfl qX12_drowned_86 ?_
          refine v_ireturn hX qX12_drowned_87 (hP _ _ ?_)
          have w1 : w = 1 := by
            obtain ⟨z1, z2⟩ := q7
            have a := leI.mp z1
            have b := leI.mp z2
            rw [eqI] at q14 ⊢
            have e0 : (0 : Int32).toInt = 0 := rfl
            have e1 : (1 : Int32).toInt = 1 := rfl
            omega
          rw [drownedI, if_neg q14, if_pos w1, eH, tn_nI (show H < 2000000 by omega)]
          have f3 : FrD h (stI (mkH h σ J) 38 10 (nI H)).1 := fun a k ha => by show hpI (stI _ _ _ _) _ _ = _; rw [hpI_st, if_neg (by omega)]; exact hf a k ha
          refine ⟨?_, (stI (mkH h σ J) 38 10 (nI H)).1, J, rfl, ?_, fun a ha => funext fun k => f3 a k (by omega)⟩
          · rw [e1, show 24 - H = (23 - H) + 1 by omega]; rfl
          · have z := f3.mw hc (show H < 24 by omega) rfl J
            have e2 : up2 (sB E) 0 3 (nI H) = sB E := by
              funext i k
              show (if i = 0 ∧ k = 3 then nI H else sB E i k) = sB E i k
              by_cases e : i = 0 ∧ k = 3
              · rw [if_pos e, e.1, e.2, eH]
              · rw [if_neg e]
            rw [e2] at z
            exact z
        · have hl : H + j < 24 := nI_lt' (i := H + j) (s := 24) (by omega) (by omega) q43
          refine v_aload_n hX rfl qX12_drowned_46 ?_
          refine v_callVq hX hR k_X12_329 (hm.kd 38 rfl) (m_drownedNow (by exact (hf.mw hc hl h10 J))) rfl (Nat.le_of_ble_eq_true rfl) rfl (Nat.le_of_ble_eq_true rfl) ⟨Nat.le_of_ble_eq_true rfl, Nat.le_of_ble_eq_true rfl⟩ qX12_drowned_47 ?_
          rintro _ _ ⟨rfl, σ2, J2, rfl, hf2⟩
          rw [show duS (sT E) (sB (setB E (up2 (sB E) 0 3 (nI (H + j))))) (sB (setB E (up2 (sB E) 0 3 (nI (H + j)))) 0 3) 48 = (fun z => duS (sT E) (sB E) (nI z) 48) (H + j) by
            show duS (sT E) (up2 (sB E) 0 3 (nI (H + j))) (up2 (sB E) 0 3 (nI (H + j)) 0 3) 48 = duS (sT E) (sB E) (nI (H + j)) 48
            rw [up2_at, du_up]]
          refine v_istore hX (Nat.le_of_ble_eq_true rfl) rfl (ls' := [some _, some _, some _, some _, some _, some _]) rfl qX12_drowned_50 ?_
          refine v_iload hX rfl qX12_drowned_52 ?_
          refine v_iload hX rfl qX12_drowned_54 ?_
          refine v_icmp_leS hX 68 qX12_drowned_56 rfl (fun q56 => ?_) (fun q56 => ?_)
          · skip
            refine v_aload_n hX rfl qX12_drowned_68 ?_
            refine v_dup hX rfl qX12_drowned_69 ?_
            refine v_getIv hX g_X12_29 (Or.inl rfl) (hm.kd 38 rfl) (show _ = nI (H + j) from (hf2.1 38 10 (by omega)).trans h10) qX12_drowned_70 ?_
            refine v_iconst hX li_1 qX12_drowned_73 ?_
            refine v_iadd hX qX12_drowned_74 ?_
            refine v_eqI (nI_1 _) ?_
            refine v_putI hX p_X12_29 (hm.kd 38 rfl) (Or.inl rfl) qX12_drowned_75 ?_
            refine v_goto hX 37 qX12_drowned_78 rfl ?_
            refine v_forget (ls' := [_, _, _, _, _, none]) ⟨Or.inr rfl, Or.inr rfl, Or.inr rfl, Or.inr rfl, Or.inr rfl, Or.inl rfl, trivial⟩ ?_
            have f2 : FrD h (stI (mkH h σ2 J2) 38 10 (nI (H + j + 1))).1 := fun a k ha => by show hpI (stI _ _ _ _) _ _ = _; rw [hpI_st, if_neg (by omega)]; exact (hf2.1 a k (by omega)).trans (hf a k ha)
            first | (have e1 : mdX (fun z => duS (sT E) (sB E) (nI z) 48) H (j + 1) = (nI (H + j), (fun z => duS (sT E) (sB E) (nI z) 48) (H + j)) := (mdX_s (f := (fun z => duS (sT E) (sB E) (nI z) 48)) (h0 := H) hd1 j).trans (if_pos q56); have z := ih _ (by omega) (j + 1) (stI (mkH h σ2 J2) 38 10 (nI (H + j + 1))).1 J2 rfl (by omega) f2 rfl; rw [e1] at z; exact z) | (have e1 : mdX (fun z => duS (sT E) (sB E) (nI z) 48) H (j + 1) = mdX (fun z => duS (sT E) (sB E) (nI z) 48) H j := (mdX_s (f := (fun z => duS (sT E) (sB E) (nI z) 48)) (h0 := H) hd1 j).trans (if_neg (Int32.not_lt.mpr q56)); have z := ih _ (by omega) (j + 1) (stI (mkH h σ2 J2) 38 10 (nI (H + j + 1))).1 J2 rfl (by omega) f2 rfl; rw [e1] at z; exact z)
          · skip
            refine v_aload_n hX rfl qX12_drowned_59 ?_
            refine v_getIv hX g_X12_29 (Or.inl rfl) (hm.kd 38 rfl) (show _ = nI (H + j) from (hf2.1 38 10 (by omega)).trans h10) qX12_drowned_60 ?_
            refine v_istore_n hX (Nat.le_of_ble_eq_true rfl) rfl (ls' := [some _, some _, some _, some _, some _, some _]) rfl qX12_drowned_63 ?_
            refine v_iload hX rfl qX12_drowned_64 ?_
            refine v_istore hX (Nat.le_of_ble_eq_true rfl) rfl (ls' := [some _, some _, some _, some _, some _, some _]) rfl qX12_drowned_66 ?_
            refine v_aload_n hX rfl qX12_drowned_68 ?_
            refine v_dup hX rfl qX12_drowned_69 ?_
            refine v_getIv hX g_X12_29 (Or.inl rfl) (hm.kd 38 rfl) (show _ = nI (H + j) from (hf2.1 38 10 (by omega)).trans h10) qX12_drowned_70 ?_
            refine v_iconst hX li_1 qX12_drowned_73 ?_
            refine v_iadd hX qX12_drowned_74 ?_
            refine v_eqI (nI_1 _) ?_
            refine v_putI hX p_X12_29 (hm.kd 38 rfl) (Or.inl rfl) qX12_drowned_75 ?_
            refine v_goto hX 37 qX12_drowned_78 rfl ?_
            refine v_forget (ls' := [_, _, _, _, _, none]) ⟨Or.inr rfl, Or.inr rfl, Or.inr rfl, Or.inr rfl, Or.inr rfl, Or.inl rfl, trivial⟩ ?_
            have f2 : FrD h (stI (mkH h σ2 J2) 38 10 (nI (H + j + 1))).1 := fun a k ha => by show hpI (stI _ _ _ _) _ _ = _; rw [hpI_st, if_neg (by omega)]; exact (hf2.1 a k (by omega)).trans (hf a k ha)
            first | (have e1 : mdX (fun z => duS (sT E) (sB E) (nI z) 48) H (j + 1) = (nI (H + j), (fun z => duS (sT E) (sB E) (nI z) 48) (H + j)) := (mdX_s (f := (fun z => duS (sT E) (sB E) (nI z) 48)) (h0 := H) hd1 j).trans (if_pos q56); have z := ih _ (by omega) (j + 1) (stI (mkH h σ2 J2) 38 10 (nI (H + j + 1))).1 J2 rfl (by omega) f2 rfl; rw [e1] at z; exact z) | (have e1 : mdX (fun z => duS (sT E) (sB E) (nI z) 48) H (j + 1) = mdX (fun z => duS (sT E) (sB E) (nI z) 48) H j := (mdX_s (f := (fun z => duS (sT E) (sB E) (nI z) 48)) (h0 := H) hd1 j).trans (if_neg (Int32.not_lt.mpr q56)); have z := ih _ (by omega) (j + 1) (stI (mkH h σ2 J2) 38 10 (nI (H + j + 1))).1 J2 rfl (by omega) f2 rfl; rw [e1] at z; exact z)
      exact L37 _ 0 (stI h 38 10 (nI H)).1 h.2.2.1 rfl (by omega) (fun a k ha => by show hpI (stI _ _ _ _) _ _ = _; rw [hpI_st, if_neg (by omega)]) rfl
    · skip
      refine v_aload_n hX rfl qX12_drowned_17 ?_
      refine v_callVq hX hR k_X12_329 (hm.kd 38 rfl) (m_drownedNow (by exact hc)) rfl (Nat.le_of_ble_eq_true rfl) rfl (Nat.le_of_ble_eq_true rfl) ⟨Nat.le_of_ble_eq_true rfl, Nat.le_of_ble_eq_true rfl⟩ qX12_drowned_18 ?_
      rintro _ _ ⟨rfl, σ, J, rfl, hf⟩
      refine v_ireturn hX qX12_drowned_21 (hP _ _ ?_)
      rw [drownedI, if_pos q14]
      exact ⟨rfl, σ, J, rfl, hc.fr hf, hf.k⟩
  · skip
    refine v_bipush hX lb_n2 qX12_drowned_10 ?_
    refine v_ireturn hX qX12_drowned_12 (hP _ _ ?_)
    rw [drownedI, if_neg (fun z => q7 (by rw [z]; decide)), if_neg (fun z => q7 (by rw [z]; decide))]
    exact ⟨rfl, h.1, h.2.2.1, rfl, hc, fun a _ => rfl⟩
