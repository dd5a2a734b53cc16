/-! the tokens of the class all; its text read -/
def FrTk (h : AHp) (σ : Nat → Nat → Int32) : Prop := ∀ a k, ¬ (13 ≤ a ∧ a ≤ 15) → ¬ (a = 11 ∧ k = 6) → σ a k = hpI h a k
/-- m tokens lie there -/
def TkP (by' : Nat → Int32) (sz : Nat) (h : AHp) (σ : Nat → Nat → Int32) (m : Nat) : Prop := FrTk h σ ∧ σ 11 6 = nI m ∧ ∀ j, j < m → σ 13 j = tkK by' sz j ∧ σ 14 j = tkW by' sz j ∧ σ 15 j = nI (pl by' sz j)
section TKP
variable {by' : Nat → Int32} {sz : Nat} {h : AHp} {σ : Nat → Nat → Int32} {m p : Nat}
theorem TkP.b (ht : TkP by' sz h σ m) (hb : TpB by' sz h) : TpB by' sz (σ, h.2) := ⟨(ht.1 11 1 (by omega) (by omega)).trans hb.1, hb.2.1, fun k hk => (ht.1 12 k (by omega) (by omega)).trans (hb.2.2 k hk)⟩
theorem TkP.add (ht : TkP by' sz h σ m) (hp : pl by' sz m = p) : TkP by' sz h (tokH (σ, h.2) m p (tK by' sz p)).1 (m + 1) := by
  obtain ⟨h1, h2, h3⟩ := ht
  have a3 : ∀ j, (tokH (σ, h.2) m p (tK by' sz p)).1 13 j = if j = m then (tK by' sz p).1 else σ 13 j := fun j => by
    show hpI (stI (stI (stI (stI _ _ _ _) _ _ _) _ _ _) _ _ _) _ _ = _
    rw [hpI_st, if_neg (by omega), hpI_st, if_neg (by omega), hpI_st, if_neg (by omega), hpI_st]
    by_cases e : j = m
    · rw [if_pos ⟨rfl, e⟩, if_pos e]
    · rw [if_neg (fun z => e z.2), if_neg e]; rfl
  have a4 : ∀ j, (tokH (σ, h.2) m p (tK by' sz p)).1 14 j = if j = m then (tK by' sz p).2 else σ 14 j := fun j => by
    show hpI (stI (stI (stI (stI _ _ _ _) _ _ _) _ _ _) _ _ _) _ _ = _
    rw [hpI_st, if_neg (by omega), hpI_st, if_neg (by omega), hpI_st]
    by_cases e : j = m
    · rw [if_pos ⟨rfl, e⟩, if_pos e]
    · rw [if_neg (fun z => e z.2), if_neg e, hpI_st, if_neg (by omega)]; rfl
  have a5 : ∀ j, (tokH (σ, h.2) m p (tK by' sz p)).1 15 j = if j = m then nI p else σ 15 j := fun j => by
    show hpI (stI (stI (stI (stI _ _ _ _) _ _ _) _ _ _) _ _ _) _ _ = _
    rw [hpI_st, if_neg (by omega), hpI_st]
    by_cases e : j = m
    · rw [if_pos ⟨rfl, e⟩, if_pos e]
    · rw [if_neg (fun z => e z.2), if_neg e, hpI_st, if_neg (by omega), hpI_st, if_neg (by omega)]; rfl
  refine ⟨fun a k a1 a2 => ?_, rfl, fun j hj => ?_⟩
  · show hpI (stI (stI (stI (stI _ _ _ _) _ _ _) _ _ _) _ _ _) _ _ = _
    rw [hpI_st, if_neg (by omega), hpI_st, if_neg (by omega), hpI_st, if_neg (by omega), hpI_st, if_neg (by omega)]
    exact h1 a k a1 a2
  · rw [a3, a4, a5]
    by_cases e : j = m
    · subst e
      rw [if_pos rfl, if_pos rfl, if_pos rfl, ← hp]
      exact ⟨rfl, rfl, rfl⟩
    · rw [if_neg e, if_neg e, if_neg e]
      exact h3 j (by omega)
theorem skp_nb (h : isBl (btA by' sz p) = false) : skp by' sz p = p := (skp_is p).uniq ⟨Nat.le_refl _, fun k h1 h2 => absurd h2 (by omega), h⟩
theorem skp_bl (h : isBl (btA by' sz p) = true) : skp by' sz (p + 1) = skp by' sz p := by
  obtain ⟨h1, h2, h3⟩ := skp_is (by' := by') (sz := sz) (p + 1)
  refine ((skp_is p).uniq ⟨by omega, fun k g1 g2 => ?_, h3⟩).symm
  by_cases e : k = p
  · rw [e]; exact h
  · exact h2 k (by omega) g2
theorem lt_nb {b : Int32} (h : ltB b = true) : isBl b = false := decide_eq_false fun z => by
  have h := of_decide_eq_true h
  rcases z with rfl | rfl
  · exact absurd h.1 (by decide)
  · exact absurd h.1 (by decide)
theorem dg_nb {b : Int32} (h : dgB b = true) : isBl b = false := decide_eq_false fun z => by
  have h := of_decide_eq_true h
  rcases z with rfl | rfl
  · exact absurd h.1 (by decide)
  · exact absurd h.1 (by decide)
theorem nT_of (hlt : ∀ j, j < m → pl by' sz j < sz) (hm : pl by' sz m = sz) (hms : m ≤ sz) : nT by' sz = m := by
  by_cases e : m < sz
  · exact fc_hit (decide_eq_true (by omega)) sz 0 (Nat.zero_le _) (by omega) (fun j _ hj => decide_eq_false (by have := hlt j hj; omega))
  · have : m = sz := by omega
    subst this
    exact (fc_no m 0 (fun j _ hj => decide_eq_false (by have := hlt j (by omega); omega))).trans (by omega)
theorem TkP.done (ht : TkP by' sz h σ m) (hb : TpB by' sz h) (hlt : ∀ j, j < m → pl by' sz j < sz) (hm : pl by' sz m = sz) (hms : m ≤ sz) : TkC (tkK by' sz) (tkW by' sz) (pl by' sz) (nT by' sz) sz (σ, h.2) := by
  have e := nT_of hlt hm hms
  rw [e]
  exact ⟨ht.2.1, Nat.le_trans hms hb.2.1, (ht.1 11 1 (by omega) (by omega)).trans hb.1, ht.2.2, fun i hi => ⟨tkK_0 (by omega), pl_sz (by omega)⟩⟩
end TKP
theorem qX10_splitTokens_0 : Dq cX10_splitTokens 0 (.aload_n 0) 1 1 := ⟨by decide +kernel, rfl⟩
theorem qX10_splitTokens_1 : Dq cX10_splitTokens 1 (.iconst 0) 1 2 := ⟨by decide +kernel, rfl⟩
theorem qX10_splitTokens_2 : Dq cX10_splitTokens 2 (.putfield 113) 3 5 := ⟨by decide +kernel, rfl⟩
theorem qX10_splitTokens_5 : Dq cX10_splitTokens 5 (.iconst 0) 1 6 := ⟨by decide +kernel, rfl⟩
theorem qX10_splitTokens_6 : Dq cX10_splitTokens 6 (.istore_n 1) 1 7 := ⟨by decide +kernel, rfl⟩
theorem qX10_splitTokens_7 : Dq cX10_splitTokens 7 (.iconst 0) 1 8 := ⟨by decide +kernel, rfl⟩
theorem qX10_splitTokens_8 : Dq cX10_splitTokens 8 (.istore_n 2) 1 9 := ⟨by decide +kernel, rfl⟩
theorem qX10_splitTokens_9 : Dq cX10_splitTokens 9 (.iload_n 2) 1 10 := ⟨by decide +kernel, rfl⟩
theorem qX10_splitTokens_10 : Dq cX10_splitTokens 10 (.sipush 160) 3 13 := ⟨by decide +kernel, rfl⟩
theorem qX10_splitTokens_13 : Dq cX10_splitTokens 13 (.if_icmp .ge 109) 3 16 := ⟨by decide +kernel, rfl⟩
theorem qX10_splitTokens_16 : Dq cX10_splitTokens 16 (.iload_n 1) 1 17 := ⟨by decide +kernel, rfl⟩
theorem qX10_splitTokens_17 : Dq cX10_splitTokens 17 (.aload_n 0) 1 18 := ⟨by decide +kernel, rfl⟩
theorem qX10_splitTokens_18 : Dq cX10_splitTokens 18 (.getfield 27) 3 21 := ⟨by decide +kernel, rfl⟩
theorem qX10_splitTokens_21 : Dq cX10_splitTokens 21 (.if_icmp .ge 101) 3 24 := ⟨by decide +kernel, rfl⟩
theorem qX10_splitTokens_24 : Dq cX10_splitTokens 24 (.aload_n 0) 1 25 := ⟨by decide +kernel, rfl⟩
theorem qX10_splitTokens_25 : Dq cX10_splitTokens 25 (.iload_n 1) 1 26 := ⟨by decide +kernel, rfl⟩
theorem qX10_splitTokens_26 : Dq cX10_splitTokens 26 (.invokevirtual 116) 3 29 := ⟨by decide +kernel, rfl⟩
theorem qX10_splitTokens_29 : Dq cX10_splitTokens 29 (.istore_n 3) 1 30 := ⟨by decide +kernel, rfl⟩
theorem qX10_splitTokens_30 : Dq cX10_splitTokens 30 (.iload_n 1) 1 31 := ⟨by decide +kernel, rfl⟩
theorem qX10_splitTokens_31 : Dq cX10_splitTokens 31 (.iconst 1) 1 32 := ⟨by decide +kernel, rfl⟩
theorem qX10_splitTokens_32 : Dq cX10_splitTokens 32 (.iadd) 1 33 := ⟨by decide +kernel, rfl⟩
theorem qX10_splitTokens_33 : Dq cX10_splitTokens 33 (.istore 4) 2 35 := ⟨by decide +kernel, rfl⟩
theorem qX10_splitTokens_35 : Dq cX10_splitTokens 35 (.iload_n 3) 1 36 := ⟨by decide +kernel, rfl⟩
theorem qX10_splitTokens_36 : Dq cX10_splitTokens 36 (.invokestatic 120) 3 39 := ⟨by decide +kernel, rfl⟩
theorem qX10_splitTokens_39 : Dq cX10_splitTokens 39 (.ifCond .eq 20) 3 42 := ⟨by decide +kernel, rfl⟩
theorem qX10_splitTokens_42 : Dq cX10_splitTokens 42 (.aload_n 0) 1 43 := ⟨by decide +kernel, rfl⟩
theorem qX10_splitTokens_43 : Dq cX10_splitTokens 43 (.iload_n 1) 1 44 := ⟨by decide +kernel, rfl⟩
theorem qX10_splitTokens_44 : Dq cX10_splitTokens 44 (.invokevirtual 123) 3 47 := ⟨by decide +kernel, rfl⟩
theorem qX10_splitTokens_47 : Dq cX10_splitTokens 47 (.istore 4) 2 49 := ⟨by decide +kernel, rfl⟩
theorem qX10_splitTokens_49 : Dq cX10_splitTokens 49 (.aload_n 0) 1 50 := ⟨by decide +kernel, rfl⟩
theorem qX10_splitTokens_50 : Dq cX10_splitTokens 50 (.iload_n 1) 1 51 := ⟨by decide +kernel, rfl⟩
theorem qX10_splitTokens_51 : Dq cX10_splitTokens 51 (.iload 4) 2 53 := ⟨by decide +kernel, rfl⟩
theorem qX10_splitTokens_53 : Dq cX10_splitTokens 53 (.invokevirtual 126) 3 56 := ⟨by decide +kernel, rfl⟩
theorem qX10_splitTokens_56 : Dq cX10_splitTokens 56 (.goto 57) 3 59 := ⟨by decide +kernel, rfl⟩
theorem qX10_splitTokens_59 : Dq cX10_splitTokens 59 (.iload_n 3) 1 60 := ⟨by decide +kernel, rfl⟩
theorem qX10_splitTokens_60 : Dq cX10_splitTokens 60 (.invokestatic 130) 3 63 := ⟨by decide +kernel, rfl⟩
theorem qX10_splitTokens_63 : Dq cX10_splitTokens 63 (.ifCond .eq 20) 3 66 := ⟨by decide +kernel, rfl⟩
theorem qX10_splitTokens_66 : Dq cX10_splitTokens 66 (.aload_n 0) 1 67 := ⟨by decide +kernel, rfl⟩
theorem qX10_splitTokens_67 : Dq cX10_splitTokens 67 (.iload_n 1) 1 68 := ⟨by decide +kernel, rfl⟩
theorem qX10_splitTokens_68 : Dq cX10_splitTokens 68 (.invokevirtual 133) 3 71 := ⟨by decide +kernel, rfl⟩
theorem qX10_splitTokens_71 : Dq cX10_splitTokens 71 (.istore 4) 2 73 := ⟨by decide +kernel, rfl⟩
theorem qX10_splitTokens_73 : Dq cX10_splitTokens 73 (.aload_n 0) 1 74 := ⟨by decide +kernel, rfl⟩
theorem qX10_splitTokens_74 : Dq cX10_splitTokens 74 (.iload_n 1) 1 75 := ⟨by decide +kernel, rfl⟩
theorem qX10_splitTokens_75 : Dq cX10_splitTokens 75 (.iload 4) 2 77 := ⟨by decide +kernel, rfl⟩
theorem qX10_splitTokens_77 : Dq cX10_splitTokens 77 (.invokevirtual 136) 3 80 := ⟨by decide +kernel, rfl⟩
theorem qX10_splitTokens_80 : Dq cX10_splitTokens 80 (.goto 33) 3 83 := ⟨by decide +kernel, rfl⟩
theorem qX10_splitTokens_83 : Dq cX10_splitTokens 83 (.iload_n 3) 1 84 := ⟨by decide +kernel, rfl⟩
theorem qX10_splitTokens_84 : Dq cX10_splitTokens 84 (.bipush 32) 2 86 := ⟨by decide +kernel, rfl⟩
theorem qX10_splitTokens_86 : Dq cX10_splitTokens 86 (.if_icmp .eq 27) 3 89 := ⟨by decide +kernel, rfl⟩
theorem qX10_splitTokens_89 : Dq cX10_splitTokens 89 (.iload_n 3) 1 90 := ⟨by decide +kernel, rfl⟩
theorem qX10_splitTokens_90 : Dq cX10_splitTokens 90 (.bipush 10) 2 92 := ⟨by decide +kernel, rfl⟩
theorem qX10_splitTokens_92 : Dq cX10_splitTokens 92 (.if_icmp .eq 21) 3 95 := ⟨by decide +kernel, rfl⟩
theorem qX10_splitTokens_95 : Dq cX10_splitTokens 95 (.aload_n 0) 1 96 := ⟨by decide +kernel, rfl⟩
theorem qX10_splitTokens_96 : Dq cX10_splitTokens 96 (.iload_n 3) 1 97 := ⟨by decide +kernel, rfl⟩
theorem qX10_splitTokens_97 : Dq cX10_splitTokens 97 (.invokestatic 139) 3 100 := ⟨by decide +kernel, rfl⟩
theorem qX10_splitTokens_100 : Dq cX10_splitTokens 100 (.ifCond .eq 7) 3 103 := ⟨by decide +kernel, rfl⟩
theorem qX10_splitTokens_103 : Dq cX10_splitTokens 103 (.iload_n 3) 1 104 := ⟨by decide +kernel, rfl⟩
theorem qX10_splitTokens_104 : Dq cX10_splitTokens 104 (.goto 4) 3 107 := ⟨by decide +kernel, rfl⟩
theorem qX10_splitTokens_107 : Dq cX10_splitTokens 107 (.iconst 1) 1 108 := ⟨by decide +kernel, rfl⟩
theorem qX10_splitTokens_108 : Dq cX10_splitTokens 108 (.iconst 0) 1 109 := ⟨by decide +kernel, rfl⟩
theorem qX10_splitTokens_109 : Dq cX10_splitTokens 109 (.iload_n 1) 1 110 := ⟨by decide +kernel, rfl⟩
theorem qX10_splitTokens_110 : Dq cX10_splitTokens 110 (.invokevirtual 142) 3 113 := ⟨by decide +kernel, rfl⟩
theorem qX10_splitTokens_113 : Dq cX10_splitTokens 113 (.iload 4) 2 115 := ⟨by decide +kernel, rfl⟩
theorem qX10_splitTokens_115 : Dq cX10_splitTokens 115 (.istore_n 1) 1 116 := ⟨by decide +kernel, rfl⟩
theorem qX10_splitTokens_116 : Dq cX10_splitTokens 116 (.iinc 2 1) 3 119 := ⟨by decide +kernel, rfl⟩
theorem qX10_splitTokens_119 : Dq cX10_splitTokens 119 (.goto (-110)) 3 122 := ⟨by decide +kernel, rfl⟩
theorem qX10_splitTokens_122 : Dq cX10_splitTokens 122 (.return_) 1 123 := ⟨by decide +kernel, rfl⟩
set_option maxRecDepth 100000 in
set_option maxHeartbeats 4000000 in
theorem c_splitTokens {G : Glb} {h : AHp} (hs : ShC h) {by' : Nat → Int32} {sz : Nat} (hb : TpB by' sz h) (hG : HST G) : CP G m_X10_splitTokens 8 0 0 [.ref 11] h (fun r h' => r = none ∧ ∃ σ, h' = (σ, h.2) ∧ FrTk h σ ∧ TkC (tkK by' sz) (tkW by' sz) (pl by' sz) (nT by' sz) sz (σ, h.2)) := by
  suffices key : ∀ P : Option Value → AHp → Prop, (∀ r h', (r = none ∧ ∃ σ, h' = (σ, h.2) ∧ FrTk h σ ∧ TkC (tkK by' sz) (tkW by' sz) (pl by' sz) (nT by' sz) sz (σ, h.2)) → P r h') → CP G m_X10_splitTokens 8 0 0 [.ref 11] h P from key _ (fun _ _ z => z)
  intro P hP
  refine CP.of (by decide +kernel) (Nat.le_of_ble_eq_true rfl) fun X hX hR hnm => ?_
  show V X G 5 0 0 _ 0 [some (.ref 11), none, none, none, none] [] h
  have hs160 := hb.2.1
  refine v_aload_n hX rfl qX10_splitTokens_0 ?_
  refine v_iconst hX li_0 qX10_splitTokens_1 ?_
  refine v_putI hX p_X10_113 (hs.kd 11 rfl) (Or.inl rfl) qX10_splitTokens_2 ?_
  refine v_iconst hX li_0 qX10_splitTokens_5 ?_
  refine v_istore_n hX (Nat.le_of_ble_eq_true rfl) rfl (ls' := [some _, some _, none, none, none]) rfl qX10_splitTokens_6 ?_
  refine v_iconst hX li_0 qX10_splitTokens_7 ?_
  refine v_istore_n hX (Nat.le_of_ble_eq_true rfl) rfl (ls' := [some _, some _, some _, none, none]) rfl qX10_splitTokens_8 ?_
  have L9 : ∀ (mz : Nat) (i q m : Nat) (σ : Nat → Nat → Int32), sz - q = mz → (i ≤ q) → (q ≤ sz) → (TkP by' sz h σ m) → (∀ j, j < m → pl by' sz j < sz) → (skp by' sz q = pl by' sz m) → (m ≤ q) → V X G 5 0 0 (QM X G P 0 0) 9 [some (.ref 11), some (.int (nI q)), some (.int (nI i)), none, none] [] (σ, h.2) := by
    intro mz
    induction mz using Nat.strongRecOn with
    | _ mz ih =>
    intro i q m σ hmz hi hq hTk hlt hsk hmq
    have hbq := hTk.b hb
    refine v_iload_n hX rfl qX10_splitTokens_9 ?_
    refine v_sipush hX ls_160 qX10_splitTokens_10 ?_
    refine v_icmp_geS hX 122 qX10_splitTokens_13 rfl (fun q13 => ?_) (fun q13 => ?_)
    · have hqe : q = sz := by have := nI_le' (i := 160) (s := i) (by omega) (by omega) q13; omega
      refine v_return hX qX10_splitTokens_122 (hP _ _ ?_)
      subst hqe
      have hpm : pl by' q m = q := by rw [← hsk]; exact skp_nb (isBl_no _ (Nat.le_refl _))
      exact ⟨rfl, σ, rfl, hTk.1, hTk.done hb hlt hpm hmq⟩
    · skip
      refine v_iload_n hX rfl qX10_splitTokens_16 ?_
      refine v_aload_n hX rfl qX10_splitTokens_17 ?_
      refine v_getIv hX g_X10_27 (Or.inl rfl) (hs.kd 11 rfl) (show _ = nI sz from hbq.1) qX10_splitTokens_18 ?_
      refine v_icmp_geS hX 122 qX10_splitTokens_21 rfl (fun q21 => ?_) (fun q21 => ?_)
      · have hqe : q = sz := by have := nI_le' (i := sz) (s := q) (by omega) (by omega) q21; omega
        refine v_return hX qX10_splitTokens_122 (hP _ _ ?_)
        subst hqe
        have hpm : pl by' q m = q := by rw [← hsk]; exact skp_nb (isBl_no _ (Nat.le_refl _))
        exact ⟨rfl, σ, rfl, hTk.1, hTk.done hb hlt hpm hmq⟩
      · have hqs := nI_lt' (i := q) (s := sz) (by omega) (by omega) q21
        have hm160 : m < 160 := by omega
        refine v_aload_n hX rfl qX10_splitTokens_24 ?_
        refine v_iload_n hX rfl qX10_splitTokens_25 ?_
        refine v_callVq hX hR k_X10_116 (hs.kd 11 rfl) (c_byteAt (h := (σ, h.2)) (by exact hs) (by exact hbq) (i := q) (by omega)) rfl (Nat.le_of_ble_eq_true rfl) rfl (Nat.le_of_ble_eq_true rfl) ⟨Nat.le_of_ble_eq_true rfl, Nat.le_of_ble_eq_true rfl⟩ qX10_splitTokens_26 ?_
        rintro _ _ ⟨rfl, rfl⟩
        refine v_istore_n hX (Nat.le_of_ble_eq_true rfl) rfl (ls' := [some _, some _, some _, some _, none]) rfl qX10_splitTokens_29 ?_
        refine v_iload_n hX rfl qX10_splitTokens_30 ?_
        refine v_iconst hX li_1 qX10_splitTokens_31 ?_
        refine v_iadd hX qX10_splitTokens_32 ?_
        refine v_eqI (nI_1 q) ?_
        refine v_istore hX (Nat.le_of_ble_eq_true rfl) rfl (ls' := [some _, some _, some _, some _, some _]) rfl qX10_splitTokens_33 ?_
        refine v_iload_n hX rfl qX10_splitTokens_35 ?_
        refine v_callSq hX hR k_X10_120 (c_isLetter _) rfl (Nat.le_of_ble_eq_true rfl) rfl (Nat.le_of_ble_eq_true rfl) ⟨Nat.le_of_ble_eq_true rfl, Nat.le_of_ble_eq_true rfl⟩ qX10_splitTokens_36 ?_
        rintro _ _ ⟨rfl, rfl⟩
        first | refine v_if_eqB hX 59 qX10_splitTokens_39 rfl (fun q39 => ?_) (fun q39 => ?_) | refine v_if_eq hX 59 qX10_splitTokens_39 rfl (fun q39 => ?_) (fun q39 => ?_)
        · skip
          refine v_iload_n hX rfl qX10_splitTokens_59 ?_
          refine v_callSq hX hR k_X10_130 (c_isDigit _) rfl (Nat.le_of_ble_eq_true rfl) rfl (Nat.le_of_ble_eq_true rfl) ⟨Nat.le_of_ble_eq_true rfl, Nat.le_of_ble_eq_true rfl⟩ qX10_splitTokens_60 ?_
          rintro _ _ ⟨rfl, rfl⟩
          first | refine v_if_eqB hX 83 qX10_splitTokens_63 rfl (fun q63 => ?_) (fun q63 => ?_) | refine v_if_eq hX 83 qX10_splitTokens_63 rfl (fun q63 => ?_) (fun q63 => ?_)
          · skip
            refine v_iload_n hX rfl qX10_splitTokens_83 ?_
            refine v_bipush hX lb_32 qX10_splitTokens_84 ?_
            refine v_icmp_eq hX 113 qX10_splitTokens_86 rfl (fun q86 => ?_) (fun q86 => ?_)
            · skip
              refine v_iload hX rfl qX10_splitTokens_113 ?_
              refine v_istore_n hX (Nat.le_of_ble_eq_true rfl) rfl (ls' := [some _, some _, some _, some _, some _]) rfl qX10_splitTokens_115 ?_
              refine v_iinc hX rfl (by first | exact ii_nI _ | exact ii_1 _) (Nat.le_of_ble_eq_true rfl) rfl (ls' := [some _, some _, some _, some _, some _]) rfl qX10_splitTokens_116 ?_
              refine v_goto hX 9 qX10_splitTokens_119 rfl ?_
              refine v_forget (ls' := [_, _, _, none, none]) ⟨Or.inr rfl, Or.inr rfl, Or.inr rfl, Or.inl rfl, Or.inl rfl, trivial⟩ ?_
              first
              | (have hte : tEnd by' sz q = wnd by' sz q := if_pos q39
                 have hplm : pl by' sz m = q := by rw [← hsk]; exact skp_nb (lt_nb q39)
                 have hgt := tEnd_gt (by' := by') (sz := sz) q
                 have hle := tEnd_le (by' := by') hqs
                 exact ih _ (by omega) (i + 1) (wnd by' sz q) (m + 1) (tokH (σ, h.2) m q (tK by' sz q)).1 rfl (by omega) (by omega) (hTk.add hplm) (fun j hj => by
                   by_cases e : j = m
                   · subst e; omega
                   · exact hlt j (by omega)) (by rw [pl_next (by omega), hplm, hte]) (by omega))
              | (have hte : tEnd by' sz q = nnd by' sz q := by unfold tEnd; rw [if_neg q39, if_pos q63]
                 have hplm : pl by' sz m = q := by rw [← hsk]; exact skp_nb (dg_nb q63)
                 have hgt := tEnd_gt (by' := by') (sz := sz) q
                 have hle := tEnd_le (by' := by') hqs
                 exact ih _ (by omega) (i + 1) (nnd by' sz q) (m + 1) (tokH (σ, h.2) m q (tK by' sz q)).1 rfl (by omega) (by omega) (hTk.add hplm) (fun j hj => by
                   by_cases e : j = m
                   · subst e; omega
                   · exact hlt j (by omega)) (by rw [pl_next (by omega), hplm, hte]) (by omega))
              | (have hbl : isBl (btA by' sz q) = true := decide_eq_true (by first | exact Or.inl q86 | exact Or.inr q92)
                 exact ih _ (by omega) (i + 1) (q + 1) m σ rfl (by omega) (by omega) hTk hlt ((skp_bl hbl).trans hsk) (by omega))
              | (have hte : tEnd by' sz q = q + 1 := by unfold tEnd; rw [if_neg q39, if_neg q63]
                 have hplm : pl by' sz m = q := by rw [← hsk]; exact skp_nb (decide_eq_false (fun z => z.elim q86 q92))
                 rw [← etk]
                 exact ih _ (by omega) (i + 1) (q + 1) (m + 1) (tokH (σ, h.2) m q (tK by' sz q)).1 rfl (by omega) (by omega) (hTk.add hplm) (fun j hj => by
                   by_cases e : j = m
                   · subst e; omega
                   · exact hlt j (by omega)) (by rw [pl_next (by omega), hplm, hte]) (by omega))
            · skip
              refine v_iload_n hX rfl qX10_splitTokens_89 ?_
              refine v_bipush hX lb_10 qX10_splitTokens_90 ?_
              refine v_icmp_eq hX 113 qX10_splitTokens_92 rfl (fun q92 => ?_) (fun q92 => ?_)
              · skip
                refine v_iload hX rfl qX10_splitTokens_113 ?_
                refine v_istore_n hX (Nat.le_of_ble_eq_true rfl) rfl (ls' := [some _, some _, some _, some _, some _]) rfl qX10_splitTokens_115 ?_
                refine v_iinc hX rfl (by first | exact ii_nI _ | exact ii_1 _) (Nat.le_of_ble_eq_true rfl) rfl (ls' := [some _, some _, some _, some _, some _]) rfl qX10_splitTokens_116 ?_
                refine v_goto hX 9 qX10_splitTokens_119 rfl ?_
                refine v_forget (ls' := [_, _, _, none, none]) ⟨Or.inr rfl, Or.inr rfl, Or.inr rfl, Or.inl rfl, Or.inl rfl, trivial⟩ ?_
                first
                | (have hte : tEnd by' sz q = wnd by' sz q := if_pos q39
                   have hplm : pl by' sz m = q := by rw [← hsk]; exact skp_nb (lt_nb q39)
                   have hgt := tEnd_gt (by' := by') (sz := sz) q
                   have hle := tEnd_le (by' := by') hqs
                   exact ih _ (by omega) (i + 1) (wnd by' sz q) (m + 1) (tokH (σ, h.2) m q (tK by' sz q)).1 rfl (by omega) (by omega) (hTk.add hplm) (fun j hj => by
                     by_cases e : j = m
                     · subst e; omega
                     · exact hlt j (by omega)) (by rw [pl_next (by omega), hplm, hte]) (by omega))
                | (have hte : tEnd by' sz q = nnd by' sz q := by unfold tEnd; rw [if_neg q39, if_pos q63]
                   have hplm : pl by' sz m = q := by rw [← hsk]; exact skp_nb (dg_nb q63)
                   have hgt := tEnd_gt (by' := by') (sz := sz) q
                   have hle := tEnd_le (by' := by') hqs
                   exact ih _ (by omega) (i + 1) (nnd by' sz q) (m + 1) (tokH (σ, h.2) m q (tK by' sz q)).1 rfl (by omega) (by omega) (hTk.add hplm) (fun j hj => by
                     by_cases e : j = m
                     · subst e; omega
                     · exact hlt j (by omega)) (by rw [pl_next (by omega), hplm, hte]) (by omega))
                | (have hbl : isBl (btA by' sz q) = true := decide_eq_true (by first | exact Or.inl q86 | exact Or.inr q92)
                   exact ih _ (by omega) (i + 1) (q + 1) m σ rfl (by omega) (by omega) hTk hlt ((skp_bl hbl).trans hsk) (by omega))
                | (have hte : tEnd by' sz q = q + 1 := by unfold tEnd; rw [if_neg q39, if_neg q63]
                   have hplm : pl by' sz m = q := by rw [← hsk]; exact skp_nb (decide_eq_false (fun z => z.elim q86 q92))
                   rw [← etk]
                   exact ih _ (by omega) (i + 1) (q + 1) (m + 1) (tokH (σ, h.2) m q (tK by' sz q)).1 rfl (by omega) (by omega) (hTk.add hplm) (fun j hj => by
                     by_cases e : j = m
                     · subst e; omega
                     · exact hlt j (by omega)) (by rw [pl_next (by omega), hplm, hte]) (by omega))
              · skip
                refine v_aload_n hX rfl qX10_splitTokens_95 ?_
                refine v_iload_n hX rfl qX10_splitTokens_96 ?_
                refine v_callSq hX hR k_X10_139 (c_isSign _) rfl (Nat.le_of_ble_eq_true rfl) rfl (Nat.le_of_ble_eq_true rfl) ⟨Nat.le_of_ble_eq_true rfl, Nat.le_of_ble_eq_true rfl⟩ qX10_splitTokens_97 ?_
                rintro _ _ ⟨rfl, rfl⟩
                first | refine v_if_eqB hX 107 qX10_splitTokens_100 rfl (fun q100 => ?_) (fun q100 => ?_) | refine v_if_eq hX 107 qX10_splitTokens_100 rfl (fun q100 => ?_) (fun q100 => ?_)
                · have etk : tK by' sz q = (1, 0) := by unfold tK; rw [if_neg (by omega), if_neg q39, if_neg q63, if_neg q100]
                  refine v_iconst hX li_1 qX10_splitTokens_107 ?_
                  refine v_iconst hX li_0 qX10_splitTokens_108 ?_
                  refine v_iload_n hX rfl qX10_splitTokens_109 ?_
                  refine v_callVq hX hR k_X10_142 (hs.kd 11 rfl) (c_addToken (h := (σ, h.2)) (by exact hs) (by exact hm160) (by exact hTk.2.1) _ _) rfl (Nat.le_of_ble_eq_true rfl) rfl (Nat.le_of_ble_eq_true rfl) ⟨Nat.le_of_ble_eq_true rfl, Nat.le_of_ble_eq_true rfl⟩ qX10_splitTokens_110 ?_
                  rintro _ _ ⟨rfl, rfl⟩
                  refine v_iload hX rfl qX10_splitTokens_113 ?_
                  refine v_istore_n hX (Nat.le_of_ble_eq_true rfl) rfl (ls' := [some _, some _, some _, some _, some _]) rfl qX10_splitTokens_115 ?_
                  refine v_iinc hX rfl (by first | exact ii_nI _ | exact ii_1 _) (Nat.le_of_ble_eq_true rfl) rfl (ls' := [some _, some _, some _, some _, some _]) rfl qX10_splitTokens_116 ?_
                  refine v_goto hX 9 qX10_splitTokens_119 rfl ?_
                  refine v_forget (ls' := [_, _, _, none, none]) ⟨Or.inr rfl, Or.inr rfl, Or.inr rfl, Or.inl rfl, Or.inl rfl, trivial⟩ ?_
                  first
                  | (have hte : tEnd by' sz q = wnd by' sz q := if_pos q39
                     have hplm : pl by' sz m = q := by rw [← hsk]; exact skp_nb (lt_nb q39)
                     have hgt := tEnd_gt (by' := by') (sz := sz) q
                     have hle := tEnd_le (by' := by') hqs
                     exact ih _ (by omega) (i + 1) (wnd by' sz q) (m + 1) (tokH (σ, h.2) m q (tK by' sz q)).1 rfl (by omega) (by omega) (hTk.add hplm) (fun j hj => by
                       by_cases e : j = m
                       · subst e; omega
                       · exact hlt j (by omega)) (by rw [pl_next (by omega), hplm, hte]) (by omega))
                  | (have hte : tEnd by' sz q = nnd by' sz q := by unfold tEnd; rw [if_neg q39, if_pos q63]
                     have hplm : pl by' sz m = q := by rw [← hsk]; exact skp_nb (dg_nb q63)
                     have hgt := tEnd_gt (by' := by') (sz := sz) q
                     have hle := tEnd_le (by' := by') hqs
                     exact ih _ (by omega) (i + 1) (nnd by' sz q) (m + 1) (tokH (σ, h.2) m q (tK by' sz q)).1 rfl (by omega) (by omega) (hTk.add hplm) (fun j hj => by
                       by_cases e : j = m
                       · subst e; omega
                       · exact hlt j (by omega)) (by rw [pl_next (by omega), hplm, hte]) (by omega))
                  | (have hbl : isBl (btA by' sz q) = true := decide_eq_true (by first | exact Or.inl q86 | exact Or.inr q92)
                     exact ih _ (by omega) (i + 1) (q + 1) m σ rfl (by omega) (by omega) hTk hlt ((skp_bl hbl).trans hsk) (by omega))
                  | (have hte : tEnd by' sz q = q + 1 := by unfold tEnd; rw [if_neg q39, if_neg q63]
                     have hplm : pl by' sz m = q := by rw [← hsk]; exact skp_nb (decide_eq_false (fun z => z.elim q86 q92))
                     rw [← etk]
                     exact ih _ (by omega) (i + 1) (q + 1) (m + 1) (tokH (σ, h.2) m q (tK by' sz q)).1 rfl (by omega) (by omega) (hTk.add hplm) (fun j hj => by
                       by_cases e : j = m
                       · subst e; omega
                       · exact hlt j (by omega)) (by rw [pl_next (by omega), hplm, hte]) (by omega))
                · have etk : tK by' sz q = (btA by' sz q, 0) := by unfold tK; rw [if_neg (by omega), if_neg q39, if_neg q63, if_pos q100]
                  refine v_iload_n hX rfl qX10_splitTokens_103 ?_
                  refine v_goto hX 108 qX10_splitTokens_104 rfl ?_
                  refine v_iconst hX li_0 qX10_splitTokens_108 ?_
                  refine v_iload_n hX rfl qX10_splitTokens_109 ?_
                  refine v_callVq hX hR k_X10_142 (hs.kd 11 rfl) (c_addToken (h := (σ, h.2)) (by exact hs) (by exact hm160) (by exact hTk.2.1) _ _) rfl (Nat.le_of_ble_eq_true rfl) rfl (Nat.le_of_ble_eq_true rfl) ⟨Nat.le_of_ble_eq_true rfl, Nat.le_of_ble_eq_true rfl⟩ qX10_splitTokens_110 ?_
                  rintro _ _ ⟨rfl, rfl⟩
                  refine v_iload hX rfl qX10_splitTokens_113 ?_
                  refine v_istore_n hX (Nat.le_of_ble_eq_true rfl) rfl (ls' := [some _, some _, some _, some _, some _]) rfl qX10_splitTokens_115 ?_
                  refine v_iinc hX rfl (by first | exact ii_nI _ | exact ii_1 _) (Nat.le_of_ble_eq_true rfl) rfl (ls' := [some _, some _, some _, some _, some _]) rfl qX10_splitTokens_116 ?_
                  refine v_goto hX 9 qX10_splitTokens_119 rfl ?_
                  refine v_forget (ls' := [_, _, _, none, none]) ⟨Or.inr rfl, Or.inr rfl, Or.inr rfl, Or.inl rfl, Or.inl rfl, trivial⟩ ?_
                  first
                  | (have hte : tEnd by' sz q = wnd by' sz q := if_pos q39
                     have hplm : pl by' sz m = q := by rw [← hsk]; exact skp_nb (lt_nb q39)
                     have hgt := tEnd_gt (by' := by') (sz := sz) q
                     have hle := tEnd_le (by' := by') hqs
                     exact ih _ (by omega) (i + 1) (wnd by' sz q) (m + 1) (tokH (σ, h.2) m q (tK by' sz q)).1 rfl (by omega) (by omega) (hTk.add hplm) (fun j hj => by
                       by_cases e : j = m
                       · subst e; omega
                       · exact hlt j (by omega)) (by rw [pl_next (by omega), hplm, hte]) (by omega))
                  | (have hte : tEnd by' sz q = nnd by' sz q := by unfold tEnd; rw [if_neg q39, if_pos q63]
                     have hplm : pl by' sz m = q := by rw [← hsk]; exact skp_nb (dg_nb q63)
                     have hgt := tEnd_gt (by' := by') (sz := sz) q
                     have hle := tEnd_le (by' := by') hqs
                     exact ih _ (by omega) (i + 1) (nnd by' sz q) (m + 1) (tokH (σ, h.2) m q (tK by' sz q)).1 rfl (by omega) (by omega) (hTk.add hplm) (fun j hj => by
                       by_cases e : j = m
                       · subst e; omega
                       · exact hlt j (by omega)) (by rw [pl_next (by omega), hplm, hte]) (by omega))
                  | (have hbl : isBl (btA by' sz q) = true := decide_eq_true (by first | exact Or.inl q86 | exact Or.inr q92)
                     exact ih _ (by omega) (i + 1) (q + 1) m σ rfl (by omega) (by omega) hTk hlt ((skp_bl hbl).trans hsk) (by omega))
                  | (have hte : tEnd by' sz q = q + 1 := by unfold tEnd; rw [if_neg q39, if_neg q63]
                     have hplm : pl by' sz m = q := by rw [← hsk]; exact skp_nb (decide_eq_false (fun z => z.elim q86 q92))
                     rw [← etk]
                     exact ih _ (by omega) (i + 1) (q + 1) (m + 1) (tokH (σ, h.2) m q (tK by' sz q)).1 rfl (by omega) (by omega) (hTk.add hplm) (fun j hj => by
                       by_cases e : j = m
                       · subst e; omega
                       · exact hlt j (by omega)) (by rw [pl_next (by omega), hplm, hte]) (by omega))
          · skip
            refine v_aload_n hX rfl qX10_splitTokens_66 ?_
            refine v_iload_n hX rfl qX10_splitTokens_67 ?_
            refine v_callVq hX hR k_X10_133 (hs.kd 11 rfl) (c_endOfNumber (h := (σ, h.2)) (by exact hs) (by exact hbq) (by exact hq)) rfl (Nat.le_of_ble_eq_true rfl) rfl (Nat.le_of_ble_eq_true rfl) ⟨Nat.le_of_ble_eq_true rfl, Nat.le_of_ble_eq_true rfl⟩ qX10_splitTokens_68 ?_
            rintro _ _ ⟨rfl, rfl⟩
            refine v_istore hX (Nat.le_of_ble_eq_true rfl) rfl (ls' := [some _, some _, some _, some _, some _]) rfl qX10_splitTokens_71 ?_
            refine v_aload_n hX rfl qX10_splitTokens_73 ?_
            refine v_iload_n hX rfl qX10_splitTokens_74 ?_
            refine v_iload hX rfl qX10_splitTokens_75 ?_
            refine v_callVq hX hR k_X10_136 (hs.kd 11 rfl) (c_addNumber (h := (σ, h.2)) (by exact hs) (by exact hbq) (by exact hm160) (by exact hTk.2.1) (by exact hqs) (by exact q63)) rfl (Nat.le_of_ble_eq_true rfl) rfl (Nat.le_of_ble_eq_true rfl) ⟨Nat.le_of_ble_eq_true rfl, Nat.le_of_ble_eq_true rfl⟩ qX10_splitTokens_77 ?_
            rintro _ _ ⟨rfl, rfl⟩
            refine v_goto hX 113 qX10_splitTokens_80 rfl ?_
            refine v_iload hX rfl qX10_splitTokens_113 ?_
            refine v_istore_n hX (Nat.le_of_ble_eq_true rfl) rfl (ls' := [some _, some _, some _, some _, some _]) rfl qX10_splitTokens_115 ?_
            refine v_iinc hX rfl (by first | exact ii_nI _ | exact ii_1 _) (Nat.le_of_ble_eq_true rfl) rfl (ls' := [some _, some _, some _, some _, some _]) rfl qX10_splitTokens_116 ?_
            refine v_goto hX 9 qX10_splitTokens_119 rfl ?_
            refine v_forget (ls' := [_, _, _, none, none]) ⟨Or.inr rfl, Or.inr rfl, Or.inr rfl, Or.inl rfl, Or.inl rfl, trivial⟩ ?_
            first
            | (have hte : tEnd by' sz q = wnd by' sz q := if_pos q39
               have hplm : pl by' sz m = q := by rw [← hsk]; exact skp_nb (lt_nb q39)
               have hgt := tEnd_gt (by' := by') (sz := sz) q
               have hle := tEnd_le (by' := by') hqs
               exact ih _ (by omega) (i + 1) (wnd by' sz q) (m + 1) (tokH (σ, h.2) m q (tK by' sz q)).1 rfl (by omega) (by omega) (hTk.add hplm) (fun j hj => by
                 by_cases e : j = m
                 · subst e; omega
                 · exact hlt j (by omega)) (by rw [pl_next (by omega), hplm, hte]) (by omega))
            | (have hte : tEnd by' sz q = nnd by' sz q := by unfold tEnd; rw [if_neg q39, if_pos q63]
               have hplm : pl by' sz m = q := by rw [← hsk]; exact skp_nb (dg_nb q63)
               have hgt := tEnd_gt (by' := by') (sz := sz) q
               have hle := tEnd_le (by' := by') hqs
               exact ih _ (by omega) (i + 1) (nnd by' sz q) (m + 1) (tokH (σ, h.2) m q (tK by' sz q)).1 rfl (by omega) (by omega) (hTk.add hplm) (fun j hj => by
                 by_cases e : j = m
                 · subst e; omega
                 · exact hlt j (by omega)) (by rw [pl_next (by omega), hplm, hte]) (by omega))
            | (have hbl : isBl (btA by' sz q) = true := decide_eq_true (by first | exact Or.inl q86 | exact Or.inr q92)
               exact ih _ (by omega) (i + 1) (q + 1) m σ rfl (by omega) (by omega) hTk hlt ((skp_bl hbl).trans hsk) (by omega))
            | (have hte : tEnd by' sz q = q + 1 := by unfold tEnd; rw [if_neg q39, if_neg q63]
               have hplm : pl by' sz m = q := by rw [← hsk]; exact skp_nb (decide_eq_false (fun z => z.elim q86 q92))
               rw [← etk]
               exact ih _ (by omega) (i + 1) (q + 1) (m + 1) (tokH (σ, h.2) m q (tK by' sz q)).1 rfl (by omega) (by omega) (hTk.add hplm) (fun j hj => by
                 by_cases e : j = m
                 · subst e; omega
                 · exact hlt j (by omega)) (by rw [pl_next (by omega), hplm, hte]) (by omega))
        · skip
          refine v_aload_n hX rfl qX10_splitTokens_42 ?_
          refine v_iload_n hX rfl qX10_splitTokens_43 ?_
          refine v_callVq hX hR k_X10_123 (hs.kd 11 rfl) (c_endOfWord (h := (σ, h.2)) (by exact hs) (by exact hbq) (by exact hq)) rfl (Nat.le_of_ble_eq_true rfl) rfl (Nat.le_of_ble_eq_true rfl) ⟨Nat.le_of_ble_eq_true rfl, Nat.le_of_ble_eq_true rfl⟩ qX10_splitTokens_44 ?_
          rintro _ _ ⟨rfl, rfl⟩
          refine v_istore hX (Nat.le_of_ble_eq_true rfl) rfl (ls' := [some _, some _, some _, some _, some _]) rfl qX10_splitTokens_47 ?_
          refine v_aload_n hX rfl qX10_splitTokens_49 ?_
          refine v_iload_n hX rfl qX10_splitTokens_50 ?_
          refine v_iload hX rfl qX10_splitTokens_51 ?_
          refine v_callVq hX hR k_X10_126 (hs.kd 11 rfl) (c_addWord (h := (σ, h.2)) (by exact hs) (by exact hbq) (by exact hm160) (by exact hTk.2.1) (by exact hqs) (by exact hG) (by exact q39)) rfl (Nat.le_of_ble_eq_true rfl) rfl (Nat.le_of_ble_eq_true rfl) ⟨Nat.le_of_ble_eq_true rfl, Nat.le_of_ble_eq_true rfl⟩ qX10_splitTokens_53 ?_
          rintro _ _ ⟨rfl, rfl⟩
          refine v_goto hX 113 qX10_splitTokens_56 rfl ?_
          refine v_iload hX rfl qX10_splitTokens_113 ?_
          refine v_istore_n hX (Nat.le_of_ble_eq_true rfl) rfl (ls' := [some _, some _, some _, some _, some _]) rfl qX10_splitTokens_115 ?_
          refine v_iinc hX rfl (by first | exact ii_nI _ | exact ii_1 _) (Nat.le_of_ble_eq_true rfl) rfl (ls' := [some _, some _, some _, some _, some _]) rfl qX10_splitTokens_116 ?_
          refine v_goto hX 9 qX10_splitTokens_119 rfl ?_
          refine v_forget (ls' := [_, _, _, none, none]) ⟨Or.inr rfl, Or.inr rfl, Or.inr rfl, Or.inl rfl, Or.inl rfl, trivial⟩ ?_
          first
          | (have hte : tEnd by' sz q = wnd by' sz q := if_pos q39
             have hplm : pl by' sz m = q := by rw [← hsk]; exact skp_nb (lt_nb q39)
             have hgt := tEnd_gt (by' := by') (sz := sz) q
             have hle := tEnd_le (by' := by') hqs
             exact ih _ (by omega) (i + 1) (wnd by' sz q) (m + 1) (tokH (σ, h.2) m q (tK by' sz q)).1 rfl (by omega) (by omega) (hTk.add hplm) (fun j hj => by
               by_cases e : j = m
               · subst e; omega
               · exact hlt j (by omega)) (by rw [pl_next (by omega), hplm, hte]) (by omega))
          | (have hte : tEnd by' sz q = nnd by' sz q := by unfold tEnd; rw [if_neg q39, if_pos q63]
             have hplm : pl by' sz m = q := by rw [← hsk]; exact skp_nb (dg_nb q63)
             have hgt := tEnd_gt (by' := by') (sz := sz) q
             have hle := tEnd_le (by' := by') hqs
             exact ih _ (by omega) (i + 1) (nnd by' sz q) (m + 1) (tokH (σ, h.2) m q (tK by' sz q)).1 rfl (by omega) (by omega) (hTk.add hplm) (fun j hj => by
               by_cases e : j = m
               · subst e; omega
               · exact hlt j (by omega)) (by rw [pl_next (by omega), hplm, hte]) (by omega))
          | (have hbl : isBl (btA by' sz q) = true := decide_eq_true (by first | exact Or.inl q86 | exact Or.inr q92)
             exact ih _ (by omega) (i + 1) (q + 1) m σ rfl (by omega) (by omega) hTk hlt ((skp_bl hbl).trans hsk) (by omega))
          | (have hte : tEnd by' sz q = q + 1 := by unfold tEnd; rw [if_neg q39, if_neg q63]
             have hplm : pl by' sz m = q := by rw [← hsk]; exact skp_nb (decide_eq_false (fun z => z.elim q86 q92))
             rw [← etk]
             exact ih _ (by omega) (i + 1) (q + 1) (m + 1) (tokH (σ, h.2) m q (tK by' sz q)).1 rfl (by omega) (by omega) (hTk.add hplm) (fun j hj => by
               by_cases e : j = m
               · subst e; omega
               · exact hlt j (by omega)) (by rw [pl_next (by omega), hplm, hte]) (by omega))
  exact L9 _ 0 0 0 (stI h 11 6 0).1 rfl (Nat.le_refl _) (Nat.zero_le _) ⟨fun a k a1 a2 => by show hpI (stI _ _ _ _) _ _ = _; rw [hpI_st, if_neg a2], rfl, fun j hj => absurd hj (by omega)⟩ (fun j hj => absurd hj (by omega)) rfl (Nat.le_refl _)
