/-! plans, and told searches -/
def stB (TV : TVt) (m : Nat) (kd : Nat → Nat) (nu : Nat → Int32) (b : Nat → Nat → Int32) : Nat → Nat → Int32 := if (chB TV m kd nu b).1 = -1 then b else lookB TV b (kd (tn (chB TV m kd nu b).1)) (nu (tn (chB TV m kd nu b).1)) (tn (chB TV m kd nu b).2.1)
def pbs (TV : TVt) (m : Nat) (kd : Nat → Nat) (nu : Nat → Int32) (b0 : Nat → Nat → Int32) : Nat → Nat → Nat → Int32
  | 0 => b0
  | i + 1 => stB TV m kd nu (pbs TV m kd nu b0 i)
section PLN
variable (TV : TVt) (m : Nat) (kd : Nat → Nat) (nu : Nat → Int32) (b0 : Nat → Nat → Int32)
def pCh (i : Nat) : Int32 × Int32 × Int32 := chB TV m kd nu (pbs TV m kd nu b0 i)
def pSt (i : Nat) : Bool := decide ((pCh TV m kd nu b0 i).1 = -1)
def pSz (n : Nat) : Nat := fc (pSt TV m kd nu b0) n 0
def pCell (i : Nat) : Int32 := (pCh TV m kd nu b0 i).2.1
def pGain (i : Nat) : Int32 := gainB TV (pbs TV m kd nu b0 i) (kd (tn (pCh TV m kd nu b0 i).1)) (nu (tn (pCh TV m kd nu b0 i).1)) (tn (pCh TV m kd nu b0 i).2.1)
def pTake (i : Nat) : Int32 := tkB (kd (tn (pCh TV m kd nu b0 i).1)) (nu (tn (pCh TV m kd nu b0 i).1))
end PLN
theorem fc_le {p : Nat → Bool} : ∀ n i, fc p n i ≤ i + n := by
  intro n
  induction n with
  | zero => intro i; exact Nat.le_refl _
  | succ n ih =>
    intro i
    unfold fc
    split
    · omega
    · have := ih (i + 1); omega
theorem ch_some {TV : TVt} {m : Nat} (hm : m ≤ 6) {kd : Nat → Nat} {nu : Nat → Int32} {b : Nat → Nat → Int32} (h : ¬ (chB TV m kd nu b).1 = -1) : ∃ l q, l < m ∧ q < 48 ∧ chB TV m kd nu b = (nI l, nI q, rateB TV b (kd l) (nu l) q) ∧ seB TV b q = 0 := by
  rcases chB_is TV hm kd nu b with ⟨e, -⟩ | ⟨l, q, ⟨hl, hq⟩, e, hpos, -⟩
  · rw [e] at h; exact absurd rfl h
  · unfold RR at e hpos
    by_cases h0 : 0 < b 1 q
    · rw [if_pos h0] at e hpos
      exact ⟨l, q, hl, hq, e, rate_pos hpos⟩
    · rw [if_neg h0] at hpos
      simp at hpos
theorem pbs_ok {TV : TVt} {m : Nat} (hm : m ≤ 6) {kd : Nat → Nat} {nu : Nat → Int32} (hnu : ∀ i, i < m → inR (nu i) 9) {b0 : Nat → Nat → Int32} {cnt : Nat} (hb : BeOK b0 cnt) : ∀ i, BeOK (pbs TV m kd nu b0 i) cnt := by
  intro i
  induction i with
  | zero => exact hb
  | succ i ih =>
    show BeOK (stB TV m kd nu (pbs TV m kd nu b0 i)) cnt
    unfold stB
    by_cases h : (chB TV m kd nu (pbs TV m kd nu b0 i)).1 = -1
    · rw [if_pos h]; exact ih
    · rw [if_neg h]
      obtain ⟨l, q, hl, hq, e, -⟩ := ch_some hm h
      rw [e]
      have : tn (nI l) = l := tn_nI (by omega)
      rw [this]
      exact lookB_ok ih (hnu l hl)
def FrP (h : AHp) (σ : Nat → Nat → Int32) : Prop := ∀ a k, ¬ (4 ≤ a ∧ a ≤ 6) → ¬ (20 ≤ a ∧ a ≤ 28) → ¬ (a = 17 ∧ (k = 5 ∨ 10 ≤ k)) → ¬ (a = 0 ∧ 10 ≤ k) → σ a k = hpI h a k
theorem RuOK.frP {h : AHp} {cnt : Nat} {TV : TVt} {σ : Nat → Nat → Int32} (hr : RuOK h cnt TV) (hf : FrP h σ) : RuOK (σ, h.2) cnt TV := hr.fr (hf 17 2 (by omega) (by omega) (by omega) (by omega)) (funext fun k => hf 18 k (by omega) (by omega) (by omega) (by omega)) (funext fun k => hf 19 k (by omega) (by omega) (by omega) (by omega))
theorem Pty.frP {h : AHp} (hs : ShC h) {m : Nat} {e kd : Nat → Nat} {nu : Nat → Int32} (hp : Pty h m e kd nu) {σ : Nat → Nat → Int32} (hf : FrP h σ) : Pty (σ, h.2) m e kd nu := hp.fr hs (hf 0 5 (by omega) (by omega) (by omega) (by omega)) (fun a ha => hf a 0 (by omega) (by omega) (by omega) (by omega))
theorem FrP.tr {h : AHp} {σ σ' : Nat → Nat → Int32} (h1 : FrP h σ) (h2 : FrP (σ, h.2) σ') : FrP h σ' := fun a k a1 a2 a3 a4 => (h2 a k a1 a2 a3 a4).trans (h1 a k a1 a2 a3 a4)
theorem FrC.P {h : AHp} {σ : Nat → Nat → Int32} (hf : FrC h σ) : FrP h σ := fun a k _ a2 a3 a4 => hf a k (by omega) a3 a4
theorem FrB.P {h : AHp} {σ : Nat → Nat → Int32} (hf : FrB h 4 σ) : FrP h σ := fun a k a1 a2 a3 _ => hf a k (by omega) (by omega) a3
theorem FrV.P {h : AHp} {σ : Nat → Nat → Int32} (hf : FrV h σ) : FrP h σ := fun a k a1 a2 a3 _ => hf a k (by omega) a3
theorem asB_bv {h : AHp} {B D : Nat} {σ : Nat → Nat → Int32} (hσ : asBeach h B D σ) : bv (σ, h.2) B = bv h D := bv_ext (fun i k ho => by
  obtain ⟨h1, h2, h3, -⟩ := hσ
  rcases ho with ⟨rfl | rfl, hk⟩ | ⟨rfl, hk, hk2⟩
  · exact h1 k hk
  · exact h2 k hk
  · exact h3 k hk hk2)
theorem CaOK.P {h : AHp} {cnt : Nat} {TV : TVt} {σ : Nat → Nat → Int32} (hc : CaOK h cnt TV) (hσ : ∀ a, 22 ≤ a → a ≤ 25 → σ a = hpI h a) : CaOK (σ, h.2) cnt TV := hc.eq (fun a h1 h2 k _ => congrFun (hσ a h1 h2) k)
theorem qX11_makePlan_0 : Dq cX11_makePlan 0 (.aload_n 0) 1 1 := ⟨by decide +kernel, rfl⟩
theorem qX11_makePlan_1 : Dq cX11_makePlan 1 (.getfield 16) 3 4 := ⟨by decide +kernel, rfl⟩
theorem qX11_makePlan_4 : Dq cX11_makePlan 4 (.aload_n 0) 1 5 := ⟨by decide +kernel, rfl⟩
theorem qX11_makePlan_5 : Dq cX11_makePlan 5 (.getfield 10) 3 8 := ⟨by decide +kernel, rfl⟩
theorem qX11_makePlan_8 : Dq cX11_makePlan 8 (.invokevirtual 281) 3 11 := ⟨by decide +kernel, rfl⟩
theorem qX11_makePlan_11 : Dq cX11_makePlan 11 (.aload_n 0) 1 12 := ⟨by decide +kernel, rfl⟩
theorem qX11_makePlan_12 : Dq cX11_makePlan 12 (.getfield 45) 3 15 := ⟨by decide +kernel, rfl⟩
theorem qX11_makePlan_15 : Dq cX11_makePlan 15 (.invokevirtual 387) 3 18 := ⟨by decide +kernel, rfl⟩
theorem qX11_makePlan_18 : Dq cX11_makePlan 18 (.iconst 0) 1 19 := ⟨by decide +kernel, rfl⟩
theorem qX11_makePlan_19 : Dq cX11_makePlan 19 (.istore_n 2) 1 20 := ⟨by decide +kernel, rfl⟩
theorem qX11_makePlan_20 : Dq cX11_makePlan 20 (.iload_n 2) 1 21 := ⟨by decide +kernel, rfl⟩
theorem qX11_makePlan_21 : Dq cX11_makePlan 21 (.iload_n 1) 1 22 := ⟨by decide +kernel, rfl⟩
theorem qX11_makePlan_22 : Dq cX11_makePlan 22 (.if_icmp .ge 63) 3 25 := ⟨by decide +kernel, rfl⟩
theorem qX11_makePlan_25 : Dq cX11_makePlan 25 (.aload_n 0) 1 26 := ⟨by decide +kernel, rfl⟩
theorem qX11_makePlan_26 : Dq cX11_makePlan 26 (.aload_n 0) 1 27 := ⟨by decide +kernel, rfl⟩
theorem qX11_makePlan_27 : Dq cX11_makePlan 27 (.getfield 16) 3 30 := ⟨by decide +kernel, rfl⟩
theorem qX11_makePlan_30 : Dq cX11_makePlan 30 (.invokevirtual 181) 3 33 := ⟨by decide +kernel, rfl⟩
theorem qX11_makePlan_33 : Dq cX11_makePlan 33 (.ifCond .eq 52) 3 36 := ⟨by decide +kernel, rfl⟩
theorem qX11_makePlan_36 : Dq cX11_makePlan 36 (.aload_n 0) 1 37 := ⟨by decide +kernel, rfl⟩
theorem qX11_makePlan_37 : Dq cX11_makePlan 37 (.aload_n 0) 1 38 := ⟨by decide +kernel, rfl⟩
theorem qX11_makePlan_38 : Dq cX11_makePlan 38 (.getfield 55) 3 41 := ⟨by decide +kernel, rfl⟩
theorem qX11_makePlan_41 : Dq cX11_makePlan 41 (.invokevirtual 141) 3 44 := ⟨by decide +kernel, rfl⟩
theorem qX11_makePlan_44 : Dq cX11_makePlan 44 (.astore_n 3) 1 45 := ⟨by decide +kernel, rfl⟩
theorem qX11_makePlan_45 : Dq cX11_makePlan 45 (.aload_n 3) 1 46 := ⟨by decide +kernel, rfl⟩
theorem qX11_makePlan_46 : Dq cX11_makePlan 46 (.ifnull 33) 3 49 := ⟨by decide +kernel, rfl⟩
theorem qX11_makePlan_49 : Dq cX11_makePlan 49 (.aload_n 0) 1 50 := ⟨by decide +kernel, rfl⟩
theorem qX11_makePlan_50 : Dq cX11_makePlan 50 (.getfield 59) 3 53 := ⟨by decide +kernel, rfl⟩
theorem qX11_makePlan_53 : Dq cX11_makePlan 53 (.istore 4) 2 55 := ⟨by decide +kernel, rfl⟩
theorem qX11_makePlan_55 : Dq cX11_makePlan 55 (.aload_n 0) 1 56 := ⟨by decide +kernel, rfl⟩
theorem qX11_makePlan_56 : Dq cX11_makePlan 56 (.getfield 45) 3 59 := ⟨by decide +kernel, rfl⟩
theorem qX11_makePlan_59 : Dq cX11_makePlan 59 (.iload 4) 2 61 := ⟨by decide +kernel, rfl⟩
theorem qX11_makePlan_61 : Dq cX11_makePlan 61 (.aload_n 0) 1 62 := ⟨by decide +kernel, rfl⟩
theorem qX11_makePlan_62 : Dq cX11_makePlan 62 (.aload_n 0) 1 63 := ⟨by decide +kernel, rfl⟩
theorem qX11_makePlan_63 : Dq cX11_makePlan 63 (.getfield 16) 3 66 := ⟨by decide +kernel, rfl⟩
theorem qX11_makePlan_66 : Dq cX11_makePlan 66 (.aload_n 3) 1 67 := ⟨by decide +kernel, rfl⟩
theorem qX11_makePlan_67 : Dq cX11_makePlan 67 (.iload 4) 2 69 := ⟨by decide +kernel, rfl⟩
theorem qX11_makePlan_69 : Dq cX11_makePlan 69 (.invokevirtual 177) 3 72 := ⟨by decide +kernel, rfl⟩
theorem qX11_makePlan_72 : Dq cX11_makePlan 72 (.aload_n 3) 1 73 := ⟨by decide +kernel, rfl⟩
theorem qX11_makePlan_73 : Dq cX11_makePlan 73 (.invokestatic 149) 3 76 := ⟨by decide +kernel, rfl⟩
theorem qX11_makePlan_76 : Dq cX11_makePlan 76 (.invokevirtual 388) 3 79 := ⟨by decide +kernel, rfl⟩
theorem qX11_makePlan_79 : Dq cX11_makePlan 79 (.iinc 2 1) 3 82 := ⟨by decide +kernel, rfl⟩
theorem qX11_makePlan_82 : Dq cX11_makePlan 82 (.goto (-62)) 3 85 := ⟨by decide +kernel, rfl⟩
theorem qX11_makePlan_85 : Dq cX11_makePlan 85 (.return_) 1 86 := ⟨by decide +kernel, rfl⟩
set_option maxRecDepth 100000 in
set_option maxHeartbeats 4000000 in
theorem c_makePlan {G : Glb} {h : AHp} (hs : ShC h) {cnt : Nat} {TV : Nat → Nat → (Nat → Int32) → Int32} (hru : RuOK h cnt TV) (hca : CaOK h cnt TV) (hbe : BeOK (bv h 1) cnt) {m : Nat} {e kd : Nat → Nat} {nu : Nat → Int32} (hp : Pty h m e kd nu) (hnu : ∀ i, i < m → inR (nu i) 9) {n : Nat} (hn20 : n ≤ 20) : CP G m_X11_makePlan 7 0 0 [.ref 0, .int (nI n)] h (fun r h' => r = none ∧ ∃ σ, h' = (σ, h.2) ∧ FrP h σ ∧ CaOK (σ, h.2) cnt TV ∧ σ 26 2 = nI (pSz TV m kd nu (bv h 1) n) ∧ (∀ j, j < pSz TV m kd nu (bv h 1) n → σ 27 j = pCell TV m kd nu (bv h 1) j ∧ σ 28 j = pGain TV m kd nu (bv h 1) j) ∧ σ 26 3 = sumN (pGain TV m kd nu (bv h 1) ) (pSz TV m kd nu (bv h 1) n) ∧ σ 26 4 = sumN (pTake TV m kd nu (bv h 1) ) (pSz TV m kd nu (bv h 1) n)) := by
  suffices key : ∀ P : Option Value → AHp → Prop, (∀ r h', (r = none ∧ ∃ σ, h' = (σ, h.2) ∧ FrP h σ ∧ CaOK (σ, h.2) cnt TV ∧ σ 26 2 = nI (pSz TV m kd nu (bv h 1) n) ∧ (∀ j, j < pSz TV m kd nu (bv h 1) n → σ 27 j = pCell TV m kd nu (bv h 1) j ∧ σ 28 j = pGain TV m kd nu (bv h 1) j) ∧ σ 26 3 = sumN (pGain TV m kd nu (bv h 1) ) (pSz TV m kd nu (bv h 1) n) ∧ σ 26 4 = sumN (pTake TV m kd nu (bv h 1) ) (pSz TV m kd nu (bv h 1) n)) → P r h') → CP G m_X11_makePlan 7 0 0 [.ref 0, .int (nI n)] h P from key _ (fun _ _ z => z)
  intro P hP
  refine CP.of (by decide +kernel) (Nat.le_of_ble_eq_true rfl) fun X hX hR hnm => ?_
  show V X G 5 0 0 _ 0 [some (.ref 0), some (.int (nI n)), none, none, none] [] h
  have hm6 := hp.2.1
  refine v_aload_n hX rfl qX11_makePlan_0 ?_
  refine v_getR hX g_X11_16 (hs.kd 0 rfl) (hs.rf 1 rfl) qX11_makePlan_1 ?_
  refine v_aload_n hX rfl qX11_makePlan_4 ?_
  refine v_getR hX g_X11_10 (hs.kd 0 rfl) (hs.rf 0 rfl) qX11_makePlan_5 ?_
  refine v_callVq hX hR k_X11_281 (hs.kd 4 rfl) (c_become (by exact hs) (by exact (Or.inr (Or.inl rfl))) (by exact (Or.inl rfl)) (by decide)) rfl (Nat.le_of_ble_eq_true rfl) rfl (Nat.le_of_ble_eq_true rfl) ⟨Nat.le_of_ble_eq_true rfl, Nat.le_of_ble_eq_true rfl⟩ qX11_makePlan_8 ?_
  rintro _ _ ⟨rfl, σ, rfl, hσ⟩
  refine v_aload_n hX rfl qX11_makePlan_11 ?_
  refine v_getR hX g_X11_45 (hs.kd 0 rfl) (hs.rf 6 rfl) qX11_makePlan_12 ?_
  refine v_callVq hX hR k_X11_387 (hs.kd 26 rfl) (c_clear (by exact hs)) rfl (Nat.le_of_ble_eq_true rfl) rfl (Nat.le_of_ble_eq_true rfl) ⟨Nat.le_of_ble_eq_true rfl, Nat.le_of_ble_eq_true rfl⟩ qX11_makePlan_15 ?_
  rintro _ _ ⟨rfl, rfl⟩
  refine v_iconst hX li_0 qX11_makePlan_18 ?_
  refine v_istore_n hX (Nat.le_of_ble_eq_true rfl) rfl (ls' := [some _, some _, some _, none, none]) rfl qX11_makePlan_19 ?_
  have L20 : ∀ (mz : Nat) (i : Nat) (σ : Nat → Nat → Int32), n - i = mz → (i ≤ n) → (FrP h σ) → (CaOK (σ, h.2) cnt TV) → (bv (σ, h.2) 4 = pbs TV m kd nu (bv h 1) i) → (∀ j, j < i → pSt TV m kd nu (bv h 1) j = false) → (σ 26 2 = nI i) → (∀ j, j < i → σ 27 j = pCell TV m kd nu (bv h 1) j ∧ σ 28 j = pGain TV m kd nu (bv h 1) j) → (σ 26 3 = sumN (pGain TV m kd nu (bv h 1) ) i) → (σ 26 4 = sumN (pTake TV m kd nu (bv h 1) ) i) → V X G 5 0 0 (QM X G P 0 0) 20 [some (.ref 0), some (.int (nI n)), some (.int (nI i)), none, none] [] (σ, h.2) := by
    intro mz
    induction mz using Nat.strongRecOn with
    | _ mz ih =>
    intro i σ hm hi hf hca1 hbv hns z2 zc z3 z4
    have hp2 : Pty (σ, h.2) m e kd nu := hp.frP hs hf
    have hru2 : RuOK (σ, h.2) cnt TV := hru.frP hf
    have hbe2 : BeOK (bv (σ, h.2) 4) cnt := by rw [hbv]; exact pbs_ok hm6 hnu hbe i
    refine v_iload_n hX rfl qX11_makePlan_20 ?_
    refine v_iload_n hX rfl qX11_makePlan_21 ?_
    refine v_icmp_geS hX 85 qX11_makePlan_22 rfl (fun q22 => ?_) (fun q22 => ?_)
    · have e1 : i = n := Nat.le_antisymm hi (nI_le' (by omega) (by omega) q22)
      subst e1
      have hsz : pSz TV m kd nu (bv h 1) i = i := (fc_no i 0 (fun j _ hj => hns j (by omega))).trans (Nat.zero_add i)
      refine v_return hX qX11_makePlan_85 (hP _ _ ?_)
      rw [hsz]
      first | exact ⟨rfl, σ, rfl, hf, hca1, z2, zc, z3, z4⟩ | exact ⟨rfl, σ2, rfl, hf, hca2, z2, zc, z3, z4⟩
    · have hl0 := nI_lt' (by omega) (by omega) q22
      refine v_aload_n hX rfl qX11_makePlan_25 ?_
      refine v_aload_n hX rfl qX11_makePlan_26 ?_
      refine v_getR hX g_X11_16 (hs.kd 0 rfl) (hs.rf 1 rfl) qX11_makePlan_27 ?_
      refine v_callVq hX hR k_X11_181 (hs.kd 0 rfl) (c_choose (by exact hs) (by exact hru2) (by exact hca1) (by exact (Or.inr (Or.inl rfl))) (by exact hbe2) (by exact hp2)) rfl (Nat.le_of_ble_eq_true rfl) rfl (Nat.le_of_ble_eq_true rfl) ⟨Nat.le_of_ble_eq_true rfl, Nat.le_of_ble_eq_true rfl⟩ qX11_makePlan_30 ?_
      rintro _ _ ⟨rfl, σ2, rfl, hf2, hca2, k10, k11, k12⟩
      rw [hbv] at k10 k11 k12 ⊢
      first | refine v_if_eqB hX 85 qX11_makePlan_33 rfl (fun q33 => ?_) (fun q33 => ?_) | refine v_if_eq hX 85 qX11_makePlan_33 rfl (fun q33 => ?_) (fun q33 => ?_)
      · have hst : (pCh TV m kd nu (bv h 1) i).1 = -1 := Classical.byContradiction q33
        have hsz : pSz TV m kd nu (bv h 1) n = i := fc_hit (k := i) (decide_eq_true hst) n 0 (Nat.zero_le _) (by omega) (fun j _ hj => hns j hj)
        have hf := hf.tr hf2.P
        have e26 : ∀ a k, 26 ≤ a → σ2 a k = σ a k := fun a k ha => hf2 a k (by omega) (by omega) (by omega)
        have z2 := (e26 26 2 (by omega)).trans z2
        have z3 := (e26 26 3 (by omega)).trans z3
        have z4 := (e26 26 4 (by omega)).trans z4
        have zc : ∀ j, j < i → σ2 27 j = _ ∧ σ2 28 j = _ := fun j hj => ⟨(e26 27 j (by omega)).trans (zc j hj).1, (e26 28 j (by omega)).trans (zc j hj).2⟩
        refine v_return hX qX11_makePlan_85 (hP _ _ ?_)
        rw [hsz]
        first | exact ⟨rfl, σ, rfl, hf, hca1, z2, zc, z3, z4⟩ | exact ⟨rfl, σ2, rfl, hf, hca2, z2, zc, z3, z4⟩
      · obtain ⟨l, w, hl, hw, hch, hse⟩ := ch_some hm6 q33
        have hch2 : pCh TV m kd nu (bv h 1) i = _ := hch
        rw [hch] at k10 k11 k12
        have hp2 : Pty (σ2, h.2) m e kd nu := Pty.frP (h := (σ, h.2)) hs hp2 hf2.P
        have hbv2 : bv (σ2, h.2) 4 = pbs TV m kd nu (bv h 1) i := (bv_ext (fun i k ho => by
              have : i ≤ 2 := by rcases ho with ⟨e, -⟩ | ⟨e, -⟩ <;> omega
              exact hf2 (4 + i) k (by omega) (by omega) (by omega))).trans hbv
        have hru3 : RuOK (σ2, h.2) cnt TV := hru2.frP hf2.P
        have hbe3 : BeOK (bv (σ2, h.2) 4) cnt := by rw [hbv2]; exact pbs_ok hm6 hnu hbe i
        refine v_aload_n hX rfl qX11_makePlan_36 ?_
        refine v_aload_n hX rfl qX11_makePlan_37 ?_
        refine v_getIv hX g_X11_55 (Or.inl rfl) (hs.kd 0 rfl) k10 qX11_makePlan_38 ?_
        refine v_callVq hX hR k_X11_141 (hs.kd 0 rfl) (c_lookerAt (by exact hs) (by exact hp2) _) rfl (Nat.le_of_ble_eq_true rfl) rfl (Nat.le_of_ble_eq_true rfl) ⟨Nat.le_of_ble_eq_true rfl, Nat.le_of_ble_eq_true rfl⟩ qX11_makePlan_41 ?_
        rintro _ _ ⟨⟨j, hj, hij, rfl⟩ | ⟨hn, rfl⟩, rfl⟩
        · have hij2 : l = j := (nI_eq (by omega) (by omega)).mp hij
          subst hij2
          refine v_astore_n hX (Nat.le_of_ble_eq_true rfl) rfl (ls' := [some _, some _, some _, some _, none]) rfl qX11_makePlan_44 ?_
          refine v_aload_n hX rfl qX11_makePlan_45 ?_
          refine v_ifnull hX qX11_makePlan_46 ?_
          refine v_aload_n hX rfl qX11_makePlan_49 ?_
          refine v_getIv hX g_X11_59 (Or.inl rfl) (hs.kd 0 rfl) k11 qX11_makePlan_50 ?_
          refine v_istore hX (Nat.le_of_ble_eq_true rfl) rfl (ls' := [some _, some _, some _, some _, some _]) rfl qX11_makePlan_53 ?_
          refine v_aload_n hX rfl qX11_makePlan_55 ?_
          refine v_getR hX g_X11_45 (hs.kd 0 rfl) (hs.rf 6 rfl) qX11_makePlan_56 ?_
          refine v_iload hX rfl qX11_makePlan_59 ?_
          refine v_aload_n hX rfl qX11_makePlan_61 ?_
          refine v_aload_n hX rfl qX11_makePlan_62 ?_
          refine v_getR hX g_X11_16 (hs.kd 0 rfl) (hs.rf 1 rfl) qX11_makePlan_63 ?_
          refine v_aload_n hX rfl qX11_makePlan_66 ?_
          refine v_iload hX rfl qX11_makePlan_67 ?_
          refine v_callVq hX hR k_X11_177 (hs.kd 0 rfl) (c_gainByLook (by exact hs) (by exact hru3) (by exact hca2) (by exact (Or.inr (Or.inl rfl))) (by exact hbe3) (by exact hw) (by exact (hp2.2.2 l hl).2.1) (by exact (hp2.2.2 l hl).2.2.1) (by exact (hp2.2.2 l hl).2.2.2) (by exact (eye38 hs (hp2.2.2 l hl).2.2.1))) rfl (Nat.le_of_ble_eq_true rfl) rfl (Nat.le_of_ble_eq_true rfl) ⟨Nat.le_of_ble_eq_true rfl, Nat.le_of_ble_eq_true rfl⟩ qX11_makePlan_69 ?_
          rintro _ _ (⟨hse2, -⟩ | ⟨-, rfl, σ3, rfl, hf3, hca3, hb3⟩)
          · exact absurd (by rw [hbv2]; exact hse) hse2
          · rw [hbv2] at hb3 ⊢
            have hgn : gainB TV (pbs TV m kd nu (bv h 1) i) (kd l) (nu l) w = pGain TV m kd nu (bv h 1) i := by unfold pGain; rw [hch2]; show _ = gainB TV _ (kd (tn (nI l))) (nu (tn (nI l))) (tn (nI w)); rw [tn_nI (by omega), tn_nI (by omega)]
            rw [hgn]
            have hp2 : Pty (σ3, h.2) m e kd nu := Pty.frP (h := (σ2, h.2)) hs hp2 hf3.P
            have htk : tkB (kd l) (nu l) = pTake TV m kd nu (bv h 1) i := by unfold pTake; rw [hch2]; show _ = tkB (kd (tn (nI l))) (nu (tn (nI l))); rw [tn_nI (by omega)]
            have e3 : ∀ a k, 26 ≤ a → σ3 a k = σ a k := fun a k ha => (hf3 a k (by omega) (by omega) (by omega)).trans (hf2 a k (by omega) (by omega) (by omega))
            refine v_aload_n hX rfl qX11_makePlan_72 ?_
            refine v_callSq hX hR k_X11_149 (c_takesOf (by exact hs) (by exact (hp2.2.2 l hl).2.1) (by exact (hp2.2.2 l hl).2.2.1) (by exact (hp2.2.2 l hl).2.2.2)) rfl (Nat.le_of_ble_eq_true rfl) rfl (Nat.le_of_ble_eq_true rfl) ⟨Nat.le_of_ble_eq_true rfl, Nat.le_of_ble_eq_true rfl⟩ qX11_makePlan_73 ?_
            rintro _ _ ⟨rfl, rfl⟩
            refine v_eqI (show _ = pTake TV m kd nu (bv h 1) i from htk) ?_
            refine v_callVq hX hR k_X11_388 (hs.kd 26 rfl) (c_add (by exact hs) (s := i) (by exact ((e3 26 2 (by omega)).trans z2)) (by omega) _ _ _) rfl (Nat.le_of_ble_eq_true rfl) rfl (Nat.le_of_ble_eq_true rfl) ⟨Nat.le_of_ble_eq_true rfl, Nat.le_of_ble_eq_true rfl⟩ qX11_makePlan_76 ?_
            rintro _ _ ⟨rfl, rfl⟩
            obtain ⟨σ4, e4, g4, c4, b4, y2, yc, y3, y4⟩ : ∃ σ4, stI (stI (stI (stI (stI (σ3, h.2) 27 i (nI w)) 28 i (pGain TV m kd nu (bv h 1) i)) 26 2 (nI (i + 1))) 26 3 (hpI (σ3, h.2) 26 3 + pGain TV m kd nu (bv h 1) i)) 26 4 (hpI (σ3, h.2) 26 4 + pTake TV m kd nu (bv h 1) i) = (σ4, h.2) ∧ FrP h σ4 ∧ CaOK (σ4, h.2) cnt TV ∧ bv (σ4, h.2) 4 = pbs TV m kd nu (bv h 1) (i + 1) ∧ σ4 26 2 = nI (i + 1) ∧ (∀ j, j < i + 1 → σ4 27 j = pCell TV m kd nu (bv h 1) j ∧ σ4 28 j = pGain TV m kd nu (bv h 1) j) ∧ σ4 26 3 = sumN (pGain TV m kd nu (bv h 1) ) (i + 1) ∧ σ4 26 4 = sumN (pTake TV m kd nu (bv h 1) ) (i + 1) := by
              refine ⟨_, rfl, fun a k a1 a2 a3 a4 => ?_, hca3.eq (fun a a1 a2 k _ => ?_), ?_, rfl, fun j hj => ?_, ?_, ?_⟩
              · show hpI (stI _ _ _ _) _ _ = _; rw [hpI_st, if_neg (by omega), hpI_st, if_neg (by omega), hpI_st, if_neg (by omega), hpI_st, if_neg (by omega), hpI_st, if_neg (by omega)]; exact (hf3.P a k a1 a2 a3 a4).trans ((hf2.P a k a1 a2 a3 a4).trans (hf a k a1 a2 a3 a4))
              · show hpI (stI _ _ _ _) _ _ = _; rw [hpI_st, if_neg (by omega), hpI_st, if_neg (by omega), hpI_st, if_neg (by omega), hpI_st, if_neg (by omega), hpI_st, if_neg (by omega)]
              · show bv (stI (stI (stI (stI (stI (σ3, h.2) 27 i (nI w)) 28 i (pGain TV m kd nu (bv h 1) i)) 26 2 (nI (i + 1))) 26 3 (hpI (σ3, h.2) 26 3 + pGain TV m kd nu (bv h 1) i)) 26 4 (hpI (σ3, h.2) 26 4 + pTake TV m kd nu (bv h 1) i)) 4 = _
                rw [bv_other (by omega), bv_other (by omega), bv_other (by omega), bv_other (by omega), bv_other (by omega), hb3]
                show _ = stB TV m kd nu (pbs TV m kd nu (bv h 1) i)
                unfold stB
                rw [if_neg q33, hch]
                show _ = lookB TV _ (kd (tn (nI l))) (nu (tn (nI l))) (tn (nI w))
                rw [tn_nI (by omega), tn_nI (by omega)]
              · by_cases hji : j = i
                · rw [hji]
                  refine ⟨?_, ?_⟩
                  · show hpI (stI (stI (stI (stI (stI (σ3, h.2) 27 i (nI w)) 28 i (pGain TV m kd nu (bv h 1) i)) 26 2 (nI (i + 1))) 26 3 (hpI (σ3, h.2) 26 3 + pGain TV m kd nu (bv h 1) i)) 26 4 (hpI (σ3, h.2) 26 4 + pTake TV m kd nu (bv h 1) i)) 27 i = _; rw [hpI_st, if_neg (by omega), hpI_st, if_neg (by omega), hpI_st, if_neg (by omega), hpI_st, if_neg (by omega), hpI_st, if_pos ⟨rfl, rfl⟩]; unfold pCell; rw [hch2]
                  · show hpI (stI (stI (stI (stI (stI (σ3, h.2) 27 i (nI w)) 28 i (pGain TV m kd nu (bv h 1) i)) 26 2 (nI (i + 1))) 26 3 (hpI (σ3, h.2) 26 3 + pGain TV m kd nu (bv h 1) i)) 26 4 (hpI (σ3, h.2) 26 4 + pTake TV m kd nu (bv h 1) i)) 28 i = _; rw [hpI_st, if_neg (by omega), hpI_st, if_neg (by omega), hpI_st, if_neg (by omega), hpI_st, if_pos ⟨rfl, rfl⟩]
                · have hj2 : j < i := by omega
                  refine ⟨?_, ?_⟩
                  · show hpI (stI (stI (stI (stI (stI (σ3, h.2) 27 i (nI w)) 28 i (pGain TV m kd nu (bv h 1) i)) 26 2 (nI (i + 1))) 26 3 (hpI (σ3, h.2) 26 3 + pGain TV m kd nu (bv h 1) i)) 26 4 (hpI (σ3, h.2) 26 4 + pTake TV m kd nu (bv h 1) i)) 27 j = _; rw [hpI_st, if_neg (by omega), hpI_st, if_neg (by omega), hpI_st, if_neg (by omega), hpI_st, if_neg (by omega), hpI_st, if_neg (by omega)]; exact (e3 27 j (by omega)).trans (zc j hj2).1
                  · show hpI (stI (stI (stI (stI (stI (σ3, h.2) 27 i (nI w)) 28 i (pGain TV m kd nu (bv h 1) i)) 26 2 (nI (i + 1))) 26 3 (hpI (σ3, h.2) 26 3 + pGain TV m kd nu (bv h 1) i)) 26 4 (hpI (σ3, h.2) 26 4 + pTake TV m kd nu (bv h 1) i)) 28 j = _; rw [hpI_st, if_neg (by omega), hpI_st, if_neg (by omega), hpI_st, if_neg (by omega), hpI_st, if_neg (by omega), hpI_st, if_neg (by omega)]; exact (e3 28 j (by omega)).trans (zc j hj2).2
              · show σ3 26 3 + _ = sumN _ i + _
                rw [e3 26 3 (by omega), z3]
              · show σ3 26 4 + _ = sumN _ i + _
                rw [e3 26 4 (by omega), z4]
            refine v_eqH e4 ?_
            refine v_iinc hX rfl (by first | exact ii_nI _ | exact ii_1 _) (Nat.le_of_ble_eq_true rfl) rfl (ls' := [some _, some _, some _, some _, some _]) rfl qX11_makePlan_79 ?_
            refine v_goto hX 20 qX11_makePlan_82 rfl ?_
            refine v_forget (ls' := [_, _, _, none, none]) ⟨Or.inr rfl, Or.inr rfl, Or.inr rfl, Or.inl rfl, Or.inl rfl, trivial⟩ ?_
            exact ih _ (by omega) (i + 1) σ4 rfl (by omega) g4 c4 b4 (fun j hj => by rcases Nat.lt_succ_iff_lt_or_eq.mp hj with z | rfl; exact hns j z; exact decide_eq_false q33) y2 yc y3 y4
        · exact absurd ⟨nI_pos' (by omega), nI_lt hl (by omega)⟩ hn
  have hbv0 := asB_bv hσ
  exact L20 _ 0 _ rfl (by omega) (fun a k a1 a2 a3 a4 => by show hpI (stI _ _ _ _) _ _ = _; rw [hpI_st, if_neg (by omega), hpI_st, if_neg (by omega), hpI_st, if_neg (by omega)]; exact congrFun (hσ.2.2.2 a (by omega) (by omega) (by omega)) k) (hca.P (fun a a1 a2 => funext fun k => by show hpI (stI _ _ _ _) _ _ = _; rw [hpI_st, if_neg (by omega), hpI_st, if_neg (by omega), hpI_st, if_neg (by omega)]; exact congrFun (hσ.2.2.2 a (by omega) (by omega) (by omega)) k)) (by show bv (stI (stI (stI (σ, h.2) 26 2 0) 26 3 0) 26 4 0) 4 = _; rw [bv_other (by omega), bv_other (by omega), bv_other (by omega)]; exact hbv0) (fun j hj => absurd hj (Nat.not_lt_zero _)) rfl (fun j hj => absurd hj (Nat.not_lt_zero _)) rfl rfl
