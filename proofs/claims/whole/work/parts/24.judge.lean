/-! told searches, pictures, kinds, what set changes -/
/-- a told row is a look -/
def jOK (TV : TVt) (m : Nat) (b : Nat → Nat → Int32) (l c : Int32) : Bool := decide (0 ≤ l ∧ l < nI m) && (decide (isC c) && decide (seB TV b (tn c) = 0))
def jbs (TV : TVt) (kd : Nat → Nat) (nu : Nat → Int32) (it : Nat → Int32) (b0 : Nat → Nat → Int32) : Nat → Nat → Nat → Int32
  | 0 => b0
  | i + 1 => lookB TV (jbs TV kd nu it b0 i) (kd (tn (it (2 * i)))) (nu (tn (it (2 * i)))) (tn (it (2 * i + 1)))
section JDG
variable (TV : TVt) (m : Nat) (kd : Nat → Nat) (nu : Nat → Int32) (it : Nat → Int32) (b0 : Nat → Nat → Int32)
def jGain (i : Nat) : Int32 := gainB TV (jbs TV kd nu it b0 i) (kd (tn (it (2 * i)))) (nu (tn (it (2 * i)))) (tn (it (2 * i + 1)))
def jBad (i : Nat) : Bool := !jOK TV m (jbs TV kd nu it b0 i) (it (2 * i)) (it (2 * i + 1))
end JDG
theorem jbs_ok {TV : TVt} {m : Nat} (hm : m ≤ 6) {kd : Nat → Nat} {nu : Nat → Int32} (hnu : ∀ i, i < m → inR (nu i) 9) {it : Nat → Int32} {b0 : Nat → Nat → Int32} {cnt : Nat} (hb : BeOK b0 cnt) : ∀ i, (∀ j, j < i → jBad TV m kd nu it b0 j = false) → BeOK (jbs TV kd nu it b0 i) cnt := by
  intro i
  induction i with
  | zero => intro _; exact hb
  | succ i ih =>
    intro h
    have h1 := h i (by omega)
    unfold jBad jOK at h1
    simp at h1
    obtain ⟨j, hj, e⟩ := ofRange (s := m) h1.1.1 h1.1.2 (by omega)
    show BeOK (lookB TV _ _ _ _) cnt
    refine lookB_ok (ih (fun j hj => h j (by omega))) (hnu _ ?_)
    rw [e, tn_nI (by omega)]
    exact hj
theorem gainB_in (TV : TVt) {b : Nat → Nat → Int32} {cnt : Nat} (hb : BeOK b cnt) (k : Nat) (nn : Int32) {q : Nat} (hq : q < 48) : inR (gainB TV b k nn q) 999999 := by
  obtain ⟨o, hO, eO⟩ := (hb.1 q hq).ex (by omega)
  obtain ⟨g, hG, eG⟩ := (goodB_in TV b k nn q).ex (by omega)
  have h1 : o * g ≤ 999999 * 100 := Nat.mul_le_mul hO hG
  unfold gainB
  rw [eO, eG, pk_mul, show (100 : Int32) = nI 100 from rfl, pk_div (by omega) (by omega) (by omega)]
  exact inR_nI (Nat.div_le_of_le_mul (by omega)) (by omega)
theorem qX11_firstWrongRow_0 : Dq cX11_firstWrongRow 0 (.aload_n 0) 1 1 := ⟨by decide +kernel, rfl⟩
theorem qX11_firstWrongRow_1 : Dq cX11_firstWrongRow 1 (.getfield 16) 3 4 := ⟨by decide +kernel, rfl⟩
theorem qX11_firstWrongRow_4 : Dq cX11_firstWrongRow 4 (.aload_n 0) 1 5 := ⟨by decide +kernel, rfl⟩
theorem qX11_firstWrongRow_5 : Dq cX11_firstWrongRow 5 (.getfield 10) 3 8 := ⟨by decide +kernel, rfl⟩
theorem qX11_firstWrongRow_8 : Dq cX11_firstWrongRow 8 (.invokevirtual 281) 3 11 := ⟨by decide +kernel, rfl⟩
theorem qX11_firstWrongRow_11 : Dq cX11_firstWrongRow 11 (.aload_n 0) 1 12 := ⟨by decide +kernel, rfl⟩
theorem qX11_firstWrongRow_12 : Dq cX11_firstWrongRow 12 (.iconst 0) 1 13 := ⟨by decide +kernel, rfl⟩
theorem qX11_firstWrongRow_13 : Dq cX11_firstWrongRow 13 (.putfield 268) 3 16 := ⟨by decide +kernel, rfl⟩
theorem qX11_firstWrongRow_16 : Dq cX11_firstWrongRow 16 (.iconst 0) 1 17 := ⟨by decide +kernel, rfl⟩
theorem qX11_firstWrongRow_17 : Dq cX11_firstWrongRow 17 (.istore_n 2) 1 18 := ⟨by decide +kernel, rfl⟩
theorem qX11_firstWrongRow_18 : Dq cX11_firstWrongRow 18 (.iload_n 2) 1 19 := ⟨by decide +kernel, rfl⟩
theorem qX11_firstWrongRow_19 : Dq cX11_firstWrongRow 19 (.aload_n 1) 1 20 := ⟨by decide +kernel, rfl⟩
theorem qX11_firstWrongRow_20 : Dq cX11_firstWrongRow 20 (.getfield 245) 3 23 := ⟨by decide +kernel, rfl⟩
theorem qX11_firstWrongRow_23 : Dq cX11_firstWrongRow 23 (.iconst 2) 1 24 := ⟨by decide +kernel, rfl⟩
theorem qX11_firstWrongRow_24 : Dq cX11_firstWrongRow 24 (.idiv) 1 25 := ⟨by decide +kernel, rfl⟩
theorem qX11_firstWrongRow_25 : Dq cX11_firstWrongRow 25 (.if_icmp .ge 79) 3 28 := ⟨by decide +kernel, rfl⟩
theorem qX11_firstWrongRow_28 : Dq cX11_firstWrongRow 28 (.aload_n 0) 1 29 := ⟨by decide +kernel, rfl⟩
theorem qX11_firstWrongRow_29 : Dq cX11_firstWrongRow 29 (.aload_n 1) 1 30 := ⟨by decide +kernel, rfl⟩
theorem qX11_firstWrongRow_30 : Dq cX11_firstWrongRow 30 (.iconst 2) 1 31 := ⟨by decide +kernel, rfl⟩
theorem qX11_firstWrongRow_31 : Dq cX11_firstWrongRow 31 (.iload_n 2) 1 32 := ⟨by decide +kernel, rfl⟩
theorem qX11_firstWrongRow_32 : Dq cX11_firstWrongRow 32 (.imul) 1 33 := ⟨by decide +kernel, rfl⟩
theorem qX11_firstWrongRow_33 : Dq cX11_firstWrongRow 33 (.invokevirtual 246) 3 36 := ⟨by decide +kernel, rfl⟩
theorem qX11_firstWrongRow_36 : Dq cX11_firstWrongRow 36 (.invokevirtual 141) 3 39 := ⟨by decide +kernel, rfl⟩
theorem qX11_firstWrongRow_39 : Dq cX11_firstWrongRow 39 (.astore_n 3) 1 40 := ⟨by decide +kernel, rfl⟩
theorem qX11_firstWrongRow_40 : Dq cX11_firstWrongRow 40 (.aload_n 1) 1 41 := ⟨by decide +kernel, rfl⟩
theorem qX11_firstWrongRow_41 : Dq cX11_firstWrongRow 41 (.iconst 2) 1 42 := ⟨by decide +kernel, rfl⟩
theorem qX11_firstWrongRow_42 : Dq cX11_firstWrongRow 42 (.iload_n 2) 1 43 := ⟨by decide +kernel, rfl⟩
theorem qX11_firstWrongRow_43 : Dq cX11_firstWrongRow 43 (.imul) 1 44 := ⟨by decide +kernel, rfl⟩
theorem qX11_firstWrongRow_44 : Dq cX11_firstWrongRow 44 (.iconst 1) 1 45 := ⟨by decide +kernel, rfl⟩
theorem qX11_firstWrongRow_45 : Dq cX11_firstWrongRow 45 (.iadd) 1 46 := ⟨by decide +kernel, rfl⟩
theorem qX11_firstWrongRow_46 : Dq cX11_firstWrongRow 46 (.invokevirtual 246) 3 49 := ⟨by decide +kernel, rfl⟩
theorem qX11_firstWrongRow_49 : Dq cX11_firstWrongRow 49 (.istore 4) 2 51 := ⟨by decide +kernel, rfl⟩
theorem qX11_firstWrongRow_51 : Dq cX11_firstWrongRow 51 (.aload_n 3) 1 52 := ⟨by decide +kernel, rfl⟩
theorem qX11_firstWrongRow_52 : Dq cX11_firstWrongRow 52 (.ifnull 11) 3 55 := ⟨by decide +kernel, rfl⟩
theorem qX11_firstWrongRow_55 : Dq cX11_firstWrongRow 55 (.iload 4) 2 57 := ⟨by decide +kernel, rfl⟩
theorem qX11_firstWrongRow_57 : Dq cX11_firstWrongRow 57 (.invokestatic 107) 3 60 := ⟨by decide +kernel, rfl⟩
theorem qX11_firstWrongRow_60 : Dq cX11_firstWrongRow 60 (.ifCond .ne 5) 3 63 := ⟨by decide +kernel, rfl⟩
theorem qX11_firstWrongRow_63 : Dq cX11_firstWrongRow 63 (.iload_n 2) 1 64 := ⟨by decide +kernel, rfl⟩
theorem qX11_firstWrongRow_64 : Dq cX11_firstWrongRow 64 (.ireturn) 1 65 := ⟨by decide +kernel, rfl⟩
theorem qX11_firstWrongRow_65 : Dq cX11_firstWrongRow 65 (.aload_n 0) 1 66 := ⟨by decide +kernel, rfl⟩
theorem qX11_firstWrongRow_66 : Dq cX11_firstWrongRow 66 (.aload_n 0) 1 67 := ⟨by decide +kernel, rfl⟩
theorem qX11_firstWrongRow_67 : Dq cX11_firstWrongRow 67 (.getfield 16) 3 70 := ⟨by decide +kernel, rfl⟩
theorem qX11_firstWrongRow_70 : Dq cX11_firstWrongRow 70 (.aload_n 3) 1 71 := ⟨by decide +kernel, rfl⟩
theorem qX11_firstWrongRow_71 : Dq cX11_firstWrongRow 71 (.iload 4) 2 73 := ⟨by decide +kernel, rfl⟩
theorem qX11_firstWrongRow_73 : Dq cX11_firstWrongRow 73 (.invokevirtual 177) 3 76 := ⟨by decide +kernel, rfl⟩
theorem qX11_firstWrongRow_76 : Dq cX11_firstWrongRow 76 (.istore 5) 2 78 := ⟨by decide +kernel, rfl⟩
theorem qX11_firstWrongRow_78 : Dq cX11_firstWrongRow 78 (.iload 5) 2 80 := ⟨by decide +kernel, rfl⟩
theorem qX11_firstWrongRow_80 : Dq cX11_firstWrongRow 80 (.bipush (-3)) 2 82 := ⟨by decide +kernel, rfl⟩
theorem qX11_firstWrongRow_82 : Dq cX11_firstWrongRow 82 (.if_icmp .ne 5) 3 85 := ⟨by decide +kernel, rfl⟩
theorem qX11_firstWrongRow_85 : Dq cX11_firstWrongRow 85 (.iload_n 2) 1 86 := ⟨by decide +kernel, rfl⟩
theorem qX11_firstWrongRow_86 : Dq cX11_firstWrongRow 86 (.ireturn) 1 87 := ⟨by decide +kernel, rfl⟩
theorem qX11_firstWrongRow_87 : Dq cX11_firstWrongRow 87 (.aload_n 0) 1 88 := ⟨by decide +kernel, rfl⟩
theorem qX11_firstWrongRow_88 : Dq cX11_firstWrongRow 88 (.dup) 1 89 := ⟨by decide +kernel, rfl⟩
theorem qX11_firstWrongRow_89 : Dq cX11_firstWrongRow 89 (.getfield 268) 3 92 := ⟨by decide +kernel, rfl⟩
theorem qX11_firstWrongRow_92 : Dq cX11_firstWrongRow 92 (.iload 5) 2 94 := ⟨by decide +kernel, rfl⟩
theorem qX11_firstWrongRow_94 : Dq cX11_firstWrongRow 94 (.iadd) 1 95 := ⟨by decide +kernel, rfl⟩
theorem qX11_firstWrongRow_95 : Dq cX11_firstWrongRow 95 (.putfield 268) 3 98 := ⟨by decide +kernel, rfl⟩
theorem qX11_firstWrongRow_98 : Dq cX11_firstWrongRow 98 (.iinc 2 1) 3 101 := ⟨by decide +kernel, rfl⟩
theorem qX11_firstWrongRow_101 : Dq cX11_firstWrongRow 101 (.goto (-83)) 3 104 := ⟨by decide +kernel, rfl⟩
theorem qX11_firstWrongRow_104 : Dq cX11_firstWrongRow 104 (.iconst (-1)) 1 105 := ⟨by decide +kernel, rfl⟩
theorem qX11_firstWrongRow_105 : Dq cX11_firstWrongRow 105 (.ireturn) 1 106 := ⟨by decide +kernel, rfl⟩
set_option maxRecDepth 100000 in
set_option maxHeartbeats 4000000 in
theorem c_firstWrongRow {G : Glb} {h : AHp} (hs : ShC h) {cnt : Nat} {TV : Nat → Nat → (Nat → Int32) → Int32} (hru : RuOK h cnt TV) (hca : CaOK h cnt TV) (hbe : BeOK (bv h 1) cnt) {m : Nat} {e kd : Nat → Nat} {nu : Nat → Int32} (hp : Pty h m e kd nu) (hnu : ∀ i, i < m → inR (nu i) 9) {S : Nat} (hS : isS S) {s : Nat} (hz : hpI h S 2 = nI s) (hs40 : s ≤ 40)  : CP G m_X11_firstWrongRow 7 0 0 [.ref 0, .ref S] h (fun r h' => r = some (.int (fx (jBad TV m kd nu (hpI h (S + 1)) (bv h 1)) (s / 2) 0)) ∧ ∃ σ, h' = (σ, h.2) ∧ FrP h σ ∧ CaOK (σ, h.2) cnt TV ∧ σ 0 13 = sumN (jGain TV kd nu (hpI h (S + 1)) (bv h 1) ) (fc (jBad TV m kd nu (hpI h (S + 1)) (bv h 1)) (s / 2) 0)) := by
  suffices key : ∀ P : Option Value → AHp → Prop, (∀ r h', (r = some (.int (fx (jBad TV m kd nu (hpI h (S + 1)) (bv h 1)) (s / 2) 0)) ∧ ∃ σ, h' = (σ, h.2) ∧ FrP h σ ∧ CaOK (σ, h.2) cnt TV ∧ σ 0 13 = sumN (jGain TV kd nu (hpI h (S + 1)) (bv h 1) ) (fc (jBad TV m kd nu (hpI h (S + 1)) (bv h 1)) (s / 2) 0)) → P r h') → CP G m_X11_firstWrongRow 7 0 0 [.ref 0, .ref S] h P from key _ (fun _ _ z => z)
  intro P hP
  refine CP.of (by decide +kernel) (Nat.le_of_ble_eq_true rfl) fun X hX hR hnm => ?_
  show V X G 6 0 0 _ 0 [some (.ref 0), some (.ref S), none, none, none, none] [] h
  have hm6 := hp.2.1
  have hS30 : 30 ≤ S ∧ S ≤ 36 := by rcases hS with rfl | rfl | rfl | rfl <;> omega
  refine v_aload_n hX rfl qX11_firstWrongRow_0 ?_
  refine v_getR hX g_X11_16 (hs.kd 0 rfl) (hs.rf 1 rfl) qX11_firstWrongRow_1 ?_
  refine v_aload_n hX rfl qX11_firstWrongRow_4 ?_
  refine v_getR hX g_X11_10 (hs.kd 0 rfl) (hs.rf 0 rfl) qX11_firstWrongRow_5 ?_
  refine v_callVq hX hR k_X11_281 (hs.kd 4 rfl) (c_become (by exact hs) (by exact (Or.inr (Or.inl rfl))) (by exact (Or.inl rfl)) (by decide)) rfl (Nat.le_of_ble_eq_true rfl) rfl (Nat.le_of_ble_eq_true rfl) ⟨Nat.le_of_ble_eq_true rfl, Nat.le_of_ble_eq_true rfl⟩ qX11_firstWrongRow_8 ?_
  rintro _ _ ⟨rfl, σ, rfl, hσ⟩
  refine v_aload_n hX rfl qX11_firstWrongRow_11 ?_
  refine v_iconst hX li_0 qX11_firstWrongRow_12 ?_
  refine v_putI hX p_X11_268 (hs.kd 0 rfl) (Or.inl rfl) qX11_firstWrongRow_13 ?_
  refine v_iconst hX li_0 qX11_firstWrongRow_16 ?_
  refine v_istore_n hX (Nat.le_of_ble_eq_true rfl) rfl (ls' := [some _, some _, some _, none, none, none]) rfl qX11_firstWrongRow_17 ?_
  have L18 : ∀ (mz : Nat) (i : Nat) (σ : Nat → Nat → Int32), s / 2 - i = mz → (i ≤ s / 2) → (FrP h σ) → (CaOK (σ, h.2) cnt TV) → (bv (σ, h.2) 4 = jbs TV kd nu (hpI h (S + 1)) (bv h 1) i) → (∀ j, j < i → jBad TV m kd nu (hpI h (S + 1)) (bv h 1) j = false) → (σ 0 13 = sumN (jGain TV kd nu (hpI h (S + 1)) (bv h 1) ) i) → V X G 6 0 0 (QM X G P 0 0) 18 [some (.ref 0), some (.ref S), some (.int (nI i)), none, none, none] [] (σ, h.2) := by
    intro mz
    induction mz using Nat.strongRecOn with
    | _ mz ih =>
    intro i σ hm hi hf hca1 hbv hns z13
    have hp2 : Pty (σ, h.2) m e kd nu := hp.frP hs hf
    have hru2 : RuOK (σ, h.2) cnt TV := hru.frP hf
    have hbe2 : BeOK (bv (σ, h.2) 4) cnt := by rw [hbv]; exact jbs_ok hm6 hnu hbe i hns
    have fS : ∀ k, σ S k = hpI h S k := fun k => hf S k (by omega) (by omega) (by omega) (by omega)
    have fS1 : ∀ k, σ (S + 1) k = hpI h (S + 1) k := fun k => hf (S + 1) k (by omega) (by omega) (by omega) (by omega)
    refine v_iload_n hX rfl qX11_firstWrongRow_18 ?_
    refine v_aload_n hX rfl qX11_firstWrongRow_19 ?_
    refine v_getIv hX g_X11_245 (Or.inl rfl) (hs.sk hS) ((fS 2).trans hz) qX11_firstWrongRow_20 ?_
    refine v_iconst hX li_2 qX11_firstWrongRow_23 ?_
    refine v_idiv hX (by decide) qX11_firstWrongRow_24 ?_
    refine v_eqI (show nI s / 2 = nI (s / 2) by rw [show (2 : Int32) = nI 2 from rfl, pk_div (by omega) (by omega) (by omega)]) ?_
    refine v_icmp_geS hX 104 qX11_firstWrongRow_25 rfl (fun q25 => ?_) (fun q25 => ?_)
    · have e1 : i = s / 2 := Nat.le_antisymm hi (nI_le' (by omega) (by omega) q25)
      subst e1
      refine v_iconst hX li_n1 qX11_firstWrongRow_104 ?_
      refine v_ireturn hX qX11_firstWrongRow_105 (hP _ _ ?_)
      exact ⟨rz (fx_no (s / 2) 0 (fun j _ hj => hns j (by omega))), σ, rfl, hf, hca1, by rw [fc_no (s / 2) 0 (fun j _ hj => hns j (by omega)), Nat.zero_add]; exact z13⟩
    · have hl0 := nI_lt' (by omega) (by omega) q25
      refine v_aload_n hX rfl qX11_firstWrongRow_28 ?_
      refine v_aload_n hX rfl qX11_firstWrongRow_29 ?_
      refine v_iconst hX li_2 qX11_firstWrongRow_30 ?_
      refine v_iload_n hX rfl qX11_firstWrongRow_31 ?_
      refine v_imul hX qX11_firstWrongRow_32 ?_
      refine v_eqI (show (2 : Int32) * nI i = nI (2 * i) by rw [show (2 : Int32) = nI 2 from rfl, pk_mul]) ?_
      refine v_callVq hX hR k_X11_246 (hs.sk hS) (c_itemAt (by exact hs) (by exact hS) (by exact ((fS 2).trans hz)) (by exact hs40) _) rfl (Nat.le_of_ble_eq_true rfl) rfl (Nat.le_of_ble_eq_true rfl) ⟨Nat.le_of_ble_eq_true rfl, Nat.le_of_ble_eq_true rfl⟩ qX11_firstWrongRow_33 ?_
      rintro _ _ ⟨rfl, rfl⟩
      refine v_eqI (show _ = hpI h (S + 1) (2 * i) by rw [if_pos ⟨nI_pos' (by omega), nI_lt (by omega) (by omega)⟩, tn_nI (by omega)]; exact fS1 _) ?_
      refine v_callVq hX hR k_X11_141 (hs.kd 0 rfl) (c_lookerAt (by exact hs) (by exact hp2) _) rfl (Nat.le_of_ble_eq_true rfl) rfl (Nat.le_of_ble_eq_true rfl) ⟨Nat.le_of_ble_eq_true rfl, Nat.le_of_ble_eq_true rfl⟩ qX11_firstWrongRow_36 ?_
      rintro _ _ ⟨⟨l, hl, el, rfl⟩ | ⟨hn, rfl⟩, rfl⟩
      · skip
        refine v_astore_n hX (Nat.le_of_ble_eq_true rfl) rfl (ls' := [some _, some _, some _, some _, none, none]) rfl qX11_firstWrongRow_39 ?_
        refine v_aload_n hX rfl qX11_firstWrongRow_40 ?_
        refine v_iconst hX li_2 qX11_firstWrongRow_41 ?_
        refine v_iload_n hX rfl qX11_firstWrongRow_42 ?_
        refine v_imul hX qX11_firstWrongRow_43 ?_
        refine v_iconst hX li_1 qX11_firstWrongRow_44 ?_
        refine v_iadd hX qX11_firstWrongRow_45 ?_
        refine v_eqI (show (2 : Int32) * nI i + 1 = nI (2 * i + 1) by rw [show (2 : Int32) = nI 2 from rfl, pk_mul, nI_1]) ?_
        refine v_callVq hX hR k_X11_246 (hs.sk hS) (c_itemAt (by exact hs) (by exact hS) (by exact ((fS 2).trans hz)) (by exact hs40) _) rfl (Nat.le_of_ble_eq_true rfl) rfl (Nat.le_of_ble_eq_true rfl) ⟨Nat.le_of_ble_eq_true rfl, Nat.le_of_ble_eq_true rfl⟩ qX11_firstWrongRow_46 ?_
        rintro _ _ ⟨rfl, rfl⟩
        refine v_eqI (show _ = hpI h (S + 1) (2 * i + 1) by rw [if_pos ⟨nI_pos' (by omega), nI_lt (by omega) (by omega)⟩, tn_nI (by omega)]; exact fS1 _) ?_
        refine v_istore hX (Nat.le_of_ble_eq_true rfl) rfl (ls' := [some _, some _, some _, some _, some _, none]) rfl qX11_firstWrongRow_49 ?_
        refine v_aload_n hX rfl qX11_firstWrongRow_51 ?_
        refine v_ifnull hX qX11_firstWrongRow_52 ?_
        refine v_iload hX rfl qX11_firstWrongRow_55 ?_
        refine v_callSq hX hR k_X11_107 (c_isCell _) rfl (Nat.le_of_ble_eq_true rfl) rfl (Nat.le_of_ble_eq_true rfl) ⟨Nat.le_of_ble_eq_true rfl, Nat.le_of_ble_eq_true rfl⟩ qX11_firstWrongRow_57 ?_
        rintro _ _ ⟨rfl, rfl⟩
        first | refine v_if_neB hX 65 qX11_firstWrongRow_60 rfl (fun q60 => ?_) (fun q60 => ?_) | refine v_if_ne hX 65 qX11_firstWrongRow_60 rfl (fun q60 => ?_) (fun q60 => ?_)
        · obtain ⟨w, hw, ec⟩ := ofRange (s := 48) q60.1 (by have h1 := leI.mp q60.2; have h2 : (47 : Int32).toInt = 47 := rfl; have h3 : (nI 48).toInt = 48 := rfl; rw [ltI]; omega) (by omega)
          rw [ec]
          refine v_aload_n hX rfl qX11_firstWrongRow_65 ?_
          refine v_aload_n hX rfl qX11_firstWrongRow_66 ?_
          refine v_getR hX g_X11_16 (hs.kd 0 rfl) (hs.rf 1 rfl) qX11_firstWrongRow_67 ?_
          refine v_aload_n hX rfl qX11_firstWrongRow_70 ?_
          refine v_iload hX rfl qX11_firstWrongRow_71 ?_
          refine v_callVq hX hR k_X11_177 (hs.kd 0 rfl) (c_gainByLook (by exact hs) (by exact hru2) (by exact hca1) (by exact (Or.inr (Or.inl rfl))) (by exact hbe2) (by exact hw) (by exact (hp2.2.2 l hl).2.1) (by exact (hp2.2.2 l hl).2.2.1) (by exact (hp2.2.2 l hl).2.2.2) (by exact (eye38 hs (hp2.2.2 l hl).2.2.1))) rfl (Nat.le_of_ble_eq_true rfl) rfl (Nat.le_of_ble_eq_true rfl) ⟨Nat.le_of_ble_eq_true rfl, Nat.le_of_ble_eq_true rfl⟩ qX11_firstWrongRow_73 ?_
          rintro _ _ (⟨hse2, rfl, σ3, rfl, hfv, hca3⟩ | ⟨hse2, rfl, σ3, rfl, hf3, hca3, hb3⟩)
          · rw [hbv] at hse2
            refine v_istore hX (Nat.le_of_ble_eq_true rfl) rfl (ls' := [some _, some _, some _, some _, some _, some _]) rfl qX11_firstWrongRow_76 ?_
            refine v_iload hX rfl qX11_firstWrongRow_78 ?_
            refine v_bipush hX lb_n3 qX11_firstWrongRow_80 ?_
            refine v_icmp_ne hX 87 qX11_firstWrongRow_82 rfl (fun q82 => ?_) (fun q82 => ?_)
            · exact absurd rfl q82
            · skip
              refine v_iload_n hX rfl qX11_firstWrongRow_85 ?_
              refine v_ireturn hX qX11_firstWrongRow_86 (hP _ _ ?_)
              have hbad : jBad TV m kd nu (hpI h (S + 1)) (bv h 1) i = true := by
                unfold jBad jOK
                simp only [el, ec, tn_nI (show w < 2000000 by omega)]
                simp [hse2]
              exact ⟨rz (fx_hit hbad (s / 2) 0 (Nat.zero_le _) (by omega) (fun j _ hj => hns j hj)), σ3, rfl, fun a k a1 a2 a3 a4 => (hfv.P a k a1 a2 a3 a4).trans (hf a k a1 a2 a3 a4), hca3, by rw [fc_hit hbad (s / 2) 0 (Nat.zero_le _) (by omega) (fun j _ hj => hns j hj)]; exact (hfv 0 13 (by omega) (by omega)).trans z13⟩
          · rw [hbv] at hse2 hb3 ⊢
            have hgn : gainB TV (jbs TV kd nu (hpI h (S + 1)) (bv h 1) i) (kd l) (nu l) w = jGain TV kd nu (hpI h (S + 1)) (bv h 1) i := by unfold jGain; rw [el, ec, tn_nI (by omega), tn_nI (by omega)]
            have hgi := gainB_in TV (jbs_ok hm6 hnu hbe i hns) (kd l) (nu l) hw
            rw [hgn] at hgi ⊢
            have hgood : jBad TV m kd nu (hpI h (S + 1)) (bv h 1) i = false := by
                unfold jBad jOK
                simp only [el, ec, tn_nI (show w < 2000000 by omega), hse2]
                simp [isCn hw, nI_pos' (show l < 2 ^ 31 by omega), nI_lt hl (show m < 2 ^ 31 by omega)]
            refine v_istore hX (Nat.le_of_ble_eq_true rfl) rfl (ls' := [some _, some _, some _, some _, some _, some _]) rfl qX11_firstWrongRow_76 ?_
            refine v_iload hX rfl qX11_firstWrongRow_78 ?_
            refine v_bipush hX lb_n3 qX11_firstWrongRow_80 ?_
            refine v_icmp_ne hX 87 qX11_firstWrongRow_82 rfl (fun q82 => ?_) (fun q82 => ?_)
            · skip
              refine v_aload_n hX rfl qX11_firstWrongRow_87 ?_
              refine v_dup hX rfl qX11_firstWrongRow_88 ?_
              refine v_getIv hX g_X11_268 (Or.inl rfl) (hs.kd 0 rfl) ((hf3 0 13 (by omega) (by omega) (by omega)).trans z13) qX11_firstWrongRow_89 ?_
              refine v_iload hX rfl qX11_firstWrongRow_92 ?_
              refine v_iadd hX qX11_firstWrongRow_94 ?_
              refine v_putI hX p_X11_268 (hs.kd 0 rfl) (Or.inl rfl) qX11_firstWrongRow_95 ?_
              refine v_iinc hX rfl (by first | exact ii_nI _ | exact ii_1 _) (Nat.le_of_ble_eq_true rfl) rfl (ls' := [some _, some _, some _, some _, some _, some _]) rfl qX11_firstWrongRow_98 ?_
              refine v_goto hX 18 qX11_firstWrongRow_101 rfl ?_
              refine v_forget (ls' := [_, _, _, none, none, none]) ⟨Or.inr rfl, Or.inr rfl, Or.inr rfl, Or.inl rfl, Or.inl rfl, Or.inl rfl, trivial⟩ ?_
              exact ih _ (by omega) (i + 1) (stI (σ3, h.2) 0 13 (sumN (jGain TV kd nu (hpI h (S + 1)) (bv h 1) ) i + jGain TV kd nu (hpI h (S + 1)) (bv h 1) i)).1 rfl (by omega) (fun a k a1 a2 a3 a4 => by show hpI (stI _ _ _ _) _ _ = _; rw [hpI_st, if_neg (by omega)]; exact (hf3.P a k a1 a2 a3 a4).trans (hf a k a1 a2 a3 a4)) (hca3.eq (fun a a1 a2 k _ => by show hpI (stI _ _ _ _) _ _ = _; rw [hpI_st, if_neg (by omega)])) (by show bv (stI (σ3, h.2) 0 13 _) 4 = _; rw [bv_other (by omega), hb3]; show _ = lookB TV _ _ _ _; rw [el, ec, tn_nI (by omega), tn_nI (by omega)]) (fun j hj => by rcases Nat.lt_succ_iff_lt_or_eq.mp hj with z | rfl; exact hns j z; exact hgood) rfl
            · exact absurd (show (jGain TV kd nu (hpI h (S + 1)) (bv h 1) i).toInt = -3 by rw [q82]; rfl) (by have := hgi.1; omega)
        · skip
          refine v_iload_n hX rfl qX11_firstWrongRow_63 ?_
          refine v_ireturn hX qX11_firstWrongRow_64 (hP _ _ ?_)
          have hbad : jBad TV m kd nu (hpI h (S + 1)) (bv h 1) i = true := by
            unfold jBad jOK
            first | simp [hn] | simp [q60]
          exact ⟨rz (fx_hit hbad (s / 2) 0 (Nat.zero_le _) (by omega) (fun j _ hj => hns j hj)), σ, rfl, hf, hca1, by rw [fc_hit hbad (s / 2) 0 (Nat.zero_le _) (by omega) (fun j _ hj => hns j hj)]; exact z13⟩
      · skip
        refine v_astore_nN hX (Nat.le_of_ble_eq_true rfl) rfl (ls' := [some _, some _, some _, some _, none, none]) rfl qX11_firstWrongRow_39 ?_
        refine v_aload_n hX rfl qX11_firstWrongRow_40 ?_
        refine v_iconst hX li_2 qX11_firstWrongRow_41 ?_
        refine v_iload_n hX rfl qX11_firstWrongRow_42 ?_
        refine v_imul hX qX11_firstWrongRow_43 ?_
        refine v_iconst hX li_1 qX11_firstWrongRow_44 ?_
        refine v_iadd hX qX11_firstWrongRow_45 ?_
        refine v_eqI (show (2 : Int32) * nI i + 1 = nI (2 * i + 1) by rw [show (2 : Int32) = nI 2 from rfl, pk_mul, nI_1]) ?_
        refine v_callVq hX hR k_X11_246 (hs.sk hS) (c_itemAt (by exact hs) (by exact hS) (by exact ((fS 2).trans hz)) (by exact hs40) _) rfl (Nat.le_of_ble_eq_true rfl) rfl (Nat.le_of_ble_eq_true rfl) ⟨Nat.le_of_ble_eq_true rfl, Nat.le_of_ble_eq_true rfl⟩ qX11_firstWrongRow_46 ?_
        rintro _ _ ⟨rfl, rfl⟩
        refine v_eqI (show _ = hpI h (S + 1) (2 * i + 1) by rw [if_pos ⟨nI_pos' (by omega), nI_lt (by omega) (by omega)⟩, tn_nI (by omega)]; exact fS1 _) ?_
        refine v_istore hX (Nat.le_of_ble_eq_true rfl) rfl (ls' := [some _, some _, some _, some _, some _, none]) rfl qX11_firstWrongRow_49 ?_
        refine v_aload_nN hX rfl qX11_firstWrongRow_51 ?_
        refine v_ifnullN hX 63 qX11_firstWrongRow_52 rfl ?_
        refine v_iload_n hX rfl qX11_firstWrongRow_63 ?_
        refine v_ireturn hX qX11_firstWrongRow_64 (hP _ _ ?_)
        have hbad : jBad TV m kd nu (hpI h (S + 1)) (bv h 1) i = true := by
          unfold jBad jOK
          first | simp [hn] | simp [q60]
        exact ⟨rz (fx_hit hbad (s / 2) 0 (Nat.zero_le _) (by omega) (fun j _ hj => hns j hj)), σ, rfl, hf, hca1, by rw [fc_hit hbad (s / 2) 0 (Nat.zero_le _) (by omega) (fun j _ hj => hns j hj)]; exact z13⟩
  have hbv0 := asB_bv hσ
  exact L18 _ 0 _ rfl (by omega) (fun a k a1 a2 a3 a4 => by show hpI (stI _ _ _ _) _ _ = _; rw [hpI_st, if_neg (by omega)]; exact congrFun (hσ.2.2.2 a (by omega) (by omega) (by omega)) k) (hca.P (fun a a1 a2 => funext fun k => by show hpI (stI _ _ _ _) _ _ = _; rw [hpI_st, if_neg (by omega)]; exact congrFun (hσ.2.2.2 a (by omega) (by omega) (by omega)) k)) (by show bv (stI (σ, h.2) 0 13 0) 4 = _; rw [bv_other (by omega)]; exact hbv0) (fun j hj => absurd hj (Nat.not_lt_zero _)) rfl
/-- odds of a cell of the beach are v more -/
def adB (b : Nat → Nat → Int32) (q : Nat) (v : Int32) : Nat → Nat → Int32 := up2 b 1 q (mnI 999999 (b 1 q + v))
def picB (b : Nat → Nat → Int32) (q : Nat) (w : Int32) : Nat → Nat → Int32 :=
  (fun b => if q % 8 < 7 then adB b (q + 1) (w / 2) else b) ((fun b => if 0 < q % 8 then adB b (q - 1) (w / 2) else b) ((fun b => if q + 8 < 48 then adB b (q + 8) (w / 2) else b) ((fun b => if 8 ≤ q then adB b (q - 8) (w / 2) else b) (adB b q w))))
set_option maxRecDepth 100000 in
set_option maxHeartbeats 4000000 in
theorem c_addOddsB {G : Glb} {h : AHp} (hs : ShC h) {B : Nat} (hB : isB B) (i v : Int32) : CP G m_X0_addOdds 3 0 0 [.ref B, .int i, .int v] h (fun r h' => r = none ∧ ∃ σ, h' = (σ, h.2) ∧ bv (σ, h.2) B = (if isC i then adB (bv h B) (tn i) v else bv h B) ∧ ∀ a, a ≠ B + 1 → σ a = hpI h a) := by
  suffices key : ∀ P : Option Value → AHp → Prop, (∀ r h', (r = none ∧ ∃ σ, h' = (σ, h.2) ∧ bv (σ, h.2) B = (if isC i then adB (bv h B) (tn i) v else bv h B) ∧ ∀ a, a ≠ B + 1 → σ a = hpI h a) → P r h') → CP G m_X0_addOdds 3 0 0 [.ref B, .int i, .int v] h P from key _ (fun _ _ z => z)
  intro P hP
  refine CP.of (by decide +kernel) (Nat.le_of_ble_eq_true rfl) fun X hX hR hnm => ?_
  show V X G 3 0 0 _ 0 [some (.ref B), some (.int i), some (.int v)] [] h
  refine v_iload_n hX rfl qX0_addOdds_0 ?_
  refine v_callNq hX hR k_X0_37 (c_isCell _) rfl (Nat.le_of_ble_eq_true rfl) rfl (Nat.le_of_ble_eq_true rfl) ⟨Nat.le_of_ble_eq_true rfl, Nat.le_of_ble_eq_true rfl⟩ qX0_addOdds_1 ?_
  rintro _ _ ⟨rfl, rfl⟩
  first | refine v_if_eqB hX 26 qX0_addOdds_4 rfl (fun q4 => ?_) (fun q4 => ?_) | refine v_if_eq hX 26 qX0_addOdds_4 rfl (fun q4 => ?_) (fun q4 => ?_)
  · skip
    refine v_return hX qX0_addOdds_26 (hP _ _ ?_)
    first | exact ⟨rfl, h.1, rfl, by rw [if_neg q4], fun a _ => rfl⟩ | (refine ⟨rfl, _, rfl, ?_, fun a ha => ?_⟩; (show bv (stI h (B + 1) (tn i) _) B = _; rw [bv_up hB (Or.inl ⟨Or.inl rfl, (isC.ix q4).2.2⟩), if_pos q4, adB, bv1 (isC.ix q4).2.2]; rfl); (funext k; show hpI (stI _ _ _ _) _ _ = _; rw [hpI_st, if_neg (fun z => ha z.1)]))
  · skip
    refine v_aload_n hX rfl qX0_addOdds_7 ?_
    refine v_getR hX g_X0_9 (hs.bk hB) (hs.bo hB) qX0_addOdds_8 ?_
    refine v_iload_n hX rfl qX0_addOdds_11 ?_
    refine v_ldc hX c_X0_41 qX0_addOdds_12 ?_
    refine v_aload_n hX rfl qX0_addOdds_14 ?_
    refine v_getR hX g_X0_9 (hs.bk hB) (hs.bo hB) qX0_addOdds_15 ?_
    refine v_iload_n hX rfl qX0_addOdds_18 ?_
    refine v_ialdJ hX (hs.bok hB) (hs.bol hB) (by exact isC.ix q4) qX0_addOdds_19 ?_
    refine v_iload_n hX rfl qX0_addOdds_20 ?_
    refine v_iadd hX qX0_addOdds_21 ?_
    refine v_min hX hR (Nat.le_of_ble_eq_true rfl) k_X0_42 (Nat.le_of_ble_eq_true rfl) ⟨Nat.le_of_ble_eq_true rfl, Nat.le_of_ble_eq_true rfl⟩ qX0_addOdds_22 ?_
    refine v_iastJ hX (hs.bok hB) (hs.bol hB) (by exact isC.ix q4) qX0_addOdds_25 ?_
    refine v_return hX qX0_addOdds_26 (hP _ _ ?_)
    first | exact ⟨rfl, h.1, rfl, by rw [if_neg q4], fun a _ => rfl⟩ | (refine ⟨rfl, _, rfl, ?_, fun a ha => ?_⟩; (show bv (stI h (B + 1) (tn i) _) B = _; rw [bv_up hB (Or.inl ⟨Or.inl rfl, (isC.ix q4).2.2⟩), if_pos q4, adB, bv1 (isC.ix q4).2.2]; rfl); (funext k; show hpI (stI _ _ _ _) _ _ = _; rw [hpI_st, if_neg (fun z => ha z.1)]))
theorem isC_sub {q d : Nat} (hq : q < 48) (hd : d < 48) : (isC (nI q - nI d) ↔ d ≤ q) ∧ (d ≤ q → tn (nI q - nI d) = q - d) := by
  have h1 := pk_sub_toInt (a := q) (b := d) (by omega) (by omega)
  refine ⟨⟨fun z => ?_, fun z => ?_⟩, fun z => ?_⟩
  · have := leI.mp z.1
    have e : (0 : Int32).toInt = 0 := rfl
    omega
  · rw [pk_sub z]; exact isCn (by omega)
  · rw [pk_sub z]; exact tn_nI (by omega)
theorem isC_add {q d : Nat} (hq : q < 48) (hd : d < 48) : (isC (nI q + nI d) ↔ q + d < 48) ∧ tn (nI q + nI d) = q + d := by
  rw [nI_add]
  refine ⟨⟨fun z => ?_, fun z => isCn z⟩, tn_nI (by omega)⟩
  have := (nI_leI (a := q + d) (b := 47) (by omega) (by omega)).mp z.2
  omega
theorem qX11_addPicture_0 : Dq cX11_addPicture 0 (.iload_n 1) 1 1 := ⟨by decide +kernel, rfl⟩
theorem qX11_addPicture_1 : Dq cX11_addPicture 1 (.bipush 8) 2 3 := ⟨by decide +kernel, rfl⟩
theorem qX11_addPicture_3 : Dq cX11_addPicture 3 (.irem) 1 4 := ⟨by decide +kernel, rfl⟩
theorem qX11_addPicture_4 : Dq cX11_addPicture 4 (.istore_n 3) 1 5 := ⟨by decide +kernel, rfl⟩
theorem qX11_addPicture_5 : Dq cX11_addPicture 5 (.aload_n 0) 1 6 := ⟨by decide +kernel, rfl⟩
theorem qX11_addPicture_6 : Dq cX11_addPicture 6 (.getfield 10) 3 9 := ⟨by decide +kernel, rfl⟩
theorem qX11_addPicture_9 : Dq cX11_addPicture 9 (.iload_n 1) 1 10 := ⟨by decide +kernel, rfl⟩
theorem qX11_addPicture_10 : Dq cX11_addPicture 10 (.iload_n 2) 1 11 := ⟨by decide +kernel, rfl⟩
theorem qX11_addPicture_11 : Dq cX11_addPicture 11 (.invokevirtual 396) 3 14 := ⟨by decide +kernel, rfl⟩
theorem qX11_addPicture_14 : Dq cX11_addPicture 14 (.aload_n 0) 1 15 := ⟨by decide +kernel, rfl⟩
theorem qX11_addPicture_15 : Dq cX11_addPicture 15 (.getfield 10) 3 18 := ⟨by decide +kernel, rfl⟩
theorem qX11_addPicture_18 : Dq cX11_addPicture 18 (.iload_n 1) 1 19 := ⟨by decide +kernel, rfl⟩
theorem qX11_addPicture_19 : Dq cX11_addPicture 19 (.bipush 8) 2 21 := ⟨by decide +kernel, rfl⟩
theorem qX11_addPicture_21 : Dq cX11_addPicture 21 (.isub) 1 22 := ⟨by decide +kernel, rfl⟩
theorem qX11_addPicture_22 : Dq cX11_addPicture 22 (.iload_n 2) 1 23 := ⟨by decide +kernel, rfl⟩
theorem qX11_addPicture_23 : Dq cX11_addPicture 23 (.iconst 2) 1 24 := ⟨by decide +kernel, rfl⟩
theorem qX11_addPicture_24 : Dq cX11_addPicture 24 (.idiv) 1 25 := ⟨by decide +kernel, rfl⟩
theorem qX11_addPicture_25 : Dq cX11_addPicture 25 (.invokevirtual 396) 3 28 := ⟨by decide +kernel, rfl⟩
theorem qX11_addPicture_28 : Dq cX11_addPicture 28 (.aload_n 0) 1 29 := ⟨by decide +kernel, rfl⟩
theorem qX11_addPicture_29 : Dq cX11_addPicture 29 (.getfield 10) 3 32 := ⟨by decide +kernel, rfl⟩
theorem qX11_addPicture_32 : Dq cX11_addPicture 32 (.iload_n 1) 1 33 := ⟨by decide +kernel, rfl⟩
theorem qX11_addPicture_33 : Dq cX11_addPicture 33 (.bipush 8) 2 35 := ⟨by decide +kernel, rfl⟩
theorem qX11_addPicture_35 : Dq cX11_addPicture 35 (.iadd) 1 36 := ⟨by decide +kernel, rfl⟩
theorem qX11_addPicture_36 : Dq cX11_addPicture 36 (.iload_n 2) 1 37 := ⟨by decide +kernel, rfl⟩
theorem qX11_addPicture_37 : Dq cX11_addPicture 37 (.iconst 2) 1 38 := ⟨by decide +kernel, rfl⟩
theorem qX11_addPicture_38 : Dq cX11_addPicture 38 (.idiv) 1 39 := ⟨by decide +kernel, rfl⟩
theorem qX11_addPicture_39 : Dq cX11_addPicture 39 (.invokevirtual 396) 3 42 := ⟨by decide +kernel, rfl⟩
theorem qX11_addPicture_42 : Dq cX11_addPicture 42 (.iload_n 3) 1 43 := ⟨by decide +kernel, rfl⟩
theorem qX11_addPicture_43 : Dq cX11_addPicture 43 (.ifCond .le 16) 3 46 := ⟨by decide +kernel, rfl⟩
theorem qX11_addPicture_46 : Dq cX11_addPicture 46 (.aload_n 0) 1 47 := ⟨by decide +kernel, rfl⟩
theorem qX11_addPicture_47 : Dq cX11_addPicture 47 (.getfield 10) 3 50 := ⟨by decide +kernel, rfl⟩
theorem qX11_addPicture_50 : Dq cX11_addPicture 50 (.iload_n 1) 1 51 := ⟨by decide +kernel, rfl⟩
theorem qX11_addPicture_51 : Dq cX11_addPicture 51 (.iconst 1) 1 52 := ⟨by decide +kernel, rfl⟩
theorem qX11_addPicture_52 : Dq cX11_addPicture 52 (.isub) 1 53 := ⟨by decide +kernel, rfl⟩
theorem qX11_addPicture_53 : Dq cX11_addPicture 53 (.iload_n 2) 1 54 := ⟨by decide +kernel, rfl⟩
theorem qX11_addPicture_54 : Dq cX11_addPicture 54 (.iconst 2) 1 55 := ⟨by decide +kernel, rfl⟩
theorem qX11_addPicture_55 : Dq cX11_addPicture 55 (.idiv) 1 56 := ⟨by decide +kernel, rfl⟩
theorem qX11_addPicture_56 : Dq cX11_addPicture 56 (.invokevirtual 396) 3 59 := ⟨by decide +kernel, rfl⟩
theorem qX11_addPicture_59 : Dq cX11_addPicture 59 (.iload_n 3) 1 60 := ⟨by decide +kernel, rfl⟩
theorem qX11_addPicture_60 : Dq cX11_addPicture 60 (.bipush 7) 2 62 := ⟨by decide +kernel, rfl⟩
theorem qX11_addPicture_62 : Dq cX11_addPicture 62 (.if_icmp .ge 16) 3 65 := ⟨by decide +kernel, rfl⟩
theorem qX11_addPicture_65 : Dq cX11_addPicture 65 (.aload_n 0) 1 66 := ⟨by decide +kernel, rfl⟩
theorem qX11_addPicture_66 : Dq cX11_addPicture 66 (.getfield 10) 3 69 := ⟨by decide +kernel, rfl⟩
theorem qX11_addPicture_69 : Dq cX11_addPicture 69 (.iload_n 1) 1 70 := ⟨by decide +kernel, rfl⟩
theorem qX11_addPicture_70 : Dq cX11_addPicture 70 (.iconst 1) 1 71 := ⟨by decide +kernel, rfl⟩
theorem qX11_addPicture_71 : Dq cX11_addPicture 71 (.iadd) 1 72 := ⟨by decide +kernel, rfl⟩
theorem qX11_addPicture_72 : Dq cX11_addPicture 72 (.iload_n 2) 1 73 := ⟨by decide +kernel, rfl⟩
theorem qX11_addPicture_73 : Dq cX11_addPicture 73 (.iconst 2) 1 74 := ⟨by decide +kernel, rfl⟩
theorem qX11_addPicture_74 : Dq cX11_addPicture 74 (.idiv) 1 75 := ⟨by decide +kernel, rfl⟩
theorem qX11_addPicture_75 : Dq cX11_addPicture 75 (.invokevirtual 396) 3 78 := ⟨by decide +kernel, rfl⟩
theorem qX11_addPicture_78 : Dq cX11_addPicture 78 (.return_) 1 79 := ⟨by decide +kernel, rfl⟩
set_option maxRecDepth 100000 in
set_option maxHeartbeats 4000000 in
theorem c_addPicture {G : Glb} {h : AHp} (hs : ShC h) {q : Nat} (hq : q < 48) (w : Int32) : CP G m_X11_addPicture 4 0 0 [.ref 0, .int (nI q), .int w] h (fun r h' => r = none ∧ ∃ σ, h' = (σ, h.2) ∧ bv (σ, h.2) 1 = picB (bv h 1) q w ∧ ∀ a, a ≠ 2 → σ a = hpI h a) := by
  suffices key : ∀ P : Option Value → AHp → Prop, (∀ r h', (r = none ∧ ∃ σ, h' = (σ, h.2) ∧ bv (σ, h.2) 1 = picB (bv h 1) q w ∧ ∀ a, a ≠ 2 → σ a = hpI h a) → P r h') → CP G m_X11_addPicture 4 0 0 [.ref 0, .int (nI q), .int w] h P from key _ (fun _ _ z => z)
  intro P hP
  refine CP.of (by decide +kernel) (Nat.le_of_ble_eq_true rfl) fun X hX hR hnm => ?_
  show V X G 4 0 0 _ 0 [some (.ref 0), some (.int (nI q)), some (.int w), none] [] h
  refine v_iload_n hX rfl qX11_addPicture_0 ?_
  refine v_bipush hX lb_8 qX11_addPicture_1 ?_
  refine v_irem hX (by decide) qX11_addPicture_3 ?_
  refine v_eqI (show _ = nI (q % 8) from pk_rem (d := 8) (by omega) (by omega) (by omega)) ?_
  refine v_istore_n hX (Nat.le_of_ble_eq_true rfl) rfl (ls' := [some _, some _, some _, some _]) rfl qX11_addPicture_4 ?_
  refine v_aload_n hX rfl qX11_addPicture_5 ?_
  refine v_getR hX g_X11_10 (hs.kd 0 rfl) (hs.rf 0 rfl) qX11_addPicture_6 ?_
  refine v_iload_n hX rfl qX11_addPicture_9 ?_
  refine v_iload_n hX rfl qX11_addPicture_10 ?_
  refine v_callVq hX hR k_X11_396 (hs.kd 1 rfl) (c_addOddsB (by exact hs) (by exact (Or.inl rfl)) _ _) rfl (Nat.le_of_ble_eq_true rfl) rfl (Nat.le_of_ble_eq_true rfl) ⟨Nat.le_of_ble_eq_true rfl, Nat.le_of_ble_eq_true rfl⟩ qX11_addPicture_11 ?_
  rintro _ _ ⟨rfl, σ1, rfl, hb1, ho1⟩
  rw [if_pos (isCn hq), tn_nI (by omega)] at hb1
  refine v_aload_n hX rfl qX11_addPicture_14 ?_
  refine v_getR hX g_X11_10 (hs.kd 0 rfl) (hs.rf 0 rfl) qX11_addPicture_15 ?_
  refine v_iload_n hX rfl qX11_addPicture_18 ?_
  refine v_bipush hX lb_8 qX11_addPicture_19 ?_
  refine v_isub hX qX11_addPicture_21 ?_
  refine v_iload_n hX rfl qX11_addPicture_22 ?_
  refine v_iconst hX li_2 qX11_addPicture_23 ?_
  refine v_idiv hX (by decide) qX11_addPicture_24 ?_
  refine v_callVq hX hR k_X11_396 (hs.kd 1 rfl) (c_addOddsB (by exact hs) (by exact (Or.inl rfl)) _ _) rfl (Nat.le_of_ble_eq_true rfl) rfl (Nat.le_of_ble_eq_true rfl) ⟨Nat.le_of_ble_eq_true rfl, Nat.le_of_ble_eq_true rfl⟩ qX11_addPicture_25 ?_
  rintro _ _ ⟨rfl, σ2, rfl, hb2, ho2⟩
  rw [show (8 : Int32) = nI 8 from rfl] at hb2
  have hb2 : bv (σ2, h.2) 1 = if 8 ≤ q then adB (bv (σ1, h.2) 1) (q - 8) (w / 2) else bv (σ1, h.2) 1 := by
    by_cases z : 8 ≤ q
    · rw [if_pos z]; rw [if_pos ((isC_sub hq (by omega)).1.mpr z), (isC_sub hq (by omega)).2 z] at hb2; exact hb2
    · rw [if_neg z]; rw [if_neg (fun y => z ((isC_sub hq (by omega)).1.mp y))] at hb2; exact hb2
  rw [hb1] at hb2
  refine v_aload_n hX rfl qX11_addPicture_28 ?_
  refine v_getR hX g_X11_10 (hs.kd 0 rfl) (hs.rf 0 rfl) qX11_addPicture_29 ?_
  refine v_iload_n hX rfl qX11_addPicture_32 ?_
  refine v_bipush hX lb_8 qX11_addPicture_33 ?_
  refine v_iadd hX qX11_addPicture_35 ?_
  refine v_iload_n hX rfl qX11_addPicture_36 ?_
  refine v_iconst hX li_2 qX11_addPicture_37 ?_
  refine v_idiv hX (by decide) qX11_addPicture_38 ?_
  refine v_callVq hX hR k_X11_396 (hs.kd 1 rfl) (c_addOddsB (by exact hs) (by exact (Or.inl rfl)) _ _) rfl (Nat.le_of_ble_eq_true rfl) rfl (Nat.le_of_ble_eq_true rfl) ⟨Nat.le_of_ble_eq_true rfl, Nat.le_of_ble_eq_true rfl⟩ qX11_addPicture_39 ?_
  rintro _ _ ⟨rfl, σ3, rfl, hb3, ho3⟩
  rw [show (8 : Int32) = nI 8 from rfl] at hb3
  have hb3 : bv (σ3, h.2) 1 = if q + 8 < 48 then adB (bv (σ2, h.2) 1) (q + 8) (w / 2) else bv (σ2, h.2) 1 := by
    by_cases z : q + 8 < 48
    · rw [if_pos z]; rw [if_pos ((isC_add hq (by omega)).1.mpr z), (isC_add hq (by omega)).2] at hb3; exact hb3
    · rw [if_neg z]; rw [if_neg (fun y => z ((isC_add hq (by omega)).1.mp y))] at hb3; exact hb3
  rw [hb2] at hb3
  have ho3 : ∀ a, a ≠ 2 → σ3 a = hpI h a := fun a z => (ho3 a z).trans ((ho2 a z).trans (ho1 a z))
  refine v_iload_n hX rfl qX11_addPicture_42 ?_
  refine v_if_leS hX 59 qX11_addPicture_43 rfl (fun q43 => ?_) (fun q43 => ?_)
  · have hx : ¬ 0 < q % 8 := fun z => absurd q43 (nI_nle z (by omega))
    have hb4 : bv (σ3, h.2) 1 = _ := hb3
    refine v_iload_n hX rfl qX11_addPicture_59 ?_
    refine v_bipush hX lb_7 qX11_addPicture_60 ?_
    refine v_icmp_geS hX 78 qX11_addPicture_62 rfl (fun q62 => ?_) (fun q62 => ?_)
    · have hy : ¬ q % 8 < 7 := fun z => absurd (nI_le' (i := 7) (by omega) (by omega) q62) (by omega)
      refine v_return hX qX11_addPicture_78 (hP _ _ ?_)
      first | exact ⟨rfl, σ5, rfl, by rw [hb5]; unfold picB; first | simp only [if_neg hx, if_pos hy] | simp only [if_pos hx, if_pos hy], fun a z => (ho5 a z).trans (by first | exact ho4 a z | exact ho3 a z)⟩ | exact ⟨rfl, σ4, rfl, by rw [hb4]; unfold picB; simp only [if_pos hx, if_neg hy], ho4⟩ | exact ⟨rfl, σ3, rfl, by rw [hb4]; unfold picB; simp only [if_neg hx, if_neg hy], ho3⟩
    · have hy : q % 8 < 7 := nI_lt' (s := 7) (by omega) (by omega) q62
      refine v_aload_n hX rfl qX11_addPicture_65 ?_
      refine v_getR hX g_X11_10 (hs.kd 0 rfl) (hs.rf 0 rfl) qX11_addPicture_66 ?_
      refine v_iload_n hX rfl qX11_addPicture_69 ?_
      refine v_iconst hX li_1 qX11_addPicture_70 ?_
      refine v_iadd hX qX11_addPicture_71 ?_
      refine v_iload_n hX rfl qX11_addPicture_72 ?_
      refine v_iconst hX li_2 qX11_addPicture_73 ?_
      refine v_idiv hX (by decide) qX11_addPicture_74 ?_
      refine v_callVq hX hR k_X11_396 (hs.kd 1 rfl) (c_addOddsB (by exact hs) (by exact (Or.inl rfl)) _ _) rfl (Nat.le_of_ble_eq_true rfl) rfl (Nat.le_of_ble_eq_true rfl) ⟨Nat.le_of_ble_eq_true rfl, Nat.le_of_ble_eq_true rfl⟩ qX11_addPicture_75 ?_
      rintro _ _ ⟨rfl, σ5, rfl, hb5, ho5⟩
      rw [show (1 : Int32) = nI 1 from rfl, if_pos ((isC_add hq (by omega)).1.mpr (by omega)), (isC_add hq (by omega)).2] at hb5
      first | rw [hb4] at hb5 | skip
      refine v_return hX qX11_addPicture_78 (hP _ _ ?_)
      first | exact ⟨rfl, σ5, rfl, by rw [hb5]; unfold picB; first | simp only [if_neg hx, if_pos hy] | simp only [if_pos hx, if_pos hy], fun a z => (ho5 a z).trans (by first | exact ho4 a z | exact ho3 a z)⟩ | exact ⟨rfl, σ4, rfl, by rw [hb4]; unfold picB; simp only [if_pos hx, if_neg hy], ho4⟩ | exact ⟨rfl, σ3, rfl, by rw [hb4]; unfold picB; simp only [if_neg hx, if_neg hy], ho3⟩
  · have hx : 0 < q % 8 := Nat.pos_of_ne_zero (fun z => by rw [z] at q43; exact absurd q43 (by decide))
    refine v_aload_n hX rfl qX11_addPicture_46 ?_
    refine v_getR hX g_X11_10 (hs.kd 0 rfl) (hs.rf 0 rfl) qX11_addPicture_47 ?_
    refine v_iload_n hX rfl qX11_addPicture_50 ?_
    refine v_iconst hX li_1 qX11_addPicture_51 ?_
    refine v_isub hX qX11_addPicture_52 ?_
    refine v_iload_n hX rfl qX11_addPicture_53 ?_
    refine v_iconst hX li_2 qX11_addPicture_54 ?_
    refine v_idiv hX (by decide) qX11_addPicture_55 ?_
    refine v_callVq hX hR k_X11_396 (hs.kd 1 rfl) (c_addOddsB (by exact hs) (by exact (Or.inl rfl)) _ _) rfl (Nat.le_of_ble_eq_true rfl) rfl (Nat.le_of_ble_eq_true rfl) ⟨Nat.le_of_ble_eq_true rfl, Nat.le_of_ble_eq_true rfl⟩ qX11_addPicture_56 ?_
    rintro _ _ ⟨rfl, σ4, rfl, hb4, ho4⟩
    rw [show (1 : Int32) = nI 1 from rfl, if_pos ((isC_sub hq (by omega)).1.mpr (by omega)), (isC_sub hq (by omega)).2 (by omega), hb3] at hb4
    have ho4 : ∀ a, a ≠ 2 → σ4 a = hpI h a := fun a z => (ho4 a z).trans (ho3 a z)
    refine v_iload_n hX rfl qX11_addPicture_59 ?_
    refine v_bipush hX lb_7 qX11_addPicture_60 ?_
    refine v_icmp_geS hX 78 qX11_addPicture_62 rfl (fun q62 => ?_) (fun q62 => ?_)
    · have hy : ¬ q % 8 < 7 := fun z => absurd (nI_le' (i := 7) (by omega) (by omega) q62) (by omega)
      refine v_return hX qX11_addPicture_78 (hP _ _ ?_)
      first | exact ⟨rfl, σ5, rfl, by rw [hb5]; unfold picB; first | simp only [if_neg hx, if_pos hy] | simp only [if_pos hx, if_pos hy], fun a z => (ho5 a z).trans (by first | exact ho4 a z | exact ho3 a z)⟩ | exact ⟨rfl, σ4, rfl, by rw [hb4]; unfold picB; simp only [if_pos hx, if_neg hy], ho4⟩ | exact ⟨rfl, σ3, rfl, by rw [hb4]; unfold picB; simp only [if_neg hx, if_neg hy], ho3⟩
    · have hy : q % 8 < 7 := nI_lt' (s := 7) (by omega) (by omega) q62
      refine v_aload_n hX rfl qX11_addPicture_65 ?_
      refine v_getR hX g_X11_10 (hs.kd 0 rfl) (hs.rf 0 rfl) qX11_addPicture_66 ?_
      refine v_iload_n hX rfl qX11_addPicture_69 ?_
      refine v_iconst hX li_1 qX11_addPicture_70 ?_
      refine v_iadd hX qX11_addPicture_71 ?_
      refine v_iload_n hX rfl qX11_addPicture_72 ?_
      refine v_iconst hX li_2 qX11_addPicture_73 ?_
      refine v_idiv hX (by decide) qX11_addPicture_74 ?_
      refine v_callVq hX hR k_X11_396 (hs.kd 1 rfl) (c_addOddsB (by exact hs) (by exact (Or.inl rfl)) _ _) rfl (Nat.le_of_ble_eq_true rfl) rfl (Nat.le_of_ble_eq_true rfl) ⟨Nat.le_of_ble_eq_true rfl, Nat.le_of_ble_eq_true rfl⟩ qX11_addPicture_75 ?_
      rintro _ _ ⟨rfl, σ5, rfl, hb5, ho5⟩
      rw [show (1 : Int32) = nI 1 from rfl, if_pos ((isC_add hq (by omega)).1.mpr (by omega)), (isC_add hq (by omega)).2] at hb5
      first | rw [hb4] at hb5 | skip
      refine v_return hX qX11_addPicture_78 (hP _ _ ?_)
      first | exact ⟨rfl, σ5, rfl, by rw [hb5]; unfold picB; first | simp only [if_neg hx, if_pos hy] | simp only [if_pos hx, if_pos hy], fun a z => (ho5 a z).trans (by first | exact ho4 a z | exact ho3 a z)⟩ | exact ⟨rfl, σ4, rfl, by rw [hb4]; unfold picB; simp only [if_pos hx, if_neg hy], ho4⟩ | exact ⟨rfl, σ3, rfl, by rw [hb4]; unfold picB; simp only [if_neg hx, if_neg hy], ho3⟩
