/-! the reference: a look; the best look -/
/-- what best and looks leave alone -/
def FrY (h : AHp) (σ : Nat → Nat → Int32) : Prop := ∀ a k, ¬ (a = 42 ∨ a = 43) → ¬ (a = 46 ∨ a = 47) → ¬ (a = 38 ∧ (k = 10 ∨ k = 11 ∨ (15 ≤ k ∧ k ≤ 32))) → σ a k = hpI h a k
theorem FrY.n {h : AHp} {σ : Nat → Nat → Int32} (hf : FrY h σ) : FrN h σ := fun a k a1 a2 a3 => hf a k a1 (by omega) (by omega)
theorem FrR.s {h : AHp} {σ : Nat → Nat → Int32} {J : Nat → Nat → Int64} (hf : FrR h σ J) : FrY h σ := fun a k a1 a2 a3 => hf.1 a k (by omega)
theorem FrY.tr {h : AHp} {σ σ' : Nat → Nat → Int32} {J : Nat → Nat → Int64} (a : FrY h σ) (b : FrY (mkH h σ J) σ') : FrY h σ' := fun x k h1 h2 h3 => (b x k h1 h2 h3).trans (a x k h1 h2 h3)
/-- what best leaves alone -/
def FrX (h : AHp) (σ : Nat → Nat → Int32) : Prop := ∀ a k, ¬ (a = 46 ∨ a = 47) → ¬ (a = 38 ∧ (15 ≤ k ∧ k ≤ 32)) → σ a k = hpI h a k
theorem FrX.s {h : AHp} {σ : Nat → Nat → Int32} (hf : FrX h σ) : FrY h σ := fun a k a1 a2 a3 => hf a k a2 (by omega)
theorem FrR.t {h : AHp} {σ : Nat → Nat → Int32} {J : Nat → Nat → Int64} (hf : FrR h σ J) : FrX h σ := fun a k a2 a3 => hf.1 a k (by omega)
theorem FrX.tr {h : AHp} {σ σ' : Nat → Nat → Int32} {J : Nat → Nat → Int64} (a : FrX h σ) (b : FrX (mkH h σ J) σ') : FrX h σ' := fun x k h2 h3 => (b x k h2 h3).trans (a x k h2 h3)
theorem FrX.bm {h : AHp} {σ : Nat → Nat → Int32} (hf : FrX h σ) (J : Nat → Nat → Int64) : bm (mkH h σ J) = bm h := bm_ext (h := mkH h σ J) (h' := h) (fun k _ => hf 42 k (by omega) (by omega)) (fun k _ => hf 43 k (by omega) (by omega)) (hf 38 9 (by omega) (by omega)) (hf 38 10 (by omega) (by omega)) (hf 38 11 (by omega) (by omega)) (hf 38 4 (by omega) (by omega))
theorem FrX.mw {h : AHp} {E : Sst} {σ : Nat → Nat → Int32} (hf : FrX h σ) (hc : MW h E) (J : Nat → Nat → Int64) : MW (mkH h σ J) E := hc.q (J := J) hf.s.n ((hf.bm J).trans hc.2.2.2.1) hc.2.2.2.2.2.2.2.2.2.2.1
section LK
variable {TV : TVt} {b : Bch} {k q : Nat} {nn : Int32}
theorem lk1 {j : Nat} : lookB TV b k nn q 1 j = if j = q then b 1 q * (100 - goodB TV b k nn q) / 100 else b 1 j := by
  unfold lookB
  rw [up2_ne (by omega), up2_ne (by omega), up2_ne (by omega)]
  by_cases e : j = q
  · subst e; rw [up2_at, if_pos rfl]
  · rw [up2_ne (fun z => e z.2), if_neg e]
theorem lk2 {j : Nat} : lookB TV b k nn q 2 j = if j = q then mnI 99 (b 2 q + smB k nn) else b 2 j := by
  unfold lookB
  rw [up2_ne (by omega), up2_ne (by omega)]
  by_cases e : j = q
  · subst e; rw [up2_at, if_pos rfl]
  · rw [up2_ne (fun z => e z.2), if_neg e, up2_ne (by omega)]
theorem lkHr : lookB TV b k nn q 0 3 = rmI (b 0 3 + (b 0 4 + tkB k nn) / 60) 24 := by
  unfold lookB
  rw [up2_ne (by omega), up2_at]
theorem lkMn : lookB TV b k nn q 0 4 = rmI (b 0 4 + tkB k nn) 60 := by
  unfold lookB
  rw [up2_at]
theorem lk02 : lookB TV b k nn q 0 2 = b 0 2 := by
  unfold lookB
  rw [up2_ne (by omega), up2_ne (by omega), up2_ne (by omega), up2_ne (by omega)]
theorem lk05 : lookB TV b k nn q 0 5 = b 0 5 := by
  unfold lookB
  rw [up2_ne (by omega), up2_ne (by omega), up2_ne (by omega), up2_ne (by omega)]
theorem lk0 (hq : q < 48) {i j : Nat} (ho : ¬ okI i j) : lookB TV b k nn q i j = b i j := by
  unfold lookB
  rw [up2_ne (fun z => ho (Or.inr ⟨z.1, by omega, by omega⟩)), up2_ne (fun z => ho (Or.inr ⟨z.1, by omega, by omega⟩)), up2_ne (fun z => ho (Or.inl ⟨Or.inr z.1, by omega⟩)), up2_ne (fun z => ho (Or.inl ⟨Or.inl z.1, by omega⟩))]
end LK
theorem wi_mn : ∀ j : Nat, j < 120 → wiI (nI j) 0 99 = mnI 99 (nI j) := by decide
theorem rm60 {w H : Nat} (hw : w < 120) (hH : H < 24) : rmI (nI w) 60 = nI (if w < 60 then w else w - 60) ∧ rmI (nI H + nI w / 60) 24 = nI (if w < 60 then H else if H = 23 then 0 else H + 1) := by
  have e60 : (60 : Int32) = nI 60 := rfl
  have e24 : (24 : Int32) = nI 24 := rfl
  rw [e60, e24, pk_div (by omega) (by omega) (by omega), nI_add]
  unfold rmI
  rw [pk_rem (by omega) (by omega) (by omega), pk_rem (by omega) (by omega) (by omega)]
  by_cases h : w < 60
  · rw [if_pos h, if_pos h]
    exact ⟨congrArg nI (by omega), congrArg nI (by omega)⟩
  · rw [if_neg h, if_neg h]
    refine ⟨congrArg nI (by omega), congrArg nI ?_⟩
    split <;> omega
theorem lk_fin {h : AHp} {E : Sst} (hc : MW h E) {σ : Nat → Nat → Int32} {J : Nat → Nat → Int64} (hf : FrR h σ J) {l q : Nat} (hl : l < sM E) (hq : q < 48) {H M tk : Nat} (hH : H ≤ 23) (hM : M ≤ 59) (tk2 : tk ≤ 15) (eH : sB E 0 3 = nI H) (eM : sB E 0 4 = nI M) (etk : tkB (sK E l) (sN E l) = nI tk) {τ : Nat → Nat → Int32} (ht : ∀ a k, ¬ (a = 42 ∧ k = q) → ¬ (a = 43 ∧ k = q) → ¬ (a = 38 ∧ (k = 10 ∨ k = 11)) → τ a k = σ a k) (h1 : τ 42 q = sB E 1 q * (100 - goodB (sT E) (sB E) (sK E l) (sN E l) q) / 100) (h2 : τ 43 q = mnI 99 (sB E 2 q + smB (sK E l) (sN E l))) (h3 : τ 38 11 = nI (if M + tk < 60 then M + tk else M + tk - 60)) (h4 : τ 38 10 = nI (if M + tk < 60 then H else if H = 23 then 0 else H + 1)) : FrY h τ ∧ MW (mkH h τ J) (setB E (lookB (sT E) (sB E) (sK E l) (sN E l) q)) := by
  have hok := hc.2.2.2.2.2.2.2
  have hb := hc.2.2.2.1
  have hnu : inR (sN E l) 9 := (hok.2.2.1 l hl).2
  have f1 : FrY h τ := fun a k a1 a2 a3 => (ht a k (by omega) (by omega) (by omega)).trans (hf.1 a k (by omega))
  obtain ⟨r1, r2⟩ := rm60 (w := M + tk) (H := H) (by omega) (by omega)
  refine ⟨f1, hc.q f1.n (bm_is (h := mkH h τ J) (fun j hj => ?_) (fun j hj => ?_) ?_ ?_ ?_ ?_ (fun i j ho => ?_)) (lookB_ok hok.2.2.2.1 hnu)⟩
  · show τ 42 j = _
    rw [lk1]
    by_cases e : j = q
    · subst e; rw [if_pos rfl]; exact h1
    · rw [if_neg e, ht 42 j (by omega) (by omega) (by omega), hf.1 42 j (by omega), ← hb, bm1 hj]
  · show τ 43 j = _
    rw [lk2]
    by_cases e : j = q
    · subst e; rw [if_pos rfl]; exact h2
    · rw [if_neg e, ht 43 j (by omega) (by omega) (by omega), hf.1 43 j (by omega), ← hb, bm2 hj]
  · show τ 38 9 = _
    rw [lk02, ht 38 9 (by omega) (by omega) (by omega), hf.1 38 9 (by omega), ← hb, bmB]
  · show τ 38 10 = _
    rw [lkHr, eH, eM, etk, nI_add, r2, h4]
  · show τ 38 11 = _
    rw [lkMn, eM, etk, nI_add, r1, h3]
  · show τ 38 4 = _
    rw [lk05, ht 38 4 (by omega) (by omega) (by omega), hf.1 38 4 (by omega), ← hb, bmR]
  · rw [lk0 hq ho, ← hb]; exact bm_0 ho
theorem qX12_looks_0 : Dq cX12_looks 0 (.aload_n 0) 1 1 := ⟨by decide +kernel, rfl⟩
theorem qX12_looks_1 : Dq cX12_looks 1 (.getfield 23) 3 4 := ⟨by decide +kernel, rfl⟩
theorem qX12_looks_4 : Dq cX12_looks 4 (.iload_n 2) 1 5 := ⟨by decide +kernel, rfl⟩
theorem qX12_looks_5 : Dq cX12_looks 5 (.aload_n 0) 1 6 := ⟨by decide +kernel, rfl⟩
theorem qX12_looks_6 : Dq cX12_looks 6 (.getfield 23) 3 9 := ⟨by decide +kernel, rfl⟩
theorem qX12_looks_9 : Dq cX12_looks 9 (.iload_n 2) 1 10 := ⟨by decide +kernel, rfl⟩
theorem qX12_looks_10 : Dq cX12_looks 10 (.iaload) 1 11 := ⟨by decide +kernel, rfl⟩
theorem qX12_looks_11 : Dq cX12_looks 11 (.bipush 100) 2 13 := ⟨by decide +kernel, rfl⟩
theorem qX12_looks_13 : Dq cX12_looks 13 (.aload_n 0) 1 14 := ⟨by decide +kernel, rfl⟩
theorem qX12_looks_14 : Dq cX12_looks 14 (.iload_n 1) 1 15 := ⟨by decide +kernel, rfl⟩
theorem qX12_looks_15 : Dq cX12_looks 15 (.iload_n 2) 1 16 := ⟨by decide +kernel, rfl⟩
theorem qX12_looks_16 : Dq cX12_looks 16 (.invokevirtual 261) 3 19 := ⟨by decide +kernel, rfl⟩
theorem qX12_looks_19 : Dq cX12_looks 19 (.isub) 1 20 := ⟨by decide +kernel, rfl⟩
theorem qX12_looks_20 : Dq cX12_looks 20 (.imul) 1 21 := ⟨by decide +kernel, rfl⟩
theorem qX12_looks_21 : Dq cX12_looks 21 (.bipush 100) 2 23 := ⟨by decide +kernel, rfl⟩
theorem qX12_looks_23 : Dq cX12_looks 23 (.idiv) 1 24 := ⟨by decide +kernel, rfl⟩
theorem qX12_looks_24 : Dq cX12_looks 24 (.iastore) 1 25 := ⟨by decide +kernel, rfl⟩
theorem qX12_looks_25 : Dq cX12_looks 25 (.aload_n 0) 1 26 := ⟨by decide +kernel, rfl⟩
theorem qX12_looks_26 : Dq cX12_looks 26 (.getfield 26) 3 29 := ⟨by decide +kernel, rfl⟩
theorem qX12_looks_29 : Dq cX12_looks 29 (.iload_n 2) 1 30 := ⟨by decide +kernel, rfl⟩
theorem qX12_looks_30 : Dq cX12_looks 30 (.aload_n 0) 1 31 := ⟨by decide +kernel, rfl⟩
theorem qX12_looks_31 : Dq cX12_looks 31 (.getfield 26) 3 34 := ⟨by decide +kernel, rfl⟩
theorem qX12_looks_34 : Dq cX12_looks 34 (.iload_n 2) 1 35 := ⟨by decide +kernel, rfl⟩
theorem qX12_looks_35 : Dq cX12_looks 35 (.iaload) 1 36 := ⟨by decide +kernel, rfl⟩
theorem qX12_looks_36 : Dq cX12_looks 36 (.aload_n 0) 1 37 := ⟨by decide +kernel, rfl⟩
theorem qX12_looks_37 : Dq cX12_looks 37 (.iload_n 1) 1 38 := ⟨by decide +kernel, rfl⟩
theorem qX12_looks_38 : Dq cX12_looks 38 (.invokevirtual 270) 3 41 := ⟨by decide +kernel, rfl⟩
theorem qX12_looks_41 : Dq cX12_looks 41 (.iadd) 1 42 := ⟨by decide +kernel, rfl⟩
theorem qX12_looks_42 : Dq cX12_looks 42 (.iconst 0) 1 43 := ⟨by decide +kernel, rfl⟩
theorem qX12_looks_43 : Dq cX12_looks 43 (.bipush 99) 2 45 := ⟨by decide +kernel, rfl⟩
theorem qX12_looks_45 : Dq cX12_looks 45 (.invokestatic 246) 3 48 := ⟨by decide +kernel, rfl⟩
theorem qX12_looks_48 : Dq cX12_looks 48 (.iastore) 1 49 := ⟨by decide +kernel, rfl⟩
theorem qX12_looks_49 : Dq cX12_looks 49 (.aload_n 0) 1 50 := ⟨by decide +kernel, rfl⟩
theorem qX12_looks_50 : Dq cX12_looks 50 (.dup) 1 51 := ⟨by decide +kernel, rfl⟩
theorem qX12_looks_51 : Dq cX12_looks 51 (.getfield 111) 3 54 := ⟨by decide +kernel, rfl⟩
theorem qX12_looks_54 : Dq cX12_looks 54 (.aload_n 0) 1 55 := ⟨by decide +kernel, rfl⟩
theorem qX12_looks_55 : Dq cX12_looks 55 (.iload_n 1) 1 56 := ⟨by decide +kernel, rfl⟩
theorem qX12_looks_56 : Dq cX12_looks 56 (.invokevirtual 267) 3 59 := ⟨by decide +kernel, rfl⟩
theorem qX12_looks_59 : Dq cX12_looks 59 (.iadd) 1 60 := ⟨by decide +kernel, rfl⟩
theorem qX12_looks_60 : Dq cX12_looks 60 (.putfield 111) 3 63 := ⟨by decide +kernel, rfl⟩
theorem qX12_looks_63 : Dq cX12_looks 63 (.aload_n 0) 1 64 := ⟨by decide +kernel, rfl⟩
theorem qX12_looks_64 : Dq cX12_looks 64 (.getfield 111) 3 67 := ⟨by decide +kernel, rfl⟩
theorem qX12_looks_67 : Dq cX12_looks 67 (.bipush 60) 2 69 := ⟨by decide +kernel, rfl⟩
theorem qX12_looks_69 : Dq cX12_looks 69 (.if_icmp .lt 40) 3 72 := ⟨by decide +kernel, rfl⟩
theorem qX12_looks_72 : Dq cX12_looks 72 (.aload_n 0) 1 73 := ⟨by decide +kernel, rfl⟩
theorem qX12_looks_73 : Dq cX12_looks 73 (.dup) 1 74 := ⟨by decide +kernel, rfl⟩
theorem qX12_looks_74 : Dq cX12_looks 74 (.getfield 111) 3 77 := ⟨by decide +kernel, rfl⟩
theorem qX12_looks_77 : Dq cX12_looks 77 (.bipush 60) 2 79 := ⟨by decide +kernel, rfl⟩
theorem qX12_looks_79 : Dq cX12_looks 79 (.isub) 1 80 := ⟨by decide +kernel, rfl⟩
theorem qX12_looks_80 : Dq cX12_looks 80 (.putfield 111) 3 83 := ⟨by decide +kernel, rfl⟩
theorem qX12_looks_83 : Dq cX12_looks 83 (.aload_n 0) 1 84 := ⟨by decide +kernel, rfl⟩
theorem qX12_looks_84 : Dq cX12_looks 84 (.aload_n 0) 1 85 := ⟨by decide +kernel, rfl⟩
theorem qX12_looks_85 : Dq cX12_looks 85 (.getfield 29) 3 88 := ⟨by decide +kernel, rfl⟩
theorem qX12_looks_88 : Dq cX12_looks 88 (.bipush 23) 2 90 := ⟨by decide +kernel, rfl⟩
theorem qX12_looks_90 : Dq cX12_looks 90 (.if_icmp .ne 7) 3 93 := ⟨by decide +kernel, rfl⟩
theorem qX12_looks_93 : Dq cX12_looks 93 (.iconst 0) 1 94 := ⟨by decide +kernel, rfl⟩
theorem qX12_looks_94 : Dq cX12_looks 94 (.goto 9) 3 97 := ⟨by decide +kernel, rfl⟩
theorem qX12_looks_97 : Dq cX12_looks 97 (.aload_n 0) 1 98 := ⟨by decide +kernel, rfl⟩
theorem qX12_looks_98 : Dq cX12_looks 98 (.getfield 29) 3 101 := ⟨by decide +kernel, rfl⟩
theorem qX12_looks_101 : Dq cX12_looks 101 (.iconst 1) 1 102 := ⟨by decide +kernel, rfl⟩
theorem qX12_looks_102 : Dq cX12_looks 102 (.iadd) 1 103 := ⟨by decide +kernel, rfl⟩
theorem qX12_looks_103 : Dq cX12_looks 103 (.putfield 29) 3 106 := ⟨by decide +kernel, rfl⟩
theorem qX12_looks_106 : Dq cX12_looks 106 (.goto (-43)) 3 109 := ⟨by decide +kernel, rfl⟩
theorem qX12_looks_109 : Dq cX12_looks 109 (.return_) 1 110 := ⟨by decide +kernel, rfl⟩
set_option maxRecDepth 100000 in
set_option maxHeartbeats 4000000 in
theorem m_looks {G : Glb} {h : AHp} {E : Sst} (hc : MW h E) {l q : Nat} (hl : l < sM E) (hq : q < 48) : CP G m_X12_looks 65 0 0 [.ref 38, .int (nI l), .int (nI q)] h (fun r h' => r = none ∧ ∃ σ J, h' = mkH h σ J ∧ FrY h σ ∧ MW (mkH h σ J) (setB E (lookB (sT E) (sB E) (sK E l) (sN E l) q))) := by
  suffices key : ∀ P : Option Value → AHp → Prop, (∀ r h', (r = none ∧ ∃ σ J, h' = mkH h σ J ∧ FrY h σ ∧ MW (mkH h σ J) (setB E (lookB (sT E) (sB E) (sK E l) (sN E l) q))) → P r h') → CP G m_X12_looks 65 0 0 [.ref 38, .int (nI l), .int (nI q)] h P from key _ (fun _ _ z => z)
  intro P hP
  obtain ⟨hm, htx, hp, hb, hkp, htp, hst, hok⟩ := id hc
  have hc6 := hok.1
  have hm6 := hok.2.1
  have hkd : ∀ i, i < sM E → sK E i < 6 := fun i hi => (hok.2.2.1 i hi).1
  have hnu0 : ∀ i, i < sM E → inR (sN E i) 9 := fun i hi => (hok.2.2.1 i hi).2
  have hbe : BeOK (bm h) (sC E) := by rw [hb]; exact hok.2.2.2.1
  have hnu : inR (sN E l) 9 := (hok.2.2.1 l hl).2
  obtain ⟨tk, tk1, tk2, etk⟩ := tkR_in (k := sK E l) hnu
  obtain ⟨sm, sm2, esm, esm2⟩ := smR_in (k := sK E l) hnu
  obtain ⟨H, hH, eH⟩ := hok.2.2.2.1.2.2.2.1.ex (by omega)
  obtain ⟨M, hM, eM⟩ := hok.2.2.2.1.2.2.2.2.1.ex (by omega)
  obtain ⟨t, hT, eT⟩ := (hok.2.2.2.1.2.1 q hq).ex (by omega)
  have eHm : hpI h 38 10 = nI H := by rw [← eH, ← hb]; rfl
  have eMm : hpI h 38 11 = nI M := by rw [← eM, ← hb]; rfl
  refine CP.of (by decide +kernel) (Nat.le_of_ble_eq_true rfl) fun X hX hR hnm => ?_
  show V X G 3 0 0 _ 0 [some (.ref 38), some (.int (nI l)), some (.int (nI q))] [] h
  refine v_aload_n hX rfl qX12_looks_0 ?_
  refine v_getR hX g_X12_23 (hm.kd 38 rfl) (hm.rf 3 rfl) qX12_looks_1 ?_
  refine v_iload_n hX rfl qX12_looks_4 ?_
  refine v_aload_n hX rfl qX12_looks_5 ?_
  refine v_getR hX g_X12_23 (hm.kd 38 rfl) (hm.rf 3 rfl) qX12_looks_6 ?_
  refine v_iload_n hX rfl qX12_looks_9 ?_
  refine v_ialdV hX (hm.kd 42 rfl) (hm.ln 42 rfl) (by exact ix_n hq rfl) (show _ = sB E 1 q by rw [← hb, bm1 hq]) qX12_looks_10 ?_
  refine v_bipush hX lb_100 qX12_looks_11 ?_
  refine v_aload_n hX rfl qX12_looks_13 ?_
  refine v_iload_n hX rfl qX12_looks_14 ?_
  refine v_iload_n hX rfl qX12_looks_15 ?_
  refine v_callVq hX hR k_X12_261 (hm.kd 38 rfl) (mw_good (by exact hc) (by exact hl) (by exact hq)) rfl (Nat.le_of_ble_eq_true rfl) rfl (Nat.le_of_ble_eq_true rfl) ⟨Nat.le_of_ble_eq_true rfl, Nat.le_of_ble_eq_true rfl⟩ qX12_looks_16 ?_
  rintro _ _ ⟨rfl, σ, J, rfl, hf⟩
  refine v_isub hX qX12_looks_19 ?_
  refine v_imul hX qX12_looks_20 ?_
  refine v_bipush hX lb_100 qX12_looks_21 ?_
  refine v_idiv hX (by decide) qX12_looks_23 ?_
  refine v_iastJ hX (hm.kd 42 rfl) (hm.ln 42 rfl) (by exact ix_n hq rfl) qX12_looks_24 ?_
  refine v_aload_n hX rfl qX12_looks_25 ?_
  refine v_getR hX g_X12_26 (hm.kd 38 rfl) (hm.rf 4 rfl) qX12_looks_26 ?_
  refine v_iload_n hX rfl qX12_looks_29 ?_
  refine v_aload_n hX rfl qX12_looks_30 ?_
  refine v_getR hX g_X12_26 (hm.kd 38 rfl) (hm.rf 4 rfl) qX12_looks_31 ?_
  refine v_iload_n hX rfl qX12_looks_34 ?_
  refine v_ialdV hX (hm.kd 43 rfl) (hm.ln 43 rfl) (by exact ix_n hq rfl) (show _ = nI t from (hf.1 43 q (by omega)).trans (by rw [← eT, ← hb, bm2 hq])) qX12_looks_35 ?_
  refine v_aload_n hX rfl qX12_looks_36 ?_
  refine v_iload_n hX rfl qX12_looks_37 ?_
  refine v_callVq hX hR k_X12_270 (hm.kd 38 rfl) (m_stamps (by exact hm) (by exact (hp.ext (hf.1 38 14 (by omega)) (fun i => hf.1 44 i (by omega)) (fun i => hf.1 45 i (by omega)))) (by exact hm6) (by exact hkd) (by exact hl)) rfl (Nat.le_of_ble_eq_true rfl) rfl (Nat.le_of_ble_eq_true rfl) ⟨Nat.le_of_ble_eq_true rfl, Nat.le_of_ble_eq_true rfl⟩ qX12_looks_38 ?_
  rintro _ _ ⟨rfl, rfl⟩
  rw [esm2]
  refine v_iadd hX qX12_looks_41 ?_
  refine v_eqI (nI_add _ _) ?_
  refine v_iconst hX li_0 qX12_looks_42 ?_
  refine v_bipush hX lb_99 qX12_looks_43 ?_
  refine v_callSq hX hR k_X12_246 (m_within _ _ _) rfl (Nat.le_of_ble_eq_true rfl) rfl (Nat.le_of_ble_eq_true rfl) ⟨Nat.le_of_ble_eq_true rfl, Nat.le_of_ble_eq_true rfl⟩ qX12_looks_45 ?_
  rintro _ _ ⟨rfl, rfl⟩
  refine v_eqI (wi_mn _ (by omega)) ?_
  refine v_iastJ hX (hm.kd 43 rfl) (hm.ln 43 rfl) (by exact ix_n hq rfl) qX12_looks_48 ?_
  refine v_aload_n hX rfl qX12_looks_49 ?_
  refine v_dup hX rfl qX12_looks_50 ?_
  refine v_getIv hX g_X12_111 (Or.inl rfl) (hm.kd 38 rfl) (show _ = nI M from (hf.1 38 11 (by omega)).trans eMm) qX12_looks_51 ?_
  refine v_aload_n hX rfl qX12_looks_54 ?_
  refine v_iload_n hX rfl qX12_looks_55 ?_
  refine v_callVq hX hR k_X12_267 (hm.kd 38 rfl) (m_takes (by exact hm) (by exact (hp.ext (hf.1 38 14 (by omega)) (fun i => hf.1 44 i (by omega)) (fun i => hf.1 45 i (by omega)))) (by exact hm6) (by exact hkd) (by exact hl)) rfl (Nat.le_of_ble_eq_true rfl) rfl (Nat.le_of_ble_eq_true rfl) ⟨Nat.le_of_ble_eq_true rfl, Nat.le_of_ble_eq_true rfl⟩ qX12_looks_56 ?_
  rintro _ _ ⟨rfl, rfl⟩
  rw [tk_eq hnu, etk]
  refine v_iadd hX qX12_looks_59 ?_
  refine v_eqI (nI_add _ _) ?_
  refine v_putI hX p_X12_111 (hm.kd 38 rfl) (Or.inl rfl) qX12_looks_60 ?_
  rcases Nat.lt_or_ge (M + tk) 60 with hlt | hge
  · skip
    refine v_aload_n hX rfl qX12_looks_63 ?_
    refine v_getIv hX g_X12_111 (Or.inl rfl) (hm.kd 38 rfl) (show _ = nI (M + tk) from rfl) qX12_looks_64 ?_
    refine v_bipush hX lb_60 qX12_looks_67 ?_
    refine v_icmp_ltS hX 109 qX12_looks_69 rfl (fun q69 => ?_) (fun q69 => ?_)
    · skip
      refine v_return hX qX12_looks_109 (hP _ _ ?_)
      exact ⟨rfl, (stI (stI (stI (mkH h σ J) 42 q (sB E 1 q * (100 - goodB (sT E) (sB E) (sK E l) (sN E l) q) / 100)) 43 q (mnI 99 (nI (t + sm)))) 38 11 (nI (M + tk))).1, J, rfl, lk_fin hc hf hl hq hH hM tk2 eH eM etk (fun a k a1 a2 a3 => by show hpI (stI (stI (stI (mkH h σ J) 42 q (sB E 1 q * (100 - goodB (sT E) (sB E) (sK E l) (sN E l) q) / 100)) 43 q (mnI 99 (nI (t + sm)))) 38 11 (nI (M + tk))) a k = _; rw [hpI_st, if_neg (by omega), hpI_st, if_neg (by omega), hpI_st, if_neg (by omega)]; rfl) (by show hpI (stI (stI (stI (mkH h σ J) 42 q (sB E 1 q * (100 - goodB (sT E) (sB E) (sK E l) (sN E l) q) / 100)) 43 q (mnI 99 (nI (t + sm)))) 38 11 (nI (M + tk))) 42 q = _; rw [hpI_st, if_neg (by omega), hpI_st, if_neg (by omega), hpI_st, if_pos ⟨rfl, rfl⟩]) (by show hpI (stI (stI (stI (mkH h σ J) 42 q (sB E 1 q * (100 - goodB (sT E) (sB E) (sK E l) (sN E l) q) / 100)) 43 q (mnI 99 (nI (t + sm)))) 38 11 (nI (M + tk))) 43 q = _; rw [hpI_st, if_neg (by omega), hpI_st, if_pos ⟨rfl, rfl⟩, eT, esm, nI_add]) (by rw [if_pos hlt]; rfl) (by rw [if_pos hlt]; exact (hf.1 38 10 (by omega)).trans eHm)⟩
    · exact absurd (show nI 60 ≤ nI (M + tk) from q69) (nI_ge hlt (by omega))
  · skip
    refine v_aload_n hX rfl qX12_looks_63 ?_
    refine v_getIv hX g_X12_111 (Or.inl rfl) (hm.kd 38 rfl) (show _ = nI (M + tk) from rfl) qX12_looks_64 ?_
    refine v_bipush hX lb_60 qX12_looks_67 ?_
    refine v_icmp_ltS hX 109 qX12_looks_69 rfl (fun q69 => ?_) (fun q69 => ?_)
    · exact absurd (show nI (M + tk) < nI 60 from q69) (nI_nlt hge (by omega))
    · skip
      refine v_aload_n hX rfl qX12_looks_72 ?_
      refine v_dup hX rfl qX12_looks_73 ?_
      refine v_getIv hX g_X12_111 (Or.inl rfl) (hm.kd 38 rfl) (show _ = nI (M + tk) from rfl) qX12_looks_74 ?_
      refine v_bipush hX lb_60 qX12_looks_77 ?_
      refine v_isub hX qX12_looks_79 ?_
      refine v_eqI (show _ = nI (M + tk - 60) from pk_sub hge) ?_
      refine v_putI hX p_X12_111 (hm.kd 38 rfl) (Or.inl rfl) qX12_looks_80 ?_
      refine v_aload_n hX rfl qX12_looks_83 ?_
      refine v_aload_n hX rfl qX12_looks_84 ?_
      refine v_getIv hX g_X12_29 (Or.inl rfl) (hm.kd 38 rfl) (show _ = nI H from (hf.1 38 10 (by omega)).trans eHm) qX12_looks_85 ?_
      refine v_bipush hX lb_23 qX12_looks_88 ?_
      refine v_icmp_ne hX 97 qX12_looks_90 rfl (fun q90 => ?_) (fun q90 => ?_)
      · have h23 : ¬ H = 23 := fun z => q90 (by rw [z]; rfl)
        refine v_aload_n hX rfl qX12_looks_97 ?_
        refine v_getIv hX g_X12_29 (Or.inl rfl) (hm.kd 38 rfl) (show _ = nI H from (hf.1 38 10 (by omega)).trans eHm) qX12_looks_98 ?_
        refine v_iconst hX li_1 qX12_looks_101 ?_
        refine v_iadd hX qX12_looks_102 ?_
        try refine v_eqI (nI_1 _) ?_
        refine v_putI hX p_X12_29 (hm.kd 38 rfl) (Or.inl rfl) qX12_looks_103 ?_
        refine v_goto hX 63 qX12_looks_106 rfl ?_
        refine v_aload_n hX rfl qX12_looks_63 ?_
        refine v_getIv hX g_X12_111 (Or.inl rfl) (hm.kd 38 rfl) (show _ = nI (M + tk - 60) from rfl) qX12_looks_64 ?_
        refine v_bipush hX lb_60 qX12_looks_67 ?_
        refine v_icmp_ltS hX 109 qX12_looks_69 rfl (fun q69 => ?_) (fun q69 => ?_)
        · skip
          refine v_return hX qX12_looks_109 (hP _ _ ?_)
          first | exact ⟨rfl, (stI (stI (stI (stI (stI (mkH h σ J) 42 q (sB E 1 q * (100 - goodB (sT E) (sB E) (sK E l) (sN E l) q) / 100)) 43 q (mnI 99 (nI (t + sm)))) 38 11 (nI (M + tk))) 38 11 (nI (M + tk - 60))) 38 10 (0)).1, J, rfl, lk_fin hc hf hl hq hH hM tk2 eH eM etk (fun a k a1 a2 a3 => by show hpI (stI (stI (stI (stI (stI (mkH h σ J) 42 q (sB E 1 q * (100 - goodB (sT E) (sB E) (sK E l) (sN E l) q) / 100)) 43 q (mnI 99 (nI (t + sm)))) 38 11 (nI (M + tk))) 38 11 (nI (M + tk - 60))) 38 10 (0)) a k = _; rw [hpI_st, if_neg (by omega), hpI_st, if_neg (by omega), hpI_st, if_neg (by omega), hpI_st, if_neg (by omega), hpI_st, if_neg (by omega)]; rfl) (by show hpI (stI (stI (stI (stI (stI (mkH h σ J) 42 q (sB E 1 q * (100 - goodB (sT E) (sB E) (sK E l) (sN E l) q) / 100)) 43 q (mnI 99 (nI (t + sm)))) 38 11 (nI (M + tk))) 38 11 (nI (M + tk - 60))) 38 10 (0)) 42 q = _; rw [hpI_st, if_neg (by omega), hpI_st, if_neg (by omega), hpI_st, if_neg (by omega), hpI_st, if_neg (by omega), hpI_st, if_pos ⟨rfl, rfl⟩]) (by show hpI (stI (stI (stI (stI (stI (mkH h σ J) 42 q (sB E 1 q * (100 - goodB (sT E) (sB E) (sK E l) (sN E l) q) / 100)) 43 q (mnI 99 (nI (t + sm)))) 38 11 (nI (M + tk))) 38 11 (nI (M + tk - 60))) 38 10 (0)) 43 q = _; rw [hpI_st, if_neg (by omega), hpI_st, if_neg (by omega), hpI_st, if_neg (by omega), hpI_st, if_pos ⟨rfl, rfl⟩, eT, esm, nI_add]) (by rw [if_neg (Nat.not_lt.mpr hge)]; rfl) (by rw [if_neg (Nat.not_lt.mpr hge), if_pos h23]; rfl)⟩ | exact ⟨rfl, (stI (stI (stI (stI (stI (mkH h σ J) 42 q (sB E 1 q * (100 - goodB (sT E) (sB E) (sK E l) (sN E l) q) / 100)) 43 q (mnI 99 (nI (t + sm)))) 38 11 (nI (M + tk))) 38 11 (nI (M + tk - 60))) 38 10 (nI (H + 1))).1, J, rfl, lk_fin hc hf hl hq hH hM tk2 eH eM etk (fun a k a1 a2 a3 => by show hpI (stI (stI (stI (stI (stI (mkH h σ J) 42 q (sB E 1 q * (100 - goodB (sT E) (sB E) (sK E l) (sN E l) q) / 100)) 43 q (mnI 99 (nI (t + sm)))) 38 11 (nI (M + tk))) 38 11 (nI (M + tk - 60))) 38 10 (nI (H + 1))) a k = _; rw [hpI_st, if_neg (by omega), hpI_st, if_neg (by omega), hpI_st, if_neg (by omega), hpI_st, if_neg (by omega), hpI_st, if_neg (by omega)]; rfl) (by show hpI (stI (stI (stI (stI (stI (mkH h σ J) 42 q (sB E 1 q * (100 - goodB (sT E) (sB E) (sK E l) (sN E l) q) / 100)) 43 q (mnI 99 (nI (t + sm)))) 38 11 (nI (M + tk))) 38 11 (nI (M + tk - 60))) 38 10 (nI (H + 1))) 42 q = _; rw [hpI_st, if_neg (by omega), hpI_st, if_neg (by omega), hpI_st, if_neg (by omega), hpI_st, if_neg (by omega), hpI_st, if_pos ⟨rfl, rfl⟩]) (by show hpI (stI (stI (stI (stI (stI (mkH h σ J) 42 q (sB E 1 q * (100 - goodB (sT E) (sB E) (sK E l) (sN E l) q) / 100)) 43 q (mnI 99 (nI (t + sm)))) 38 11 (nI (M + tk))) 38 11 (nI (M + tk - 60))) 38 10 (nI (H + 1))) 43 q = _; rw [hpI_st, if_neg (by omega), hpI_st, if_neg (by omega), hpI_st, if_neg (by omega), hpI_st, if_pos ⟨rfl, rfl⟩, eT, esm, nI_add]) (by rw [if_neg (Nat.not_lt.mpr hge)]; rfl) (by rw [if_neg (Nat.not_lt.mpr hge), if_neg h23]; rfl)⟩
        · exact absurd (show nI 60 ≤ nI (M + tk - 60) from q69) (nI_ge (by omega) (by omega))
      · have h23 : H = 23 := (nI_eq (a := H) (b := 23) (by omega) (by omega)).mp q90
        refine v_iconst hX li_0 qX12_looks_93 ?_
        refine v_goto hX 103 qX12_looks_94 rfl ?_
        try refine v_eqI (nI_1 _) ?_
        refine v_putI hX p_X12_29 (hm.kd 38 rfl) (Or.inl rfl) qX12_looks_103 ?_
        refine v_goto hX 63 qX12_looks_106 rfl ?_
        refine v_aload_n hX rfl qX12_looks_63 ?_
        refine v_getIv hX g_X12_111 (Or.inl rfl) (hm.kd 38 rfl) (show _ = nI (M + tk - 60) from rfl) qX12_looks_64 ?_
        refine v_bipush hX lb_60 qX12_looks_67 ?_
        refine v_icmp_ltS hX 109 qX12_looks_69 rfl (fun q69 => ?_) (fun q69 => ?_)
        · skip
          refine v_return hX qX12_looks_109 (hP _ _ ?_)
          first | exact ⟨rfl, (stI (stI (stI (stI (stI (mkH h σ J) 42 q (sB E 1 q * (100 - goodB (sT E) (sB E) (sK E l) (sN E l) q) / 100)) 43 q (mnI 99 (nI (t + sm)))) 38 11 (nI (M + tk))) 38 11 (nI (M + tk - 60))) 38 10 (0)).1, J, rfl, lk_fin hc hf hl hq hH hM tk2 eH eM etk (fun a k a1 a2 a3 => by show hpI (stI (stI (stI (stI (stI (mkH h σ J) 42 q (sB E 1 q * (100 - goodB (sT E) (sB E) (sK E l) (sN E l) q) / 100)) 43 q (mnI 99 (nI (t + sm)))) 38 11 (nI (M + tk))) 38 11 (nI (M + tk - 60))) 38 10 (0)) a k = _; rw [hpI_st, if_neg (by omega), hpI_st, if_neg (by omega), hpI_st, if_neg (by omega), hpI_st, if_neg (by omega), hpI_st, if_neg (by omega)]; rfl) (by show hpI (stI (stI (stI (stI (stI (mkH h σ J) 42 q (sB E 1 q * (100 - goodB (sT E) (sB E) (sK E l) (sN E l) q) / 100)) 43 q (mnI 99 (nI (t + sm)))) 38 11 (nI (M + tk))) 38 11 (nI (M + tk - 60))) 38 10 (0)) 42 q = _; rw [hpI_st, if_neg (by omega), hpI_st, if_neg (by omega), hpI_st, if_neg (by omega), hpI_st, if_neg (by omega), hpI_st, if_pos ⟨rfl, rfl⟩]) (by show hpI (stI (stI (stI (stI (stI (mkH h σ J) 42 q (sB E 1 q * (100 - goodB (sT E) (sB E) (sK E l) (sN E l) q) / 100)) 43 q (mnI 99 (nI (t + sm)))) 38 11 (nI (M + tk))) 38 11 (nI (M + tk - 60))) 38 10 (0)) 43 q = _; rw [hpI_st, if_neg (by omega), hpI_st, if_neg (by omega), hpI_st, if_neg (by omega), hpI_st, if_pos ⟨rfl, rfl⟩, eT, esm, nI_add]) (by rw [if_neg (Nat.not_lt.mpr hge)]; rfl) (by rw [if_neg (Nat.not_lt.mpr hge), if_pos h23]; rfl)⟩ | exact ⟨rfl, (stI (stI (stI (stI (stI (mkH h σ J) 42 q (sB E 1 q * (100 - goodB (sT E) (sB E) (sK E l) (sN E l) q) / 100)) 43 q (mnI 99 (nI (t + sm)))) 38 11 (nI (M + tk))) 38 11 (nI (M + tk - 60))) 38 10 (nI (H + 1))).1, J, rfl, lk_fin hc hf hl hq hH hM tk2 eH eM etk (fun a k a1 a2 a3 => by show hpI (stI (stI (stI (stI (stI (mkH h σ J) 42 q (sB E 1 q * (100 - goodB (sT E) (sB E) (sK E l) (sN E l) q) / 100)) 43 q (mnI 99 (nI (t + sm)))) 38 11 (nI (M + tk))) 38 11 (nI (M + tk - 60))) 38 10 (nI (H + 1))) a k = _; rw [hpI_st, if_neg (by omega), hpI_st, if_neg (by omega), hpI_st, if_neg (by omega), hpI_st, if_neg (by omega), hpI_st, if_neg (by omega)]; rfl) (by show hpI (stI (stI (stI (stI (stI (mkH h σ J) 42 q (sB E 1 q * (100 - goodB (sT E) (sB E) (sK E l) (sN E l) q) / 100)) 43 q (mnI 99 (nI (t + sm)))) 38 11 (nI (M + tk))) 38 11 (nI (M + tk - 60))) 38 10 (nI (H + 1))) 42 q = _; rw [hpI_st, if_neg (by omega), hpI_st, if_neg (by omega), hpI_st, if_neg (by omega), hpI_st, if_neg (by omega), hpI_st, if_pos ⟨rfl, rfl⟩]) (by show hpI (stI (stI (stI (stI (stI (mkH h σ J) 42 q (sB E 1 q * (100 - goodB (sT E) (sB E) (sK E l) (sN E l) q) / 100)) 43 q (mnI 99 (nI (t + sm)))) 38 11 (nI (M + tk))) 38 11 (nI (M + tk - 60))) 38 10 (nI (H + 1))) 43 q = _; rw [hpI_st, if_neg (by omega), hpI_st, if_neg (by omega), hpI_st, if_neg (by omega), hpI_st, if_pos ⟨rfl, rfl⟩, eT, esm, nI_add]) (by rw [if_neg (Nat.not_lt.mpr hge)]; rfl) (by rw [if_neg (Nat.not_lt.mpr hge), if_neg h23]; rfl)⟩
        · exact absurd (show nI 60 ≤ nI (M + tk - 60) from q69) (nI_ge (by omega) (by omega))
/-- p, c: the best of r below n, the first of like ones -/
def FB (r : Nat → Int32) (n : Nat) (p c : Int32) : Prop := (p = 0 ∧ ∀ q, q < n → (r q).toInt ≤ 0) ∨ ∃ q, q < n ∧ p = r q ∧ c = nI q ∧ 0 < (r q).toInt ∧ (∀ q', q' < n → (r q').toInt ≤ (r q).toInt) ∧ ∀ q', q' < q → (r q').toInt < (r q).toInt
theorem FB.old {r : Nat → Int32} {n : Nat} {p c : Int32} (h : FB r n p c) (hle : r n ≤ p) : FB r (n + 1) p c := by
  rw [leI] at hle
  have e0 : (0 : Int32).toInt = 0 := rfl
  rcases h with ⟨rfl, h0⟩ | ⟨q, hq, rfl, h1, h2, h3, h4⟩
  · exact Or.inl ⟨rfl, fun q hq => by
      by_cases e : q = n
      · subst e; omega
      · exact h0 q (by omega)⟩
  · exact Or.inr ⟨q, by omega, rfl, h1, h2, fun q' hq' => by
      by_cases e : q' = n
      · subst e; omega
      · exact h3 q' (by omega), h4⟩
theorem FB.new {r : Nat → Int32} {n : Nat} {p c : Int32} (h : FB r n p c) (hlt : p < r n) : FB r (n + 1) (r n) (nI n) := by
  rw [ltI] at hlt
  have e0 : (0 : Int32).toInt = 0 := rfl
  rcases h with ⟨rfl, h0⟩ | ⟨q, hq, rfl, h1, h2, h3, h4⟩
  · refine Or.inr ⟨n, by omega, rfl, rfl, by omega, fun q' hq' => ?_, fun q' hq' => ?_⟩
    · by_cases e : q' = n
      · subst e; omega
      · have := h0 q' (by omega); omega
    · have := h0 q' (by omega); omega
  · refine Or.inr ⟨n, by omega, rfl, rfl, by omega, fun q' hq' => ?_, fun q' hq' => ?_⟩
    · by_cases e : q' = n
      · subst e; omega
      · have := h3 q' (by omega); omega
    · have := h3 q' (by omega); omega
theorem FB.skip {r : Nat → Int32} {n : Nat} {p c : Int32} (h : FB r n p c) (h0 : r n = 0) : FB r (n + 1) p c := h.old (by
  rw [h0, leI]
  rcases h with ⟨rfl, -⟩ | ⟨q, hq, rfl, h1, h2, -⟩
  · exact Int.le_refl _
  · have e0 : (0 : Int32).toInt = 0 := rfl
    omega)
theorem isB_fin {ρ : Nat → Nat → Int32} {i : Nat} {s : Int32 × Int32 × Int32} {p c : Int32} (h : IsB ρ (fun i' q => i' < i ∧ q < 48) s) (hf : FB (ρ i) 48 p c) : IsB ρ (fun i' q => i' < i + 1 ∧ q < 48) (if s.2.2 < p then (nI i, c, p) else s) := by
  have e0 : (0 : Int32).toInt = 0 := rfl
  rcases h with ⟨rfl, h0⟩ | ⟨i0, q0, hP, rfl, hpos, h1, h2, h3⟩
  · by_cases hc : (0 : Int32) < p
    · rw [if_pos hc]
      rw [ltI] at hc
      rcases hf with ⟨rfl, -⟩ | ⟨q, hq, rfl, rfl, g2, g3, g4⟩
      · omega
      refine Or.inr ⟨i, q, ⟨by omega, hq⟩, rfl, g2, fun i' q' z => ?_, fun i' q' z zl => ?_, fun q' z zl => g4 q' zl⟩
      · by_cases e : i' = i
        · subst e; exact g3 q' z.2
        · have := h0 i' q' ⟨by have := z.1; omega, z.2⟩; omega
      · have := h0 i' q' ⟨zl, z.2⟩; omega
    · rw [if_neg hc]
      rw [ltI] at hc
      refine Or.inl ⟨rfl, fun i' q' z => ?_⟩
      by_cases e : i' = i
      · subst e
        rcases hf with ⟨rfl, g0⟩ | ⟨q, hq, rfl, rfl, g2, g3, g4⟩
        · exact g0 q' z.2
        · omega
      · exact h0 i' q' ⟨by have := z.1; omega, z.2⟩
  · by_cases hc : ρ i0 q0 < p
    · rw [if_pos hc]
      rw [ltI] at hc
      rcases hf with ⟨rfl, -⟩ | ⟨q, hq, rfl, rfl, g2, g3, g4⟩
      · omega
      refine Or.inr ⟨i, q, ⟨by omega, hq⟩, rfl, g2, fun i' q' z => ?_, fun i' q' z zl => ?_, fun q' z zl => g4 q' zl⟩
      · by_cases e : i' = i
        · subst e; exact g3 q' z.2
        · have := h1 i' q' ⟨by have := z.1; omega, z.2⟩; omega
      · have := h1 i' q' ⟨zl, z.2⟩; omega
    · rw [if_neg hc]
      rw [ltI] at hc
      refine Or.inr ⟨i0, q0, ⟨by have := hP.1; omega, hP.2⟩, rfl, hpos, fun i' q' z => ?_, fun i' q' z zl => ?_, fun q' z zl => h3 q' ⟨hP.1, z.2⟩ zl⟩
      · by_cases e : i' = i
        · subst e
          rcases hf with ⟨rfl, g0⟩ | ⟨q, hq, rfl, rfl, g2, g3, g4⟩
          · have := g0 q' z.2; omega
          · have := g3 q' z.2; omega
        · exact h1 i' q' ⟨by have := z.1; omega, z.2⟩
      · exact h2 i' q' ⟨by have := hP.1; omega, z.2⟩ zl
def FBs (r : Nat → Nat → Int32) (m q i : Nat) (τ : Nat → Nat → Int32) : Prop := (∀ j, j < i → FB (r j) (q + 1) (τ 46 j) (τ 47 j)) ∧ ∀ j, i ≤ j → j < m → FB (r j) q (τ 46 j) (τ 47 j)
theorem FBs.old {r : Nat → Nat → Int32} {m q i : Nat} {τ : Nat → Nat → Int32} (h : FBs r m q i τ) (hi : i < m) (hle : r i q ≤ τ 46 i) : FBs r m q (i + 1) τ := ⟨fun j hj => by
  by_cases e : j = i
  · subst e; exact (h.2 j (Nat.le_refl _) hi).old hle
  · exact h.1 j (by omega), fun j hj hm => h.2 j (by omega) hm⟩
theorem FBs.new {r : Nat → Nat → Int32} {m q i : Nat} {τ : Nat → Nat → Int32} (h : FBs r m q i τ) (hi : i < m) (hlt : τ 46 i < r i q) {g : AHp} {J : Nat → Nat → Int64} : FBs r m q (i + 1) (stI (stI (mkH g τ J) 46 i (r i q)) 47 i (nI q)).1 := by
  have a6 : ∀ j, (stI (stI (mkH g τ J) 46 i (r i q)) 47 i (nI q)).1 46 j = if j = i then r i q else τ 46 j := fun j => by
    show hpI (stI _ _ _ _) _ _ = _
    rw [hpI_st, if_neg (by omega), hpI_st]
    by_cases e : j = i
    · rw [if_pos ⟨rfl, e⟩, if_pos e]
    · rw [if_neg (fun z => e z.2), if_neg e]; rfl
  have a7 : ∀ j, (stI (stI (mkH g τ J) 46 i (r i q)) 47 i (nI q)).1 47 j = if j = i then nI q else τ 47 j := fun j => by
    show hpI (stI _ _ _ _) _ _ = _
    rw [hpI_st]
    by_cases e : j = i
    · rw [if_pos ⟨rfl, e⟩, if_pos e]
    · rw [if_neg (fun z => e z.2), if_neg e, hpI_st, if_neg (by omega)]; rfl
  refine ⟨fun j hj => ?_, fun j hj hm => ?_⟩
  · rw [a6, a7]
    by_cases e : j = i
    · subst e; rw [if_pos rfl, if_pos rfl]; exact (h.2 j (Nat.le_refl _) hi).new hlt
    · rw [if_neg e, if_neg e]; exact h.1 j (by omega)
  · rw [a6, a7, if_neg (by omega), if_neg (by omega)]; exact h.2 j (by omega) hm
def Z3 (σ : Nat → Nat → Int32) : Prop := σ 38 30 = -1 ∧ σ 38 31 = -1 ∧ σ 38 32 = 0
theorem Z3.R {h : AHp} {σ σ' : Nat → Nat → Int32} {J J' : Nat → Nat → Int64} (z : Z3 σ) (hf : FrR (mkH h σ J) σ' J') : Z3 σ' := ⟨(hf.1 38 30 (by omega)).trans z.1, (hf.1 38 31 (by omega)).trans z.2.1, (hf.1 38 32 (by omega)).trans z.2.2⟩
theorem rate_0 {TV : TVt} {b : Bch} {kd : Nat → Nat} {nu : Nat → Int32} {i q : Nat} (h : ¬ seB TV b q = 0) (hn : inR (nu i) 9) : RR TV kd nu b i q = 0 := by
  obtain ⟨tk, tk1, tk2, etk⟩ := tkR_in (k := kd i) hn
  have e1 : goodB TV b (kd i) (nu i) q = 0 := if_neg h
  have e2 : gainB TV b (kd i) (nu i) q = 0 := by unfold gainB; rw [e1]; simp
  unfold RR rateB
  rw [e2, etk]
  split
  · split
    · show nI 0 / nI tk = 0
      rw [pk_div (by omega) (by omega) (by omega), Nat.zero_div]; rfl
    · rfl
  · rfl
theorem qX12_best_0 : Dq cX12_best 0 (.aload_n 0) 1 1 := ⟨by decide +kernel, rfl⟩
theorem qX12_best_1 : Dq cX12_best 1 (.iconst (-1)) 1 2 := ⟨by decide +kernel, rfl⟩
theorem qX12_best_2 : Dq cX12_best 2 (.putfield 280) 3 5 := ⟨by decide +kernel, rfl⟩
theorem qX12_best_5 : Dq cX12_best 5 (.aload_n 0) 1 6 := ⟨by decide +kernel, rfl⟩
theorem qX12_best_6 : Dq cX12_best 6 (.iconst (-1)) 1 7 := ⟨by decide +kernel, rfl⟩
theorem qX12_best_7 : Dq cX12_best 7 (.putfield 283) 3 10 := ⟨by decide +kernel, rfl⟩
theorem qX12_best_10 : Dq cX12_best 10 (.aload_n 0) 1 11 := ⟨by decide +kernel, rfl⟩
theorem qX12_best_11 : Dq cX12_best 11 (.iconst 0) 1 12 := ⟨by decide +kernel, rfl⟩
theorem qX12_best_12 : Dq cX12_best 12 (.putfield 286) 3 15 := ⟨by decide +kernel, rfl⟩
theorem qX12_best_15 : Dq cX12_best 15 (.iconst 0) 1 16 := ⟨by decide +kernel, rfl⟩
theorem qX12_best_16 : Dq cX12_best 16 (.istore_n 1) 1 17 := ⟨by decide +kernel, rfl⟩
theorem qX12_best_17 : Dq cX12_best 17 (.iload_n 1) 1 18 := ⟨by decide +kernel, rfl⟩
theorem qX12_best_18 : Dq cX12_best 18 (.aload_n 0) 1 19 := ⟨by decide +kernel, rfl⟩
theorem qX12_best_19 : Dq cX12_best 19 (.getfield 91) 3 22 := ⟨by decide +kernel, rfl⟩
theorem qX12_best_22 : Dq cX12_best 22 (.if_icmp .ge 16) 3 25 := ⟨by decide +kernel, rfl⟩
theorem qX12_best_25 : Dq cX12_best 25 (.aload_n 0) 1 26 := ⟨by decide +kernel, rfl⟩
theorem qX12_best_26 : Dq cX12_best 26 (.getfield 38) 3 29 := ⟨by decide +kernel, rfl⟩
theorem qX12_best_29 : Dq cX12_best 29 (.iload_n 1) 1 30 := ⟨by decide +kernel, rfl⟩
theorem qX12_best_30 : Dq cX12_best 30 (.iconst 0) 1 31 := ⟨by decide +kernel, rfl⟩
theorem qX12_best_31 : Dq cX12_best 31 (.iastore) 1 32 := ⟨by decide +kernel, rfl⟩
theorem qX12_best_32 : Dq cX12_best 32 (.iinc 1 1) 3 35 := ⟨by decide +kernel, rfl⟩
theorem qX12_best_35 : Dq cX12_best 35 (.goto (-18)) 3 38 := ⟨by decide +kernel, rfl⟩
theorem qX12_best_38 : Dq cX12_best 38 (.iconst 0) 1 39 := ⟨by decide +kernel, rfl⟩
theorem qX12_best_39 : Dq cX12_best 39 (.istore_n 1) 1 40 := ⟨by decide +kernel, rfl⟩
theorem qX12_best_40 : Dq cX12_best 40 (.iload_n 1) 1 41 := ⟨by decide +kernel, rfl⟩
theorem qX12_best_41 : Dq cX12_best 41 (.bipush 48) 2 43 := ⟨by decide +kernel, rfl⟩
theorem qX12_best_43 : Dq cX12_best 43 (.if_icmp .ge 112) 3 46 := ⟨by decide +kernel, rfl⟩
theorem qX12_best_46 : Dq cX12_best 46 (.aload_n 0) 1 47 := ⟨by decide +kernel, rfl⟩
theorem qX12_best_47 : Dq cX12_best 47 (.getfield 23) 3 50 := ⟨by decide +kernel, rfl⟩
theorem qX12_best_50 : Dq cX12_best 50 (.iload_n 1) 1 51 := ⟨by decide +kernel, rfl⟩
theorem qX12_best_51 : Dq cX12_best 51 (.iaload) 1 52 := ⟨by decide +kernel, rfl⟩
theorem qX12_best_52 : Dq cX12_best 52 (.ifCond .le 97) 3 55 := ⟨by decide +kernel, rfl⟩
theorem qX12_best_55 : Dq cX12_best 55 (.aload_n 0) 1 56 := ⟨by decide +kernel, rfl⟩
theorem qX12_best_56 : Dq cX12_best 56 (.iload_n 1) 1 57 := ⟨by decide +kernel, rfl⟩
theorem qX12_best_57 : Dq cX12_best 57 (.invokevirtual 255) 3 60 := ⟨by decide +kernel, rfl⟩
theorem qX12_best_60 : Dq cX12_best 60 (.ifCond .ne 89) 3 63 := ⟨by decide +kernel, rfl⟩
theorem qX12_best_63 : Dq cX12_best 63 (.aload_n 0) 1 64 := ⟨by decide +kernel, rfl⟩
theorem qX12_best_64 : Dq cX12_best 64 (.iload_n 1) 1 65 := ⟨by decide +kernel, rfl⟩
theorem qX12_best_65 : Dq cX12_best 65 (.invokevirtual 249) 3 68 := ⟨by decide +kernel, rfl⟩
theorem qX12_best_68 : Dq cX12_best 68 (.istore_n 2) 1 69 := ⟨by decide +kernel, rfl⟩
theorem qX12_best_69 : Dq cX12_best 69 (.aload_n 0) 1 70 := ⟨by decide +kernel, rfl⟩
theorem qX12_best_70 : Dq cX12_best 70 (.iload_n 1) 1 71 := ⟨by decide +kernel, rfl⟩
theorem qX12_best_71 : Dq cX12_best 71 (.invokevirtual 252) 3 74 := ⟨by decide +kernel, rfl⟩
theorem qX12_best_74 : Dq cX12_best 74 (.istore_n 3) 1 75 := ⟨by decide +kernel, rfl⟩
theorem qX12_best_75 : Dq cX12_best 75 (.iconst 0) 1 76 := ⟨by decide +kernel, rfl⟩
theorem qX12_best_76 : Dq cX12_best 76 (.istore 4) 2 78 := ⟨by decide +kernel, rfl⟩
theorem qX12_best_78 : Dq cX12_best 78 (.iload 4) 2 80 := ⟨by decide +kernel, rfl⟩
theorem qX12_best_80 : Dq cX12_best 80 (.aload_n 0) 1 81 := ⟨by decide +kernel, rfl⟩
theorem qX12_best_81 : Dq cX12_best 81 (.getfield 91) 3 84 := ⟨by decide +kernel, rfl⟩
theorem qX12_best_84 : Dq cX12_best 84 (.if_icmp .ge 65) 3 87 := ⟨by decide +kernel, rfl⟩
theorem qX12_best_87 : Dq cX12_best 87 (.aload_n 0) 1 88 := ⟨by decide +kernel, rfl⟩
theorem qX12_best_88 : Dq cX12_best 88 (.getfield 23) 3 91 := ⟨by decide +kernel, rfl⟩
theorem qX12_best_91 : Dq cX12_best 91 (.iload_n 1) 1 92 := ⟨by decide +kernel, rfl⟩
theorem qX12_best_92 : Dq cX12_best 92 (.iaload) 1 93 := ⟨by decide +kernel, rfl⟩
theorem qX12_best_93 : Dq cX12_best 93 (.aload_n 0) 1 94 := ⟨by decide +kernel, rfl⟩
theorem qX12_best_94 : Dq cX12_best 94 (.iload 4) 2 96 := ⟨by decide +kernel, rfl⟩
theorem qX12_best_96 : Dq cX12_best 96 (.iload_n 2) 1 97 := ⟨by decide +kernel, rfl⟩
theorem qX12_best_97 : Dq cX12_best 97 (.iload_n 3) 1 98 := ⟨by decide +kernel, rfl⟩
theorem qX12_best_98 : Dq cX12_best 98 (.invokevirtual 258) 3 101 := ⟨by decide +kernel, rfl⟩
theorem qX12_best_101 : Dq cX12_best 101 (.imul) 1 102 := ⟨by decide +kernel, rfl⟩
theorem qX12_best_102 : Dq cX12_best 102 (.bipush 100) 2 104 := ⟨by decide +kernel, rfl⟩
theorem qX12_best_104 : Dq cX12_best 104 (.idiv) 1 105 := ⟨by decide +kernel, rfl⟩
theorem qX12_best_105 : Dq cX12_best 105 (.aload_n 0) 1 106 := ⟨by decide +kernel, rfl⟩
theorem qX12_best_106 : Dq cX12_best 106 (.iload 4) 2 108 := ⟨by decide +kernel, rfl⟩
theorem qX12_best_108 : Dq cX12_best 108 (.invokevirtual 267) 3 111 := ⟨by decide +kernel, rfl⟩
theorem qX12_best_111 : Dq cX12_best 111 (.idiv) 1 112 := ⟨by decide +kernel, rfl⟩
theorem qX12_best_112 : Dq cX12_best 112 (.istore 5) 2 114 := ⟨by decide +kernel, rfl⟩
theorem qX12_best_114 : Dq cX12_best 114 (.iload 5) 2 116 := ⟨by decide +kernel, rfl⟩
theorem qX12_best_116 : Dq cX12_best 116 (.aload_n 0) 1 117 := ⟨by decide +kernel, rfl⟩
theorem qX12_best_117 : Dq cX12_best 117 (.getfield 38) 3 120 := ⟨by decide +kernel, rfl⟩
theorem qX12_best_120 : Dq cX12_best 120 (.iload 4) 2 122 := ⟨by decide +kernel, rfl⟩
theorem qX12_best_122 : Dq cX12_best 122 (.iaload) 1 123 := ⟨by decide +kernel, rfl⟩
theorem qX12_best_123 : Dq cX12_best 123 (.if_icmp .le 20) 3 126 := ⟨by decide +kernel, rfl⟩
theorem qX12_best_126 : Dq cX12_best 126 (.aload_n 0) 1 127 := ⟨by decide +kernel, rfl⟩
theorem qX12_best_127 : Dq cX12_best 127 (.getfield 38) 3 130 := ⟨by decide +kernel, rfl⟩
theorem qX12_best_130 : Dq cX12_best 130 (.iload 4) 2 132 := ⟨by decide +kernel, rfl⟩
theorem qX12_best_132 : Dq cX12_best 132 (.iload 5) 2 134 := ⟨by decide +kernel, rfl⟩
theorem qX12_best_134 : Dq cX12_best 134 (.iastore) 1 135 := ⟨by decide +kernel, rfl⟩
theorem qX12_best_135 : Dq cX12_best 135 (.aload_n 0) 1 136 := ⟨by decide +kernel, rfl⟩
theorem qX12_best_136 : Dq cX12_best 136 (.getfield 41) 3 139 := ⟨by decide +kernel, rfl⟩
theorem qX12_best_139 : Dq cX12_best 139 (.iload 4) 2 141 := ⟨by decide +kernel, rfl⟩
theorem qX12_best_141 : Dq cX12_best 141 (.iload_n 1) 1 142 := ⟨by decide +kernel, rfl⟩
theorem qX12_best_142 : Dq cX12_best 142 (.iastore) 1 143 := ⟨by decide +kernel, rfl⟩
theorem qX12_best_143 : Dq cX12_best 143 (.iinc 4 1) 3 146 := ⟨by decide +kernel, rfl⟩
theorem qX12_best_146 : Dq cX12_best 146 (.goto (-68)) 3 149 := ⟨by decide +kernel, rfl⟩
theorem qX12_best_149 : Dq cX12_best 149 (.iinc 1 1) 3 152 := ⟨by decide +kernel, rfl⟩
theorem qX12_best_152 : Dq cX12_best 152 (.goto (-112)) 3 155 := ⟨by decide +kernel, rfl⟩
theorem qX12_best_155 : Dq cX12_best 155 (.iconst 0) 1 156 := ⟨by decide +kernel, rfl⟩
theorem qX12_best_156 : Dq cX12_best 156 (.istore_n 1) 1 157 := ⟨by decide +kernel, rfl⟩
theorem qX12_best_157 : Dq cX12_best 157 (.iload_n 1) 1 158 := ⟨by decide +kernel, rfl⟩
theorem qX12_best_158 : Dq cX12_best 158 (.aload_n 0) 1 159 := ⟨by decide +kernel, rfl⟩
theorem qX12_best_159 : Dq cX12_best 159 (.getfield 91) 3 162 := ⟨by decide +kernel, rfl⟩
theorem qX12_best_162 : Dq cX12_best 162 (.if_icmp .ge 47) 3 165 := ⟨by decide +kernel, rfl⟩
theorem qX12_best_165 : Dq cX12_best 165 (.aload_n 0) 1 166 := ⟨by decide +kernel, rfl⟩
theorem qX12_best_166 : Dq cX12_best 166 (.getfield 38) 3 169 := ⟨by decide +kernel, rfl⟩
theorem qX12_best_169 : Dq cX12_best 169 (.iload_n 1) 1 170 := ⟨by decide +kernel, rfl⟩
theorem qX12_best_170 : Dq cX12_best 170 (.iaload) 1 171 := ⟨by decide +kernel, rfl⟩
theorem qX12_best_171 : Dq cX12_best 171 (.aload_n 0) 1 172 := ⟨by decide +kernel, rfl⟩
theorem qX12_best_172 : Dq cX12_best 172 (.getfield 286) 3 175 := ⟨by decide +kernel, rfl⟩
theorem qX12_best_175 : Dq cX12_best 175 (.if_icmp .le 28) 3 178 := ⟨by decide +kernel, rfl⟩
theorem qX12_best_178 : Dq cX12_best 178 (.aload_n 0) 1 179 := ⟨by decide +kernel, rfl⟩
theorem qX12_best_179 : Dq cX12_best 179 (.iload_n 1) 1 180 := ⟨by decide +kernel, rfl⟩
theorem qX12_best_180 : Dq cX12_best 180 (.putfield 280) 3 183 := ⟨by decide +kernel, rfl⟩
theorem qX12_best_183 : Dq cX12_best 183 (.aload_n 0) 1 184 := ⟨by decide +kernel, rfl⟩
theorem qX12_best_184 : Dq cX12_best 184 (.aload_n 0) 1 185 := ⟨by decide +kernel, rfl⟩
theorem qX12_best_185 : Dq cX12_best 185 (.getfield 41) 3 188 := ⟨by decide +kernel, rfl⟩
theorem qX12_best_188 : Dq cX12_best 188 (.iload_n 1) 1 189 := ⟨by decide +kernel, rfl⟩
theorem qX12_best_189 : Dq cX12_best 189 (.iaload) 1 190 := ⟨by decide +kernel, rfl⟩
theorem qX12_best_190 : Dq cX12_best 190 (.putfield 283) 3 193 := ⟨by decide +kernel, rfl⟩
theorem qX12_best_193 : Dq cX12_best 193 (.aload_n 0) 1 194 := ⟨by decide +kernel, rfl⟩
theorem qX12_best_194 : Dq cX12_best 194 (.aload_n 0) 1 195 := ⟨by decide +kernel, rfl⟩
theorem qX12_best_195 : Dq cX12_best 195 (.getfield 38) 3 198 := ⟨by decide +kernel, rfl⟩
theorem qX12_best_198 : Dq cX12_best 198 (.iload_n 1) 1 199 := ⟨by decide +kernel, rfl⟩
theorem qX12_best_199 : Dq cX12_best 199 (.iaload) 1 200 := ⟨by decide +kernel, rfl⟩
theorem qX12_best_200 : Dq cX12_best 200 (.putfield 286) 3 203 := ⟨by decide +kernel, rfl⟩
theorem qX12_best_203 : Dq cX12_best 203 (.iinc 1 1) 3 206 := ⟨by decide +kernel, rfl⟩
theorem qX12_best_206 : Dq cX12_best 206 (.goto (-49)) 3 209 := ⟨by decide +kernel, rfl⟩
theorem qX12_best_209 : Dq cX12_best 209 (.return_) 1 210 := ⟨by decide +kernel, rfl⟩
set_option maxRecDepth 100000 in
set_option maxHeartbeats 4000000 in
theorem m_best {G : Glb} {h : AHp} {E : Sst} (hc : MW h E)  : CP G m_X12_best 64 0 0 [.ref 38] h (fun r h' => r = none ∧ ∃ σ J, h' = mkH h σ J ∧ FrX h σ ∧ σ 38 30 = (chE E).1 ∧ σ 38 31 = (chE E).2.1 ∧ σ 38 32 = (chE E).2.2) := by
  suffices key : ∀ P : Option Value → AHp → Prop, (∀ r h', (r = none ∧ ∃ σ J, h' = mkH h σ J ∧ FrX h σ ∧ σ 38 30 = (chE E).1 ∧ σ 38 31 = (chE E).2.1 ∧ σ 38 32 = (chE E).2.2) → P r h') → CP G m_X12_best 64 0 0 [.ref 38] h P from key _ (fun _ _ z => z)
  intro P hP
  obtain ⟨hm, htx, hp, hb, hkp, htp, hst, hok⟩ := id hc
  have hc6 := hok.1
  have hm6 := hok.2.1
  have hkd : ∀ i, i < sM E → sK E i < 6 := fun i hi => (hok.2.2.1 i hi).1
  have hnu : ∀ i, i < sM E → inR (sN E i) 9 := fun i hi => (hok.2.2.1 i hi).2
  have hbe : BeOK (bm h) (sC E) := by rw [hb]; exact hok.2.2.2.1
  refine CP.of (by decide +kernel) (Nat.le_of_ble_eq_true rfl) fun X hX hR hnm => ?_
  show V X G 6 0 0 _ 0 [some (.ref 38), none, none, none, none, none] [] h
  refine v_aload_n hX rfl qX12_best_0 ?_
  refine v_iconst hX li_n1 qX12_best_1 ?_
  refine v_putI hX p_X12_280 (hm.kd 38 rfl) (Or.inl rfl) qX12_best_2 ?_
  refine v_aload_n hX rfl qX12_best_5 ?_
  refine v_iconst hX li_n1 qX12_best_6 ?_
  refine v_putI hX p_X12_283 (hm.kd 38 rfl) (Or.inl rfl) qX12_best_7 ?_
  refine v_aload_n hX rfl qX12_best_10 ?_
  refine v_iconst hX li_0 qX12_best_11 ?_
  refine v_putI hX p_X12_286 (hm.kd 38 rfl) (Or.inl rfl) qX12_best_12 ?_
  refine v_iconst hX li_0 qX12_best_15 ?_
  refine v_istore_n hX (Nat.le_of_ble_eq_true rfl) rfl (ls' := [some _, some _, none, none, none, none]) rfl qX12_best_16 ?_
  have L17 : ∀ (mz : Nat) (i : Nat) (σ : Nat → Nat → Int32), sM E - i = mz → (i ≤ sM E) → (FrX h σ) → (Z3 σ) → (∀ j, j < i → σ 46 j = 0) → V X G 6 0 0 (QM X G P 0 0) 17 [some (.ref 38), some (.int (nI i)), none, none, none, none] [] (mkH h σ h.2.2.1) := by
    intro mz
    induction mz using Nat.strongRecOn with
    | _ mz ih =>
    intro i σ hmz hi hf hz h0
    refine v_iload_n hX rfl qX12_best_17 ?_
    refine v_aload_n hX rfl qX12_best_18 ?_
    refine v_getIv hX g_X12_91 (Or.inl rfl) (hm.kd 38 rfl) (show _ = nI (sM E) from (hf 38 14 (by omega) (by omega)).trans hp.1) qX12_best_19 ?_
    refine v_icmp_geS hX 38 qX12_best_22 rfl (fun q22 => ?_) (fun q22 => ?_)
    · have e1 : i = sM E := Nat.le_antisymm hi (nI_le' (by omega) (by omega) q22)
      subst e1
      refine v_iconst hX li_0 qX12_best_38 ?_
      refine v_istore_n hX (Nat.le_of_ble_eq_true rfl) rfl (ls' := [some _, some _, none, none, none, none]) rfl qX12_best_39 ?_
      have L40 : ∀ (mz : Nat) (q : Nat) (σ : Nat → Nat → Int32) (J : Nat → Nat → Int64), 48 - q = mz → (q ≤ 48) → (FrX h σ) → (Z3 σ) → (∀ j, j < sM E → FB ((RR (sT E) (sK E) (sN E) (sB E)) j) q (σ 46 j) (σ 47 j)) → V X G 6 0 0 (QM X G P 0 0) 40 [some (.ref 38), some (.int (nI q)), none, none, none, none] [] (mkH h σ J) := by
        intro mz
        induction mz using Nat.strongRecOn with
        | _ mz ih =>
        intro q σ J hmz hi hf hz hfb
        have ihO := ih
        have hcv := hf.mw hc J
        refine v_iload_n hX rfl qX12_best_40 ?_
        refine v_bipush hX lb_48 qX12_best_41 ?_
        refine v_icmp_geS hX 155 qX12_best_43 rfl (fun q43 => ?_) (fun q43 => ?_)
        · have e1 := geN (N := 48) rfl hi q43; subst e1
          refine v_iconst hX li_0 qX12_best_155 ?_
          refine v_istore_n hX (Nat.le_of_ble_eq_true rfl) rfl (ls' := [some _, some _, none, none, none, none]) rfl qX12_best_156 ?_
          have L157 : ∀ (mz : Nat) (i : Nat) (τ : Nat → Nat → Int32), sM E - i = mz → (i ≤ sM E) → (FrX h τ) → (∀ j, j < sM E → FB ((RR (sT E) (sK E) (sN E) (sB E)) j) 48 (τ 46 j) (τ 47 j)) → (IsB (RR (sT E) (sK E) (sN E) (sB E)) (fun i' q => i' < i ∧ q < 48) (τ 38 30, τ 38 31, τ 38 32)) → V X G 6 0 0 (QM X G P 0 0) 157 [some (.ref 38), some (.int (nI i)), none, none, none, none] [] (mkH h τ J) := by
            intro mz
            induction mz using Nat.strongRecOn with
            | _ mz ih =>
            intro i τ hmz hi hf hfb hB
            refine v_iload_n hX rfl qX12_best_157 ?_
            refine v_aload_n hX rfl qX12_best_158 ?_
            refine v_getIv hX g_X12_91 (Or.inl rfl) (hm.kd 38 rfl) (show _ = nI (sM E) from (hf 38 14 (by omega) (by omega)).trans hp.1) qX12_best_159 ?_
            refine v_icmp_geS hX 209 qX12_best_162 rfl (fun q162 => ?_) (fun q162 => ?_)
            · have e1 : i = sM E := Nat.le_antisymm hi (nI_le' (by omega) (by omega) q162)
              subst e1
              refine v_return hX qX12_best_209 (hP _ _ ?_)
              have e := IsB.uniq hB (chB_is (sT E) hm6 (sK E) (sN E) (sB E))
              exact ⟨rfl, τ, J, rfl, hf, congrArg Prod.fst e, congrArg (fun z => z.2.1) e, congrArg (fun z => z.2.2) e⟩
            · have hl := nI_lt' (by omega) (by omega) q162
              refine v_aload_n hX rfl qX12_best_165 ?_
              refine v_getR hX g_X12_38 (hm.kd 38 rfl) (hm.rf 7 rfl) qX12_best_166 ?_
              refine v_iload_n hX rfl qX12_best_169 ?_
              refine v_ialdV hX (hm.kd 46 rfl) (hm.ln 46 rfl) (by exact ix_n (n := i) (by omega) rfl) (show _ = τ 46 i from rfl) qX12_best_170 ?_
              refine v_aload_n hX rfl qX12_best_171 ?_
              refine v_getIv hX g_X12_286 (Or.inl rfl) (hm.kd 38 rfl) (show _ = τ 38 32 from rfl) qX12_best_172 ?_
              refine v_icmp_leS hX 203 qX12_best_175 rfl (fun q175 => ?_) (fun q175 => ?_)
              · skip
                refine v_iinc hX rfl (by first | exact ii_nI _ | exact ii_1 _) (Nat.le_of_ble_eq_true rfl) rfl (ls' := [some _, some _, none, none, none, none]) rfl qX12_best_203 ?_
                refine v_goto hX 157 qX12_best_206 rfl ?_
                first | (have z := isB_fin hB (hfb i hl); rw [if_neg (show ¬ (τ 38 30, τ 38 31, τ 38 32).2.2 < τ 46 i from Int32.not_lt.mpr q175)] at z; exact ih _ (by omega) (i + 1) τ rfl (by omega) hf hfb z) | (have z := isB_fin hB (hfb i hl); rw [if_pos (show (τ 38 30, τ 38 31, τ 38 32).2.2 < τ 46 i from q175)] at z; exact ih _ (by omega) (i + 1) (stI (stI (stI (mkH h τ J) 38 30 (nI i)) 38 31 (τ 47 i)) 38 32 (τ 46 i)).1 rfl (by omega) (fun a k a2 a3 => by show hpI (stI _ _ _ _) _ _ = _; rw [hpI_st, if_neg (by omega), hpI_st, if_neg (by omega), hpI_st, if_neg (by omega)]; exact hf a k a2 a3) (fun j hj => hfb j hj) z)
              · skip
                refine v_aload_n hX rfl qX12_best_178 ?_
                refine v_iload_n hX rfl qX12_best_179 ?_
                refine v_putI hX p_X12_280 (hm.kd 38 rfl) (Or.inl rfl) qX12_best_180 ?_
                refine v_aload_n hX rfl qX12_best_183 ?_
                refine v_aload_n hX rfl qX12_best_184 ?_
                refine v_getR hX g_X12_41 (hm.kd 38 rfl) (hm.rf 8 rfl) qX12_best_185 ?_
                refine v_iload_n hX rfl qX12_best_188 ?_
                refine v_ialdV hX (hm.kd 47 rfl) (hm.ln 47 rfl) (by exact ix_n (n := i) (by omega) rfl) (show _ = τ 47 i from rfl) qX12_best_189 ?_
                refine v_putI hX p_X12_283 (hm.kd 38 rfl) (Or.inl rfl) qX12_best_190 ?_
                refine v_aload_n hX rfl qX12_best_193 ?_
                refine v_aload_n hX rfl qX12_best_194 ?_
                refine v_getR hX g_X12_38 (hm.kd 38 rfl) (hm.rf 7 rfl) qX12_best_195 ?_
                refine v_iload_n hX rfl qX12_best_198 ?_
                refine v_ialdV hX (hm.kd 46 rfl) (hm.ln 46 rfl) (by exact ix_n (n := i) (by omega) rfl) (show _ = τ 46 i from rfl) qX12_best_199 ?_
                refine v_putI hX p_X12_286 (hm.kd 38 rfl) (Or.inl rfl) qX12_best_200 ?_
                refine v_iinc hX rfl (by first | exact ii_nI _ | exact ii_1 _) (Nat.le_of_ble_eq_true rfl) rfl (ls' := [some _, some _, none, none, none, none]) rfl qX12_best_203 ?_
                refine v_goto hX 157 qX12_best_206 rfl ?_
                first | (have z := isB_fin hB (hfb i hl); rw [if_neg (show ¬ (τ 38 30, τ 38 31, τ 38 32).2.2 < τ 46 i from Int32.not_lt.mpr q175)] at z; exact ih _ (by omega) (i + 1) τ rfl (by omega) hf hfb z) | (have z := isB_fin hB (hfb i hl); rw [if_pos (show (τ 38 30, τ 38 31, τ 38 32).2.2 < τ 46 i from q175)] at z; exact ih _ (by omega) (i + 1) (stI (stI (stI (mkH h τ J) 38 30 (nI i)) 38 31 (τ 47 i)) 38 32 (τ 46 i)).1 rfl (by omega) (fun a k a2 a3 => by show hpI (stI _ _ _ _) _ _ = _; rw [hpI_st, if_neg (by omega), hpI_st, if_neg (by omega), hpI_st, if_neg (by omega)]; exact hf a k a2 a3) (fun j hj => hfb j hj) z)
          exact L157 _ 0 σ rfl (by omega) hf hfb (Or.inl ⟨by rw [hz.1, hz.2.1, hz.2.2], fun i' q z => absurd z.1 (by omega)⟩)
        · have hq := ltN (N := 48) rfl hi q43
          refine v_aload_n hX rfl qX12_best_46 ?_
          refine v_getR hX g_X12_23 (hm.kd 38 rfl) (hm.rf 3 rfl) qX12_best_47 ?_
          refine v_iload_n hX rfl qX12_best_50 ?_
          refine v_ialdV hX (hm.kd 42 rfl) (hm.ln 42 rfl) (by exact ix_n hq rfl) (show _ = sB E 1 q by rw [← hb, bm1 hq]; exact hf 42 q (by omega) (by omega)) qX12_best_51 ?_
          refine v_if_leS hX 149 qX12_best_52 rfl (fun q52 => ?_) (fun q52 => ?_)
          · skip
            refine v_iinc hX rfl (by first | exact ii_nI _ | exact ii_1 _) (Nat.le_of_ble_eq_true rfl) rfl (ls' := [some _, some _, none, none, none, none]) rfl qX12_best_149 ?_
            refine v_goto hX 40 qX12_best_152 rfl ?_
            first | exact ihO _ (by omega) (q + 1) σ J rfl (by omega) hf hz (fun j hj => (hfb j hj).skip (if_neg (Int32.not_lt.mpr q52))) | exact ihO _ (by omega) (q + 1) σ1 J1 rfl (by omega) (hf.tr hf1.t) (hz.R hf1) (fun j hj => by
              rw [show σ1 46 j = σ 46 j from hf1.1 46 j (by omega), show σ1 47 j = σ 47 j from hf1.1 47 j (by omega)]
              exact (hfb j hj).skip (rate_0 q60 (hnu j hj))) | exact ihO _ (by omega) (q + 1) τ J3 rfl (by omega) hft hzt (fun j hj => hb2.1 j hj)
          · skip
            refine v_aload_n hX rfl qX12_best_55 ?_
            refine v_iload_n hX rfl qX12_best_56 ?_
            refine v_callVq hX hR k_X12_255 (hm.kd 38 rfl) (mw_isUnder (by exact hcv) (by exact hq)) rfl (Nat.le_of_ble_eq_true rfl) rfl (Nat.le_of_ble_eq_true rfl) ⟨Nat.le_of_ble_eq_true rfl, Nat.le_of_ble_eq_true rfl⟩ qX12_best_57 ?_
            rintro _ _ ⟨rfl, σ1, J1, rfl, hf1⟩
            have hcv1 := hcv.fr hf1
            first | refine v_if_neB hX 149 qX12_best_60 rfl (fun q60 => ?_) (fun q60 => ?_) | refine v_if_ne hX 149 qX12_best_60 rfl (fun q60 => ?_) (fun q60 => ?_)
            · skip
              refine v_iinc hX rfl (by first | exact ii_nI _ | exact ii_1 _) (Nat.le_of_ble_eq_true rfl) rfl (ls' := [some _, some _, none, none, none, none]) rfl qX12_best_149 ?_
              refine v_goto hX 40 qX12_best_152 rfl ?_
              first | exact ihO _ (by omega) (q + 1) σ J rfl (by omega) hf hz (fun j hj => (hfb j hj).skip (if_neg (Int32.not_lt.mpr q52))) | exact ihO _ (by omega) (q + 1) σ1 J1 rfl (by omega) (hf.tr hf1.t) (hz.R hf1) (fun j hj => by
                rw [show σ1 46 j = σ 46 j from hf1.1 46 j (by omega), show σ1 47 j = σ 47 j from hf1.1 47 j (by omega)]
                exact (hfb j hj).skip (rate_0 q60 (hnu j hj))) | exact ihO _ (by omega) (q + 1) τ J3 rfl (by omega) hft hzt (fun j hj => hb2.1 j hj)
            · have hse : seB (sT E) (sB E) q = 0 := Classical.byContradiction q60
              refine v_aload_n hX rfl qX12_best_63 ?_
              refine v_iload_n hX rfl qX12_best_64 ?_
              refine v_callVq hX hR k_X12_249 (hm.kd 38 rfl) (mw_deep (by exact hcv1) (by exact hq)) rfl (Nat.le_of_ble_eq_true rfl) rfl (Nat.le_of_ble_eq_true rfl) ⟨Nat.le_of_ble_eq_true rfl, Nat.le_of_ble_eq_true rfl⟩ qX12_best_65 ?_
              rintro _ _ ⟨rfl, σ2, J2, rfl, hf2⟩
              have hcv2 := hcv1.fr hf2
              refine v_istore_n hX (Nat.le_of_ble_eq_true rfl) rfl (ls' := [some _, some _, some _, none, none, none]) rfl qX12_best_68 ?_
              refine v_aload_n hX rfl qX12_best_69 ?_
              refine v_iload_n hX rfl qX12_best_70 ?_
              refine v_callVq hX hR k_X12_252 (hm.kd 38 rfl) (mw_shine (by exact hcv2) (by exact hq)) rfl (Nat.le_of_ble_eq_true rfl) rfl (Nat.le_of_ble_eq_true rfl) ⟨Nat.le_of_ble_eq_true rfl, Nat.le_of_ble_eq_true rfl⟩ qX12_best_71 ?_
              rintro _ _ ⟨rfl, σ3, J3, rfl, hf3⟩
              have hfr : FrR (mkH h σ J) σ3 J3 := (FrR.tr hf1 hf2).tr hf3
              refine v_istore_n hX (Nat.le_of_ble_eq_true rfl) rfl (ls' := [some _, some _, some _, some _, none, none]) rfl qX12_best_74 ?_
              refine v_iconst hX li_0 qX12_best_75 ?_
              refine v_istore hX (Nat.le_of_ble_eq_true rfl) rfl (ls' := [some _, some _, some _, some _, some _, none]) rfl qX12_best_76 ?_
              have L78 : ∀ (mz : Nat) (i : Nat) (τ : Nat → Nat → Int32), sM E - i = mz → (i ≤ sM E) → (FrX h τ) → (Z3 τ) → (FBs (RR (sT E) (sK E) (sN E) (sB E)) (sM E) q i τ) → V X G 6 0 0 (QM X G P 0 0) 78 [some (.ref 38), some (.int (nI q)), some (.int (dpB (sT E) (sB E) q)), some (.int (shB (sT E) (sB E) q)), some (.int (nI i)), none] [] (mkH h τ J3) := by
                intro mz
                induction mz using Nat.strongRecOn with
                | _ mz ih =>
                intro i τ hmz hi hft hzt hb2
                have hct := hft.mw hc J3
                refine v_iload hX rfl qX12_best_78 ?_
                refine v_aload_n hX rfl qX12_best_80 ?_
                refine v_getIv hX g_X12_91 (Or.inl rfl) (hm.kd 38 rfl) (show _ = nI (sM E) from hct.2.2.1.1) qX12_best_81 ?_
                refine v_icmp_geS hX 149 qX12_best_84 rfl (fun q84 => ?_) (fun q84 => ?_)
                · have e1 : i = sM E := Nat.le_antisymm hi (nI_le' (by omega) (by omega) q84)
                  subst e1
                  refine v_iinc hX rfl (by first | exact ii_nI _ | exact ii_1 _) (Nat.le_of_ble_eq_true rfl) rfl (ls' := [some _, some _, some _, some _, some _, none]) rfl qX12_best_149 ?_
                  refine v_goto hX 40 qX12_best_152 rfl ?_
                  refine v_forget (ls' := [_, _, none, none, none, none]) ⟨Or.inr rfl, Or.inr rfl, Or.inl rfl, Or.inl rfl, Or.inl rfl, Or.inr rfl, trivial⟩ ?_
                  first | exact ihO _ (by omega) (q + 1) σ J rfl (by omega) hf hz (fun j hj => (hfb j hj).skip (if_neg (Int32.not_lt.mpr q52))) | exact ihO _ (by omega) (q + 1) σ1 J1 rfl (by omega) (hf.tr hf1.t) (hz.R hf1) (fun j hj => by
                    rw [show σ1 46 j = σ 46 j from hf1.1 46 j (by omega), show σ1 47 j = σ 47 j from hf1.1 47 j (by omega)]
                    exact (hfb j hj).skip (rate_0 q60 (hnu j hj))) | exact ihO _ (by omega) (q + 1) τ J3 rfl (by omega) hft hzt (fun j hj => hb2.1 j hj)
                · have hl := nI_lt' (by omega) (by omega) q84
                  refine v_aload_n hX rfl qX12_best_87 ?_
                  refine v_getR hX g_X12_23 (hm.kd 38 rfl) (hm.rf 3 rfl) qX12_best_88 ?_
                  refine v_iload_n hX rfl qX12_best_91 ?_
                  refine v_ialdV hX (hm.kd 42 rfl) (hm.ln 42 rfl) (by exact ix_n hq rfl) (show _ = sB E 1 q by rw [← hb, bm1 hq]; exact hft 42 q (by omega) (by omega)) qX12_best_92 ?_
                  refine v_aload_n hX rfl qX12_best_93 ?_
                  refine v_iload hX rfl qX12_best_94 ?_
                  refine v_iload_n hX rfl qX12_best_96 ?_
                  refine v_iload_n hX rfl qX12_best_97 ?_
                  refine v_callVq hX hR k_X12_258 (hm.kd 38 rfl) (m_finds (by exact hm) (by exact hct.2.2.1) (by exact hm6) (by exact hkd) (by exact hl) _ _) rfl (Nat.le_of_ble_eq_true rfl) rfl (Nat.le_of_ble_eq_true rfl) ⟨Nat.le_of_ble_eq_true rfl, Nat.le_of_ble_eq_true rfl⟩ qX12_best_98 ?_
                  rintro _ _ ⟨rfl, rfl⟩
                  refine v_imul hX qX12_best_101 ?_
                  refine v_bipush hX lb_100 qX12_best_102 ?_
                  refine v_idiv hX (by decide) qX12_best_104 ?_
                  refine v_aload_n hX rfl qX12_best_105 ?_
                  refine v_iload hX rfl qX12_best_106 ?_
                  refine v_callVq hX hR k_X12_267 (hm.kd 38 rfl) (m_takes (by exact hm) (by exact hct.2.2.1) (by exact hm6) (by exact hkd) (by exact hl)) rfl (Nat.le_of_ble_eq_true rfl) rfl (Nat.le_of_ble_eq_true rfl) ⟨Nat.le_of_ble_eq_true rfl, Nat.le_of_ble_eq_true rfl⟩ qX12_best_108 ?_
                  rintro _ _ ⟨rfl, rfl⟩
                  rw [tk_eq (hnu i hl)]
                  obtain ⟨tk, tk1, tk2, etk⟩ := tkR_in (k := sK E i) (hnu i hl)
                  refine v_idiv hX (by rw [etk]; exact nI_ne0 (by omega) (by omega)) qX12_best_111 ?_
                  refine v_eqI (show _ = (RR (sT E) (sK E) (sN E) (sB E)) i q by rw [RR, if_pos q52, rateB, if_pos (show 0 < tkB (sK E i) (sN E i) by rw [etk]; exact nI_lt (a := 0) (by omega) (by omega)), gainB, goodB, if_pos hse]) ?_
                  refine v_istore hX (Nat.le_of_ble_eq_true rfl) rfl (ls' := [some _, some _, some _, some _, some _, some _]) rfl qX12_best_112 ?_
                  refine v_iload hX rfl qX12_best_114 ?_
                  refine v_aload_n hX rfl qX12_best_116 ?_
                  refine v_getR hX g_X12_38 (hm.kd 38 rfl) (hm.rf 7 rfl) qX12_best_117 ?_
                  refine v_iload hX rfl qX12_best_120 ?_
                  refine v_ialdV hX (hm.kd 46 rfl) (hm.ln 46 rfl) (by exact ix_n (n := i) (by omega) rfl) (show _ = τ 46 i from rfl) qX12_best_122 ?_
                  refine v_icmp_leS hX 143 qX12_best_123 rfl (fun q123 => ?_) (fun q123 => ?_)
                  · skip
                    refine v_iinc hX rfl (by first | exact ii_nI _ | exact ii_1 _) (Nat.le_of_ble_eq_true rfl) rfl (ls' := [some _, some _, some _, some _, some _, some _]) rfl qX12_best_143 ?_
                    refine v_goto hX 78 qX12_best_146 rfl ?_
                    refine v_forget (ls' := [_, _, _, _, _, none]) ⟨Or.inr rfl, Or.inr rfl, Or.inr rfl, Or.inr rfl, Or.inr rfl, Or.inl rfl, trivial⟩ ?_
                    first | exact ih _ (by omega) (i + 1) τ rfl (by omega) hft hzt (hb2.old hl q123) | exact ih _ (by omega) (i + 1) (stI (stI (mkH h τ J3) 46 i ((RR (sT E) (sK E) (sN E) (sB E)) i q)) 47 i (nI q)).1 rfl (by omega) (fun a k a2 a3 => by show hpI (stI _ _ _ _) _ _ = _; rw [hpI_st, if_neg (by omega), hpI_st, if_neg (by omega)]; exact hft a k a2 a3) hzt (hb2.new hl q123)
                  · skip
                    refine v_aload_n hX rfl qX12_best_126 ?_
                    refine v_getR hX g_X12_38 (hm.kd 38 rfl) (hm.rf 7 rfl) qX12_best_127 ?_
                    refine v_iload hX rfl qX12_best_130 ?_
                    refine v_iload hX rfl qX12_best_132 ?_
                    refine v_iastJ hX (hm.kd 46 rfl) (hm.ln 46 rfl) (by exact ix_n (n := i) (by omega) rfl) qX12_best_134 ?_
                    refine v_aload_n hX rfl qX12_best_135 ?_
                    refine v_getR hX g_X12_41 (hm.kd 38 rfl) (hm.rf 8 rfl) qX12_best_136 ?_
                    refine v_iload hX rfl qX12_best_139 ?_
                    refine v_iload_n hX rfl qX12_best_141 ?_
                    refine v_iastJ hX (hm.kd 47 rfl) (hm.ln 47 rfl) (by exact ix_n (n := i) (by omega) rfl) qX12_best_142 ?_
                    refine v_iinc hX rfl (by first | exact ii_nI _ | exact ii_1 _) (Nat.le_of_ble_eq_true rfl) rfl (ls' := [some _, some _, some _, some _, some _, some _]) rfl qX12_best_143 ?_
                    refine v_goto hX 78 qX12_best_146 rfl ?_
                    refine v_forget (ls' := [_, _, _, _, _, none]) ⟨Or.inr rfl, Or.inr rfl, Or.inr rfl, Or.inr rfl, Or.inr rfl, Or.inl rfl, trivial⟩ ?_
                    first | exact ih _ (by omega) (i + 1) τ rfl (by omega) hft hzt (hb2.old hl q123) | exact ih _ (by omega) (i + 1) (stI (stI (mkH h τ J3) 46 i ((RR (sT E) (sK E) (sN E) (sB E)) i q)) 47 i (nI q)).1 rfl (by omega) (fun a k a2 a3 => by show hpI (stI _ _ _ _) _ _ = _; rw [hpI_st, if_neg (by omega), hpI_st, if_neg (by omega)]; exact hft a k a2 a3) hzt (hb2.new hl q123)
              exact L78 _ 0 σ3 rfl (by omega) (hf.tr hfr.t) (hz.R hfr) ⟨fun j hj => absurd hj (by omega), fun j _ hj => by
                rw [show σ3 46 j = σ 46 j from hfr.1 46 j (by omega), show σ3 47 j = σ 47 j from hfr.1 47 j (by omega)]
                exact hfb j hj⟩
      exact L40 _ 0 σ h.2.2.1 rfl (by omega) hf hz (fun j hj => Or.inl ⟨h0 j hj, fun q hq => absurd hq (by omega)⟩)
    · have hl := nI_lt' (by omega) (by omega) q22
      refine v_aload_n hX rfl qX12_best_25 ?_
      refine v_getR hX g_X12_38 (hm.kd 38 rfl) (hm.rf 7 rfl) qX12_best_26 ?_
      refine v_iload_n hX rfl qX12_best_29 ?_
      refine v_iconst hX li_0 qX12_best_30 ?_
      refine v_iastJ hX (hm.kd 46 rfl) (hm.ln 46 rfl) (by exact ix_n (n := i) (by omega) rfl) qX12_best_31 ?_
      refine v_iinc hX rfl (by first | exact ii_nI _ | exact ii_1 _) (Nat.le_of_ble_eq_true rfl) rfl (ls' := [some _, some _, none, none, none, none]) rfl qX12_best_32 ?_
      refine v_goto hX 17 qX12_best_35 rfl ?_
      exact ih _ (by omega) (i + 1) (stI (mkH h σ h.2.2.1) 46 i 0).1 rfl (by omega) (fun a k a2 a3 => by show hpI (stI _ _ _ _) _ _ = _; rw [hpI_st, if_neg (by omega)]; exact hf a k a2 a3) hz (fun j hj => by
        show hpI (stI _ _ _ _) _ _ = _
        rw [hpI_st]
        by_cases e : j = i
        · rw [if_pos ⟨rfl, e⟩]
        · rw [if_neg (fun z => e z.2)]; exact h0 j (by omega))
  exact L17 _ 0 (stI (stI (stI h 38 30 (-1)) 38 31 (-1)) 38 32 0).1 rfl (by omega) (fun a k a2 a3 => by show hpI (stI _ _ _ _) _ _ = _; rw [hpI_st, if_neg (by omega), hpI_st, if_neg (by omega), hpI_st, if_neg (by omega)]) ⟨rfl, rfl, rfl⟩ (fun j hj => absurd hj (by omega))
