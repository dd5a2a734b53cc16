/-! the class reads a text -/
/-- what reading a text leaves alone -/
def FrTt (h : AHp) (σ : Nat → Nat → Int32) : Prop := ∀ a k, ¬ (13 ≤ a ∧ a ≤ 16) → ¬ (a = 11 ∧ k ≠ 1) → σ a k = hpI h a k
theorem FrTk.t {h : AHp} {σ : Nat → Nat → Int32} (hf : FrTk h σ) : FrTt h σ := fun a k a1 a2 => hf a k (by omega) (by omega)
theorem FrA.tt {h : AHp} {σ : Nat → Nat → Int32} (hf : FrA h σ) : FrTt h σ := fun a k a1 a2 => hf a k (by omega) (by omega)
theorem FrTt.tr {h : AHp} {σ σ' : Nat → Nat → Int32} (a : FrTt h σ) (b : FrTt (σ, h.2) σ') : FrTt h σ' := fun x k h1 h2 => (b x k h1 h2).trans (a x k h1 h2)
theorem FrTt.st {h : AHp} {σ : Nat → Nat → Int32} (a : FrTt h σ) {k : Nat} (hk : k ≠ 1) (v : Int32) : FrTt h (stI (σ, h.2) 11 k v).1 := fun x j h1 h2 => by
  show hpI (stI _ _ _ _) _ _ = _
  rw [hpI_st, if_neg (by omega)]
  exact a x j h1 h2
/-- what readText leaves -/
def PoX (pl : Nat → Nat) (σ : Nat → Nat → Int32) (x : Int32) : TxR → Prop
  | .inl f => x = 0 ∧ σ 11 2 = nI (pl f)
  | .inr (a, b, c) => x = 1 ∧ σ 11 12 = nI a.1.length ∧ σ 11 13 = nI (a.1.length + b.1.length) ∧ σ 11 11 = nI (a.1.length + b.1.length + c.1.length) ∧ a.1.length + b.1.length + c.1.length ≤ 160 ∧ CodeAt σ 0 (a.1 ++ b.1 ++ c.1) ∧ Runs a.1 a.2 31 ∧ Runs b.1 b.2 31 ∧ Runs c.1 c.2 31
theorem PoX.of {pl : Nat → Nat} {σ : Nat → Nat → Int32} {x : Int32} {r r' : TxR} (hp : PoX pl σ x r) (e : r' = r) : PoX pl σ x r' := by rw [e]; exact hp
theorem StP.base {K : Nat → Int32} {h h2 : AHp} {o c j : Nat} {σ : Nat → Nat → Int32} {cs : List Int32} (hp : StP K h o c σ j cs) (h7 : hpI h2 11 7 = σ 11 7) (h8 : hpI h2 11 8 = σ 11 8) (h9 : hpI h2 11 9 = σ 11 9) (h11 : hpI h2 11 11 = σ 11 11) : StP K h2 o (c + cs.length) h2.1 j [] := ⟨fun _ _ _ _ => rfl, h7.trans hp.2.1, h8.trans hp.2.2.1, h9.trans hp.2.2.2.1, h11.trans hp.2.2.2.2.1, (by intro q y z; simp at z), fun _ _ => rfl⟩
theorem qX10_readText_0 : Dq cX10_readText 0 (.aload_n 0) 1 1 := ⟨by decide +kernel, rfl⟩
theorem qX10_readText_1 : Dq cX10_readText 1 (.invokevirtual 35) 3 4 := ⟨by decide +kernel, rfl⟩
theorem qX10_readText_4 : Dq cX10_readText 4 (.aload_n 0) 1 5 := ⟨by decide +kernel, rfl⟩
theorem qX10_readText_5 : Dq cX10_readText 5 (.iconst 0) 1 6 := ⟨by decide +kernel, rfl⟩
theorem qX10_readText_6 : Dq cX10_readText 6 (.putfield 38) 3 9 := ⟨by decide +kernel, rfl⟩
theorem qX10_readText_9 : Dq cX10_readText 9 (.aload_n 0) 1 10 := ⟨by decide +kernel, rfl⟩
theorem qX10_readText_10 : Dq cX10_readText 10 (.iconst 0) 1 11 := ⟨by decide +kernel, rfl⟩
theorem qX10_readText_11 : Dq cX10_readText 11 (.putfield 41) 3 14 := ⟨by decide +kernel, rfl⟩
theorem qX10_readText_14 : Dq cX10_readText 14 (.aload_n 0) 1 15 := ⟨by decide +kernel, rfl⟩
theorem qX10_readText_15 : Dq cX10_readText 15 (.iconst 0) 1 16 := ⟨by decide +kernel, rfl⟩
theorem qX10_readText_16 : Dq cX10_readText 16 (.putfield 44) 3 19 := ⟨by decide +kernel, rfl⟩
theorem qX10_readText_19 : Dq cX10_readText 19 (.aload_n 0) 1 20 := ⟨by decide +kernel, rfl⟩
theorem qX10_readText_20 : Dq cX10_readText 20 (.iconst 0) 1 21 := ⟨by decide +kernel, rfl⟩
theorem qX10_readText_21 : Dq cX10_readText 21 (.invokevirtual 47) 3 24 := ⟨by decide +kernel, rfl⟩
theorem qX10_readText_24 : Dq cX10_readText 24 (.aload_n 0) 1 25 := ⟨by decide +kernel, rfl⟩
theorem qX10_readText_25 : Dq cX10_readText 25 (.iconst 4) 1 26 := ⟨by decide +kernel, rfl⟩
theorem qX10_readText_26 : Dq cX10_readText 26 (.invokevirtual 51) 3 29 := ⟨by decide +kernel, rfl⟩
theorem qX10_readText_29 : Dq cX10_readText 29 (.ifCond .ne 5) 3 32 := ⟨by decide +kernel, rfl⟩
theorem qX10_readText_32 : Dq cX10_readText 32 (.iconst 0) 1 33 := ⟨by decide +kernel, rfl⟩
theorem qX10_readText_33 : Dq cX10_readText 33 (.ireturn) 1 34 := ⟨by decide +kernel, rfl⟩
theorem qX10_readText_34 : Dq cX10_readText 34 (.aload_n 0) 1 35 := ⟨by decide +kernel, rfl⟩
theorem qX10_readText_35 : Dq cX10_readText 35 (.aload_n 0) 1 36 := ⟨by decide +kernel, rfl⟩
theorem qX10_readText_36 : Dq cX10_readText 36 (.getfield 44) 3 39 := ⟨by decide +kernel, rfl⟩
theorem qX10_readText_39 : Dq cX10_readText 39 (.putfield 55) 3 42 := ⟨by decide +kernel, rfl⟩
theorem qX10_readText_42 : Dq cX10_readText 42 (.aload_n 0) 1 43 := ⟨by decide +kernel, rfl⟩
theorem qX10_readText_43 : Dq cX10_readText 43 (.iconst 5) 1 44 := ⟨by decide +kernel, rfl⟩
theorem qX10_readText_44 : Dq cX10_readText 44 (.invokevirtual 51) 3 47 := ⟨by decide +kernel, rfl⟩
theorem qX10_readText_47 : Dq cX10_readText 47 (.ifCond .ne 5) 3 50 := ⟨by decide +kernel, rfl⟩
theorem qX10_readText_50 : Dq cX10_readText 50 (.iconst 0) 1 51 := ⟨by decide +kernel, rfl⟩
theorem qX10_readText_51 : Dq cX10_readText 51 (.ireturn) 1 52 := ⟨by decide +kernel, rfl⟩
theorem qX10_readText_52 : Dq cX10_readText 52 (.aload_n 0) 1 53 := ⟨by decide +kernel, rfl⟩
theorem qX10_readText_53 : Dq cX10_readText 53 (.aload_n 0) 1 54 := ⟨by decide +kernel, rfl⟩
theorem qX10_readText_54 : Dq cX10_readText 54 (.getfield 44) 3 57 := ⟨by decide +kernel, rfl⟩
theorem qX10_readText_57 : Dq cX10_readText 57 (.putfield 58) 3 60 := ⟨by decide +kernel, rfl⟩
theorem qX10_readText_60 : Dq cX10_readText 60 (.aload_n 0) 1 61 := ⟨by decide +kernel, rfl⟩
theorem qX10_readText_61 : Dq cX10_readText 61 (.bipush 6) 2 63 := ⟨by decide +kernel, rfl⟩
theorem qX10_readText_63 : Dq cX10_readText 63 (.invokevirtual 51) 3 66 := ⟨by decide +kernel, rfl⟩
theorem qX10_readText_66 : Dq cX10_readText 66 (.ifCond .eq 15) 3 69 := ⟨by decide +kernel, rfl⟩
theorem qX10_readText_69 : Dq cX10_readText 69 (.aload_n 0) 1 70 := ⟨by decide +kernel, rfl⟩
theorem qX10_readText_70 : Dq cX10_readText 70 (.iconst 0) 1 71 := ⟨by decide +kernel, rfl⟩
theorem qX10_readText_71 : Dq cX10_readText 71 (.invokevirtual 61) 3 74 := ⟨by decide +kernel, rfl⟩
theorem qX10_readText_74 : Dq cX10_readText 74 (.ifCond .eq 7) 3 77 := ⟨by decide +kernel, rfl⟩
theorem qX10_readText_77 : Dq cX10_readText 77 (.iconst 1) 1 78 := ⟨by decide +kernel, rfl⟩
theorem qX10_readText_78 : Dq cX10_readText 78 (.goto 4) 3 81 := ⟨by decide +kernel, rfl⟩
theorem qX10_readText_81 : Dq cX10_readText 81 (.iconst 0) 1 82 := ⟨by decide +kernel, rfl⟩
theorem qX10_readText_82 : Dq cX10_readText 82 (.ireturn) 1 83 := ⟨by decide +kernel, rfl⟩
set_option maxRecDepth 100000 in
set_option maxHeartbeats 4000000 in
theorem c_readText {G : Glb} {h : AHp} (hs : ShC h) {by' : Nat → Int32} {sz : Nat} (hb : TpB by' sz h) (hG : HST G) : CP G m_X10_readText 66 0 0 [.ref 11] h (fun r h' => ∃ σ x, r = some (.int x) ∧ h' = (σ, h.2) ∧ FrTt h σ ∧ PoX (pl by' sz) σ x (tTxt by' sz)) := by
  suffices key : ∀ P : Option Value → AHp → Prop, (∀ r h', (∃ σ x, r = some (.int x) ∧ h' = (σ, h.2) ∧ FrTt h σ ∧ PoX (pl by' sz) σ x (tTxt by' sz)) → P r h') → CP G m_X10_readText 66 0 0 [.ref 11] h P from key _ (fun _ _ z => z)
  intro P hP
  refine CP.of (by decide +kernel) (Nat.le_of_ble_eq_true rfl) fun X hX hR hnm => ?_
  show V X G 1 0 0 _ 0 [some (.ref 11)] [] h
  have hs160 := hb.2.1
  refine v_aload_n hX rfl qX10_readText_0 ?_
  refine v_callVq hX hR k_X10_35 (hs.kd 11 rfl) (c_splitTokens (by exact hs) (by exact hb) (by exact hG)) rfl (Nat.le_of_ble_eq_true rfl) rfl (Nat.le_of_ble_eq_true rfl) ⟨Nat.le_of_ble_eq_true rfl, Nat.le_of_ble_eq_true rfl⟩ qX10_readText_1 ?_
  rintro _ _ ⟨rfl, σ0, rfl, hf0, ht0⟩
  have g0 := hf0.t
  refine v_aload_n hX rfl qX10_readText_4 ?_
  refine v_iconst hX li_0 qX10_readText_5 ?_
  refine v_putI hX p_X10_38 (hs.kd 11 rfl) (Or.inl rfl) qX10_readText_6 ?_
  refine v_aload_n hX rfl qX10_readText_9 ?_
  refine v_iconst hX li_0 qX10_readText_10 ?_
  refine v_putI hX p_X10_41 (hs.kd 11 rfl) (Or.inl rfl) qX10_readText_11 ?_
  refine v_aload_n hX rfl qX10_readText_14 ?_
  refine v_iconst hX li_0 qX10_readText_15 ?_
  refine v_putI hX p_X10_44 (hs.kd 11 rfl) (Or.inl rfl) qX10_readText_16 ?_
  refine v_aload_n hX rfl qX10_readText_19 ?_
  refine v_iconst hX li_0 qX10_readText_20 ?_
  have htB : TkC (tkK by' sz) (tkW by' sz) (pl by' sz) (nT by' sz) sz (stI (stI (stI (σ0, h.2) 11 2 0) 11 9 0) 11 11 0) := ht0
  have gB := ((g0.st (k := 2) (by omega) 0).st (k := 9) (by omega) 0).st (k := 11) (by omega) 0
  refine v_callVq hX hR k_X10_47 (hs.kd 11 rfl) (c_goTo (h := (stI (stI (stI (σ0, h.2) 11 2 0) 11 9 0) 11 11 0)) (by exact hs) (by exact htB) (i := 0) (by omega)) rfl (Nat.le_of_ble_eq_true rfl) rfl (Nat.le_of_ble_eq_true rfl) ⟨Nat.le_of_ble_eq_true rfl, Nat.le_of_ble_eq_true rfl⟩ qX10_readText_21 ?_
  rintro _ _ ⟨rfl, rfl⟩
  have g1 := (gB.st (k := 7) (by omega) (nI 0)).st (k := 8) (by omega) (tkK by' sz 0)
  have ht1 : TkC (tkK by' sz) (tkW by' sz) (pl by' sz) (nT by' sz) sz (stI (stI (stI (stI (stI (σ0, h.2) 11 2 0) 11 9 0) 11 11 0) 11 7 (nI 0)) 11 8 (tkK by' sz 0)) := ht0
  have hp1 : StP (tkK by' sz) (stI (stI (stI (stI (stI (σ0, h.2) 11 2 0) 11 9 0) 11 11 0) 11 7 (nI 0)) 11 8 (tkK by' sz 0)) 0 0 (stI (stI (stI (stI (stI (σ0, h.2) 11 2 0) 11 9 0) 11 11 0) 11 7 (nI 0)) 11 8 (tkK by' sz 0)).1 0 [] := ⟨fun _ _ _ _ => rfl, rfl, rfl, rfl, rfl, (by intro q y z; simp at z), fun _ _ => rfl⟩
  refine v_aload_n hX rfl qX10_readText_24 ?_
  refine v_iconst hX li_4 qX10_readText_25 ?_
  refine v_callVq hX hR k_X10_51 (hs.kd 11 rfl) (c_readPart (key := 4) (K := tkK by' sz) (W := tkW by' sz) (Pl := pl by' sz) (n := nT by' sz) (sz := sz) (by exact (t_hK (by' := by') (sz := sz))) (by exact (tk_h2 (by' := by') (sz := sz))) (by exact (tk_h3 (by' := by') (sz := sz))) (by decide) (by exact (stI (stI (stI (stI (stI (σ0, h.2) 11 2 0) 11 9 0) 11 11 0) 11 7 (nI 0)) 11 8 (tkK by' sz 0))) (by exact 0) (by exact 0) (by exact hs) (by exact ht1) (by exact hp1) (by omega) (by omega)) rfl (Nat.le_of_ble_eq_true rfl) rfl (Nat.le_of_ble_eq_true rfl) ⟨Nat.le_of_ble_eq_true rfl, Nat.le_of_ble_eq_true rfl⟩ qX10_readText_26 ?_
  rintro _ _ ⟨σ1, x1, rfl, rfl, hq1⟩
  rcases e1 : tPart by' sz 4 0 with g | ⟨i1, c1, v1⟩
  · rw [show pPart (tkK by' sz) (tkW by' sz) (nT by' sz) 4 0 = _ from e1] at hq1
    obtain ⟨rfl, hfa, hfl⟩ := hq1
    first | refine v_if_neB hX 34 qX10_readText_29 rfl (fun q29 => ?_) (fun q29 => ?_) | refine v_if_ne hX 34 qX10_readText_29 rfl (fun q29 => ?_) (fun q29 => ?_)
    · exact absurd rfl q29
    · skip
      refine v_iconst hX li_0 qX10_readText_32 ?_
      refine v_zreturn hX (by first | exact Or.inl rfl | exact Or.inr rfl | exact bz01 _) qX10_readText_33 (hP _ _ ?_)
      exact ⟨σ1, 0, rfl, rfl, g1.tr hfa.tt, PoX.of (r := .inl g) ⟨rfl, hfl⟩ (tTxt1 e1)⟩
  · rw [show pPart (tkK by' sz) (tkW by' sz) (nT by' sz) 4 0 = _ from e1] at hq1
    obtain ⟨rfl, hst1⟩ := hq1
    obtain ⟨y1, y2, y3, y4⟩ := pPart_ok (K := tkK by' sz) (W := tkW by' sz) (n := nT by' sz) t_hK tk_h2 tk_h3 4 _ _ _ _ e1
    have g2 := (g1.tr hst1.1.tt).st (k := 12) (by omega) (nI (0 + c1.length))
    have ht2' : TkC (tkK by' sz) (tkW by' sz) (pl by' sz) (nT by' sz) sz (σ1, h.2) := ht1.fr hst1.1
    have ht2 : TkC (tkK by' sz) (tkW by' sz) (pl by' sz) (nT by' sz) sz (stI (σ1, h.2) 11 12 (nI (0 + c1.length))) := ht2'
    have hp2 := hst1.base (h2 := (stI (σ1, h.2) 11 12 (nI (0 + c1.length)))) rfl rfl rfl rfl
    first | refine v_if_neB hX 34 qX10_readText_29 rfl (fun q29 => ?_) (fun q29 => ?_) | refine v_if_ne hX 34 qX10_readText_29 rfl (fun q29 => ?_) (fun q29 => ?_)
    · skip
      refine v_aload_n hX rfl qX10_readText_34 ?_
      refine v_aload_n hX rfl qX10_readText_35 ?_
      refine v_getIv hX g_X10_44 (Or.inl rfl) (hs.kd 11 rfl) (show _ = nI (0 + c1.length) from hst1.2.2.2.2.1) qX10_readText_36 ?_
      refine v_putI hX p_X10_55 (hs.kd 11 rfl) (Or.inl rfl) qX10_readText_39 ?_
      refine v_aload_n hX rfl qX10_readText_42 ?_
      refine v_iconst hX li_5 qX10_readText_43 ?_
      refine v_callVq hX hR k_X10_51 (hs.kd 11 rfl) (c_readPart (key := 5) (K := tkK by' sz) (W := tkW by' sz) (Pl := pl by' sz) (n := nT by' sz) (sz := sz) (by exact (t_hK (by' := by') (sz := sz))) (by exact (tk_h2 (by' := by') (sz := sz))) (by exact (tk_h3 (by' := by') (sz := sz))) (by decide) (by exact (stI (σ1, h.2) 11 12 (nI (0 + c1.length)))) (by exact i1) (by exact (0 + c1.length)) (by exact hs) (by exact ht2) (by exact hp2) (by exact y2) (by exact y3)) rfl (Nat.le_of_ble_eq_true rfl) rfl (Nat.le_of_ble_eq_true rfl) ⟨Nat.le_of_ble_eq_true rfl, Nat.le_of_ble_eq_true rfl⟩ qX10_readText_44 ?_
      rintro _ _ ⟨σ2, x2, rfl, rfl, hq2⟩
      rcases e2 : tPart by' sz 5 i1 with g | ⟨i2, c2, v2⟩
      · rw [show pPart (tkK by' sz) (tkW by' sz) (nT by' sz) 5 i1 = _ from e2] at hq2
        obtain ⟨rfl, hfa, hfl⟩ := hq2
        first | refine v_if_neB hX 52 qX10_readText_47 rfl (fun q47 => ?_) (fun q47 => ?_) | refine v_if_ne hX 52 qX10_readText_47 rfl (fun q47 => ?_) (fun q47 => ?_)
        · exact absurd rfl q47
        · skip
          refine v_iconst hX li_0 qX10_readText_50 ?_
          refine v_zreturn hX (by first | exact Or.inl rfl | exact Or.inr rfl | exact bz01 _) qX10_readText_51 (hP _ _ ?_)
          exact ⟨σ2, 0, rfl, rfl, g2.tr hfa.tt, PoX.of (r := .inl g) ⟨rfl, hfl⟩ (tTxt2 e1 e2)⟩
      · rw [show pPart (tkK by' sz) (tkW by' sz) (nT by' sz) 5 i1 = _ from e2] at hq2
        obtain ⟨rfl, hst2⟩ := hq2
        obtain ⟨z1, z2, z3, z4⟩ := pPart_ok (K := tkK by' sz) (W := tkW by' sz) (n := nT by' sz) t_hK tk_h2 tk_h3 5 _ _ _ _ e2
        have e12 := tTxt3 e1 e2
        have g3 := (g2.tr hst2.1.tt).st (k := 13) (by omega) (nI (0 + c1.length + c2.length))
        have ht3' : TkC (tkK by' sz) (tkW by' sz) (pl by' sz) (nT by' sz) sz (σ2, h.2) := ht2.fr hst2.1
        have ht3 : TkC (tkK by' sz) (tkW by' sz) (pl by' sz) (nT by' sz) sz (stI (σ2, h.2) 11 13 (nI (0 + c1.length + c2.length))) := ht3'
        have hp3 := hst2.base (h2 := (stI (σ2, h.2) 11 13 (nI (0 + c1.length + c2.length)))) rfl rfl rfl rfl
        first | refine v_if_neB hX 52 qX10_readText_47 rfl (fun q47 => ?_) (fun q47 => ?_) | refine v_if_ne hX 52 qX10_readText_47 rfl (fun q47 => ?_) (fun q47 => ?_)
        · skip
          refine v_aload_n hX rfl qX10_readText_52 ?_
          refine v_aload_n hX rfl qX10_readText_53 ?_
          refine v_getIv hX g_X10_44 (Or.inl rfl) (hs.kd 11 rfl) (show _ = nI (0 + c1.length + c2.length) from hst2.2.2.2.2.1) qX10_readText_54 ?_
          refine v_putI hX p_X10_58 (hs.kd 11 rfl) (Or.inl rfl) qX10_readText_57 ?_
          refine v_aload_n hX rfl qX10_readText_60 ?_
          refine v_bipush hX lb_6 qX10_readText_61 ?_
          refine v_callVq hX hR k_X10_51 (hs.kd 11 rfl) (c_readPart (key := 6) (K := tkK by' sz) (W := tkW by' sz) (Pl := pl by' sz) (n := nT by' sz) (sz := sz) (by exact (t_hK (by' := by') (sz := sz))) (by exact (tk_h2 (by' := by') (sz := sz))) (by exact (tk_h3 (by' := by') (sz := sz))) (by decide) (by exact (stI (σ2, h.2) 11 13 (nI (0 + c1.length + c2.length)))) (by exact i2) (by exact (0 + c1.length + c2.length)) (by exact hs) (by exact ht3) (by exact hp3) (by exact z2) (by omega)) rfl (Nat.le_of_ble_eq_true rfl) rfl (Nat.le_of_ble_eq_true rfl) ⟨Nat.le_of_ble_eq_true rfl, Nat.le_of_ble_eq_true rfl⟩ qX10_readText_63 ?_
          rintro _ _ ⟨σ3, x3, rfl, rfl, hq3⟩
          rcases e3 : tPart by' sz 6 i2 with g | ⟨i3, c3, v3⟩
          · rw [show pPart (tkK by' sz) (tkW by' sz) (nT by' sz) 6 i2 = _ from e3] at hq3
            rw [e3] at e12
            obtain ⟨rfl, hfa, hfl⟩ := hq3
            first | refine v_if_eqB hX 81 qX10_readText_66 rfl (fun q66 => ?_) (fun q66 => ?_) | refine v_if_eq hX 81 qX10_readText_66 rfl (fun q66 => ?_) (fun q66 => ?_)
            · skip
              refine v_iconst hX li_0 qX10_readText_81 ?_
              refine v_zreturn hX (by first | exact Or.inl rfl | exact Or.inr rfl | exact bz01 _) qX10_readText_82 (hP _ _ ?_)
              exact ⟨σ3, 0, rfl, rfl, g3.tr hfa.tt, PoX.of (r := .inl g) ⟨rfl, hfl⟩ e12⟩
            · exact absurd rfl q66
          · rw [show pPart (tkK by' sz) (tkW by' sz) (nT by' sz) 6 i2 = _ from e3] at hq3
            rw [e3] at e12
            obtain ⟨rfl, hst3⟩ := hq3
            obtain ⟨w1, w2, w3, w4⟩ := pPart_ok (K := tkK by' sz) (W := tkW by' sz) (n := nT by' sz) t_hK tk_h2 tk_h3 6 _ _ _ _ e3
            have e12 : tTxt by' sz = if tkK by' sz i3 = 0 then .inr ((c1, v1), (c2, v2), (c3, v3)) else .inl i3 := e12
            have g4 := g3.tr hst3.1.tt
            have ht4 := ht3.fr hst3.1
            first | refine v_if_eqB hX 81 qX10_readText_66 rfl (fun q66 => ?_) (fun q66 => ?_) | refine v_if_eq hX 81 qX10_readText_66 rfl (fun q66 => ?_) (fun q66 => ?_)
            · exact absurd q66 (by decide)
            · skip
              refine v_aload_n hX rfl qX10_readText_69 ?_
              refine v_iconst hX li_0 qX10_readText_70 ?_
              refine v_callVq hX hR k_X10_61 (hs.kd 11 rfl) (c_expect (h := (σ3, h.2)) (by exact hs) (by exact ht4) (i := i3) (by exact w2) (by exact hst3.2.1) (by exact hst3.2.2.1) (by exact 0)) rfl (Nat.le_of_ble_eq_true rfl) rfl (Nat.le_of_ble_eq_true rfl) ⟨Nat.le_of_ble_eq_true rfl, Nat.le_of_ble_eq_true rfl⟩ qX10_readText_71 ?_
              rintro _ _ (⟨hq, rfl, rfl⟩ | ⟨hq, rfl, rfl⟩)
              · have hlen : c1.length + c2.length + c3.length ≤ 160 := by have := ht0.2.1; omega
                have hcode : CodeAt σ3 0 (c1 ++ c2 ++ c3) := CodeAt.cat (CodeAt.cat hst1.2.2.2.2.2.1 (fun k hk => (hst3.2.2.2.2.2.2 k (by omega)).trans (hst2.2.2.2.2.2.2 k hk)) (fun q y z => (hst3.2.2.2.2.2.2 (0 + c1.length + q) (by have := (List.getElem?_eq_some_iff.mp z).1; omega)).trans (hst2.2.2.2.2.2.1 q y z))) (fun k _ => rfl) (by rw [List.length_append, ← Nat.add_assoc]; exact hst3.2.2.2.2.2.1)
                first | refine v_if_eqB hX 81 qX10_readText_74 rfl (fun q74 => ?_) (fun q74 => ?_) | refine v_if_eq hX 81 qX10_readText_74 rfl (fun q74 => ?_) (fun q74 => ?_)
                · exact absurd q74 (by decide)
                · skip
                  refine v_iconst hX li_1 qX10_readText_77 ?_
                  refine v_goto hX 82 qX10_readText_78 rfl ?_
                  refine v_zreturn hX (by first | exact Or.inl rfl | exact Or.inr rfl | exact bz01 _) qX10_readText_82 (hP _ _ ?_)
                  exact ⟨(stI (stI (σ3, h.2) 11 7 (nI (i3 + 1))) 11 8 (tkK by' sz (i3 + 1))).1, 1, rfl, rfl, (g4.st (k := 7) (by omega) _).st (k := 8) (by omega) _, PoX.of (r := .inr ((c1, v1), (c2, v2), (c3, v3))) ⟨rfl, (hst3.1 11 12 (by omega) (by omega)).trans ((hst2.1 11 12 (by omega) (by omega)).trans (show nI (0 + c1.length) = nI c1.length by rw [Nat.zero_add])), (hst3.1 11 13 (by omega) (by omega)).trans (show nI (0 + c1.length + c2.length) = nI (c1.length + c2.length) by rw [Nat.zero_add]), hst3.2.2.2.2.1.trans (by rw [Nat.zero_add]), hlen, hcode, y4, z4, w4⟩ (e12.trans (if_pos hq))⟩
              · skip
                first | refine v_if_eqB hX 81 qX10_readText_74 rfl (fun q74 => ?_) (fun q74 => ?_) | refine v_if_eq hX 81 qX10_readText_74 rfl (fun q74 => ?_) (fun q74 => ?_)
                · skip
                  refine v_iconst hX li_0 qX10_readText_81 ?_
                  refine v_zreturn hX (by first | exact Or.inl rfl | exact Or.inr rfl | exact bz01 _) qX10_readText_82 (hP _ _ ?_)
                  exact ⟨(stI (σ3, h.2) 11 2 (nI (pl by' sz i3))).1, 0, rfl, rfl, g4.st (k := 2) (by omega) _, PoX.of (r := .inl i3) ⟨rfl, rfl⟩ (e12.trans (if_neg hq))⟩
                · exact absurd rfl q74
        · exact absurd q47 (by decide)
    · exact absurd q29 (by decide)
