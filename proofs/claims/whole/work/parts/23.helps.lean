/-! the helpers of the public calls: the sea, pictures, quotients, what set changes, kinds -/
def wetB (TV : TVt) (b : Nat → Nat → Int32) (q : Nat) (hr : Int32) : Int32 := seI TV (rlB b) (nI q) (b 2 q) hr
def duS (TV : TVt) (b : Nat → Nat → Int32) (hr : Int32) : Nat → Int32
  | 0 => 0
  | n + 1 => if 0 < b 1 n ∧ ¬ wetB TV b n hr = 0 then duS TV b hr n + b 1 n else duS TV b hr n
def mdS (f : Nat → Int32) (h0 : Nat) : Nat → Int32 × Int32
  | 0 => (nI h0, f h0)
  | n + 1 => if (mdS f h0 n).2 < f (h0 + n + 1) then (nI (h0 + n + 1), f (h0 + n + 1)) else mdS f h0 n
theorem RuOK.tv {h : AHp} {cnt : Nat} {TV : TVt} (_ : RuOK h cnt TV) : True := trivial
theorem FrW.P {h : AHp} {σ : Nat → Nat → Int32} (hf : FrW h σ) : FrP h σ := fun a k _ a2 a3 _ => hf a k (by omega) (by omega) (by omega)
theorem FrW.tr {h : AHp} {σ σ' : Nat → Nat → Int32} (h1 : FrW h σ) (h2 : FrW (σ, h.2) σ') : FrW h σ' := fun a k a1 a2 a3 => (h2 a k a1 a2 a3).trans (h1 a k a1 a2 a3)
theorem CaOK.W {h : AHp} {cnt : Nat} {TV : TVt} {σ : Nat → Nat → Int32} (hc : CaOK h cnt TV) (hf : FrW h σ) : CaOK (σ, h.2) cnt TV := hc.eq (fun a h1 h2 k _ => hf a k (by omega) (by omega) (by omega))
theorem FrW.bv {h : AHp} {σ : Nat → Nat → Int32} (hf : FrW h σ) : bv (σ, h.2) 1 = bv h 1 := bv_ext (fun i k ho => by
  have : i ≤ 2 := by rcases ho with ⟨e, -⟩ | ⟨e, -⟩ <;> omega
  exact hf (1 + i) k (by omega) (by omega) (by omega))
theorem qX11_isWetAt_0 : Dq cX11_isWetAt 0 (.aload_n 0) 1 1 := ⟨by decide +kernel, rfl⟩
theorem qX11_isWetAt_1 : Dq cX11_isWetAt 1 (.getfield 38) 3 4 := ⟨by decide +kernel, rfl⟩
theorem qX11_isWetAt_4 : Dq cX11_isWetAt 4 (.aload_n 0) 1 5 := ⟨by decide +kernel, rfl⟩
theorem qX11_isWetAt_5 : Dq cX11_isWetAt 5 (.getfield 10) 3 8 := ⟨by decide +kernel, rfl⟩
theorem qX11_isWetAt_8 : Dq cX11_isWetAt 8 (.getfield 174) 3 11 := ⟨by decide +kernel, rfl⟩
theorem qX11_isWetAt_11 : Dq cX11_isWetAt 11 (.iload_n 1) 1 12 := ⟨by decide +kernel, rfl⟩
theorem qX11_isWetAt_12 : Dq cX11_isWetAt 12 (.aload_n 0) 1 13 := ⟨by decide +kernel, rfl⟩
theorem qX11_isWetAt_13 : Dq cX11_isWetAt 13 (.getfield 10) 3 16 := ⟨by decide +kernel, rfl⟩
theorem qX11_isWetAt_16 : Dq cX11_isWetAt 16 (.iload_n 1) 1 17 := ⟨by decide +kernel, rfl⟩
theorem qX11_isWetAt_17 : Dq cX11_isWetAt 17 (.invokevirtual 121) 3 20 := ⟨by decide +kernel, rfl⟩
theorem qX11_isWetAt_20 : Dq cX11_isWetAt 20 (.iload_n 2) 1 21 := ⟨by decide +kernel, rfl⟩
theorem qX11_isWetAt_21 : Dq cX11_isWetAt 21 (.invokevirtual 392) 3 24 := ⟨by decide +kernel, rfl⟩
theorem qX11_isWetAt_24 : Dq cX11_isWetAt 24 (.ireturn) 1 25 := ⟨by decide +kernel, rfl⟩
set_option maxRecDepth 100000 in
set_option maxHeartbeats 4000000 in
theorem c_isWetAt {G : Glb} {h : AHp} (hs : ShC h) {cnt : Nat} {TV : Nat → Nat → (Nat → Int32) → Int32} (hru : RuOK h cnt TV) (hbe : BeOK (bv h 1) cnt) {q : Nat} (hq : q < 48) (hr : Int32) : CP G m_X11_isWetAt 5 0 0 [.ref 0, .int (nI q), .int hr] h (fun r h' => r = some (.int (bz (¬ wetB TV (bv h 1) q hr = 0))) ∧ ∃ σ, h' = (σ, h.2) ∧ FrW h σ) := by
  suffices key : ∀ P : Option Value → AHp → Prop, (∀ r h', (r = some (.int (bz (¬ wetB TV (bv h 1) q hr = 0))) ∧ ∃ σ, h' = (σ, h.2) ∧ FrW h σ) → P r h') → CP G m_X11_isWetAt 5 0 0 [.ref 0, .int (nI q), .int hr] h P from key _ (fun _ _ z => z)
  intro P hP
  refine CP.of (by decide +kernel) (Nat.le_of_ble_eq_true rfl) fun X hX hR hnm => ?_
  show V X G 3 0 0 _ 0 [some (.ref 0), some (.int (nI q)), some (.int hr)] [] h
  have hc6 := hru.2.1
  obtain ⟨hrl, hrl5⟩ := hbe.rl hc6
  rw [bv0 (by omega) (by omega)] at hrl5
  refine v_aload_n hX rfl qX11_isWetAt_0 ?_
  refine v_getR hX g_X11_38 (hs.kd 0 rfl) (hs.rf 5 rfl) qX11_isWetAt_1 ?_
  refine v_aload_n hX rfl qX11_isWetAt_4 ?_
  refine v_getR hX g_X11_10 (hs.kd 0 rfl) (hs.rf 0 rfl) qX11_isWetAt_5 ?_
  refine v_getIv hX g_X11_174 (Or.inl rfl) (hs.kd 1 rfl) hrl5 qX11_isWetAt_8 ?_
  refine v_iload_n hX rfl qX11_isWetAt_11 ?_
  refine v_aload_n hX rfl qX11_isWetAt_12 ?_
  refine v_getR hX g_X11_10 (hs.kd 0 rfl) (hs.rf 0 rfl) qX11_isWetAt_13 ?_
  refine v_iload_n hX rfl qX11_isWetAt_16 ?_
  refine v_callVq hX hR k_X11_121 (hs.kd 1 rfl) (c_treadsAt (by exact hs) (by exact (Or.inl rfl)) _) rfl (Nat.le_of_ble_eq_true rfl) rfl (Nat.le_of_ble_eq_true rfl) ⟨Nat.le_of_ble_eq_true rfl, Nat.le_of_ble_eq_true rfl⟩ qX11_isWetAt_17 ?_
  rintro _ _ ⟨rfl, rfl⟩
  refine v_iload_n hX rfl qX11_isWetAt_20 ?_
  refine v_callVq hX hR k_X11_392 (hs.kd 17 rfl) (c_isWetBy (by exact hs) (by exact hru) (rl := rlB (bv h 1)) (by exact hrl) _ _ _) rfl (Nat.le_of_ble_eq_true rfl) rfl (Nat.le_of_ble_eq_true rfl) ⟨Nat.le_of_ble_eq_true rfl, Nat.le_of_ble_eq_true rfl⟩ qX11_isWetAt_21 ?_
  rintro _ _ ⟨rfl, σ, rfl, hf⟩
  rw [trdA_n hq]
  refine v_zreturn hX (by first | exact Or.inl rfl | exact Or.inr rfl | exact bz01 _) qX11_isWetAt_24 (hP _ _ ?_)
  exact ⟨rfl, σ, rfl, hf⟩
theorem qX11_oddsUnderWater_0 : Dq cX11_oddsUnderWater 0 (.iconst 0) 1 1 := ⟨by decide +kernel, rfl⟩
theorem qX11_oddsUnderWater_1 : Dq cX11_oddsUnderWater 1 (.istore_n 2) 1 2 := ⟨by decide +kernel, rfl⟩
theorem qX11_oddsUnderWater_2 : Dq cX11_oddsUnderWater 2 (.iconst 0) 1 3 := ⟨by decide +kernel, rfl⟩
theorem qX11_oddsUnderWater_3 : Dq cX11_oddsUnderWater 3 (.istore_n 3) 1 4 := ⟨by decide +kernel, rfl⟩
theorem qX11_oddsUnderWater_4 : Dq cX11_oddsUnderWater 4 (.iload_n 3) 1 5 := ⟨by decide +kernel, rfl⟩
theorem qX11_oddsUnderWater_5 : Dq cX11_oddsUnderWater 5 (.bipush 48) 2 7 := ⟨by decide +kernel, rfl⟩
theorem qX11_oddsUnderWater_7 : Dq cX11_oddsUnderWater 7 (.if_icmp .ge 40) 3 10 := ⟨by decide +kernel, rfl⟩
theorem qX11_oddsUnderWater_10 : Dq cX11_oddsUnderWater 10 (.aload_n 0) 1 11 := ⟨by decide +kernel, rfl⟩
theorem qX11_oddsUnderWater_11 : Dq cX11_oddsUnderWater 11 (.getfield 10) 3 14 := ⟨by decide +kernel, rfl⟩
theorem qX11_oddsUnderWater_14 : Dq cX11_oddsUnderWater 14 (.iload_n 3) 1 15 := ⟨by decide +kernel, rfl⟩
theorem qX11_oddsUnderWater_15 : Dq cX11_oddsUnderWater 15 (.invokevirtual 118) 3 18 := ⟨by decide +kernel, rfl⟩
theorem qX11_oddsUnderWater_18 : Dq cX11_oddsUnderWater 18 (.ifCond .le 23) 3 21 := ⟨by decide +kernel, rfl⟩
theorem qX11_oddsUnderWater_21 : Dq cX11_oddsUnderWater 21 (.aload_n 0) 1 22 := ⟨by decide +kernel, rfl⟩
theorem qX11_oddsUnderWater_22 : Dq cX11_oddsUnderWater 22 (.iload_n 3) 1 23 := ⟨by decide +kernel, rfl⟩
theorem qX11_oddsUnderWater_23 : Dq cX11_oddsUnderWater 23 (.iload_n 1) 1 24 := ⟨by decide +kernel, rfl⟩
theorem qX11_oddsUnderWater_24 : Dq cX11_oddsUnderWater 24 (.invokevirtual 224) 3 27 := ⟨by decide +kernel, rfl⟩
theorem qX11_oddsUnderWater_27 : Dq cX11_oddsUnderWater 27 (.ifCond .eq 14) 3 30 := ⟨by decide +kernel, rfl⟩
theorem qX11_oddsUnderWater_30 : Dq cX11_oddsUnderWater 30 (.iload_n 2) 1 31 := ⟨by decide +kernel, rfl⟩
theorem qX11_oddsUnderWater_31 : Dq cX11_oddsUnderWater 31 (.aload_n 0) 1 32 := ⟨by decide +kernel, rfl⟩
theorem qX11_oddsUnderWater_32 : Dq cX11_oddsUnderWater 32 (.getfield 10) 3 35 := ⟨by decide +kernel, rfl⟩
theorem qX11_oddsUnderWater_35 : Dq cX11_oddsUnderWater 35 (.iload_n 3) 1 36 := ⟨by decide +kernel, rfl⟩
theorem qX11_oddsUnderWater_36 : Dq cX11_oddsUnderWater 36 (.invokevirtual 118) 3 39 := ⟨by decide +kernel, rfl⟩
theorem qX11_oddsUnderWater_39 : Dq cX11_oddsUnderWater 39 (.iadd) 1 40 := ⟨by decide +kernel, rfl⟩
theorem qX11_oddsUnderWater_40 : Dq cX11_oddsUnderWater 40 (.istore_n 2) 1 41 := ⟨by decide +kernel, rfl⟩
theorem qX11_oddsUnderWater_41 : Dq cX11_oddsUnderWater 41 (.iinc 3 1) 3 44 := ⟨by decide +kernel, rfl⟩
theorem qX11_oddsUnderWater_44 : Dq cX11_oddsUnderWater 44 (.goto (-40)) 3 47 := ⟨by decide +kernel, rfl⟩
theorem qX11_oddsUnderWater_47 : Dq cX11_oddsUnderWater 47 (.iload_n 2) 1 48 := ⟨by decide +kernel, rfl⟩
theorem qX11_oddsUnderWater_48 : Dq cX11_oddsUnderWater 48 (.ireturn) 1 49 := ⟨by decide +kernel, rfl⟩
set_option maxRecDepth 100000 in
set_option maxHeartbeats 4000000 in
theorem c_oddsUnderWater {G : Glb} {h : AHp} (hs : ShC h) {cnt : Nat} {TV : Nat → Nat → (Nat → Int32) → Int32} (hru : RuOK h cnt TV) (hbe : BeOK (bv h 1) cnt) (hr : Int32) : CP G m_X11_oddsUnderWater 6 0 0 [.ref 0, .int hr] h (fun r h' => r = some (.int (duS TV (bv h 1) hr 48)) ∧ ∃ σ, h' = (σ, h.2) ∧ FrW h σ) := by
  suffices key : ∀ P : Option Value → AHp → Prop, (∀ r h', (r = some (.int (duS TV (bv h 1) hr 48)) ∧ ∃ σ, h' = (σ, h.2) ∧ FrW h σ) → P r h') → CP G m_X11_oddsUnderWater 6 0 0 [.ref 0, .int hr] h P from key _ (fun _ _ z => z)
  intro P hP
  refine CP.of (by decide +kernel) (Nat.le_of_ble_eq_true rfl) fun X hX hR hnm => ?_
  show V X G 4 0 0 _ 0 [some (.ref 0), some (.int hr), none, none] [] h
  refine v_iconst hX li_0 qX11_oddsUnderWater_0 ?_
  refine v_istore_n hX (Nat.le_of_ble_eq_true rfl) rfl (ls' := [some _, some _, some _, none]) rfl qX11_oddsUnderWater_1 ?_
  refine v_iconst hX li_0 qX11_oddsUnderWater_2 ?_
  refine v_istore_n hX (Nat.le_of_ble_eq_true rfl) rfl (ls' := [some _, some _, some _, some _]) rfl qX11_oddsUnderWater_3 ?_
  have L4 : ∀ (mz : Nat) (q : Nat) (σ : Nat → Nat → Int32), 48 - q = mz → (q ≤ 48) → (FrW h σ) → V X G 4 0 0 (QM X G P 0 0) 4 [some (.ref 0), some (.int hr), some (.int (duS TV (bv h 1) hr q)), some (.int (nI q))] [] (σ, h.2) := by
    intro mz
    induction mz using Nat.strongRecOn with
    | _ mz ih =>
    intro q σ hm hi hf
    have hbv : bv (σ, h.2) 1 = bv h 1 := hf.bv
    have hru2 : RuOK (σ, h.2) cnt TV := hru.frW hf
    have hbe2 : BeOK (bv (σ, h.2) 1) cnt := by rw [hbv]; exact hbe
    refine v_iload_n hX rfl qX11_oddsUnderWater_4 ?_
    refine v_bipush hX lb_48 qX11_oddsUnderWater_5 ?_
    refine v_icmp_geS hX 47 qX11_oddsUnderWater_7 rfl (fun q7 => ?_) (fun q7 => ?_)
    · have e1 := geN (N := 48) rfl hi q7; subst e1
      refine v_iload_n hX rfl qX11_oddsUnderWater_47 ?_
      refine v_ireturn hX qX11_oddsUnderWater_48 (hP _ _ ?_)
      exact ⟨rfl, σ, rfl, hf⟩
    · have hl := ltN (N := 48) rfl hi q7
      refine v_aload_n hX rfl qX11_oddsUnderWater_10 ?_
      refine v_getR hX g_X11_10 (hs.kd 0 rfl) (hs.rf 0 rfl) qX11_oddsUnderWater_11 ?_
      refine v_iload_n hX rfl qX11_oddsUnderWater_14 ?_
      refine v_callVq hX hR k_X11_118 (hs.kd 1 rfl) (c_oddsAt (by exact hs) (by exact (Or.inl rfl)) _) rfl (Nat.le_of_ble_eq_true rfl) rfl (Nat.le_of_ble_eq_true rfl) ⟨Nat.le_of_ble_eq_true rfl, Nat.le_of_ble_eq_true rfl⟩ qX11_oddsUnderWater_15 ?_
      rintro _ _ ⟨rfl, rfl⟩
      refine v_eqI (show _ = bv h 1 1 q by rw [oddsA_n hl, hbv]) ?_
      refine v_if_leS hX 41 qX11_oddsUnderWater_18 rfl (fun q18 => ?_) (fun q18 => ?_)
      · skip
        refine v_iinc hX rfl (by first | exact ii_nI _ | exact ii_1 _) (Nat.le_of_ble_eq_true rfl) rfl (ls' := [some _, some _, some _, some _]) rfl qX11_oddsUnderWater_41 ?_
        refine v_goto hX 4 qX11_oddsUnderWater_44 rfl ?_
        first | (have e1 : duS TV (bv h 1) hr (q + 1) = duS TV (bv h 1) hr q + bv h 1 1 q := if_pos ⟨q18, q27⟩; have z := ih _ (by omega) (q + 1) σ2 rfl (by omega) (hf.tr hf2); rw [e1] at z; exact z) | (have e1 : duS TV (bv h 1) hr (q + 1) = duS TV (bv h 1) hr q := if_neg (fun z => by first | exact q27 z.2 | exact absurd z.1 (Int32.not_lt.mpr q18)); first | (have z := ih _ (by omega) (q + 1) σ2 rfl (by omega) (hf.tr hf2); rw [e1] at z; exact z) | (have z := ih _ (by omega) (q + 1) σ rfl (by omega) hf; rw [e1] at z; exact z))
      · skip
        refine v_aload_n hX rfl qX11_oddsUnderWater_21 ?_
        refine v_iload_n hX rfl qX11_oddsUnderWater_22 ?_
        refine v_iload_n hX rfl qX11_oddsUnderWater_23 ?_
        refine v_callVq hX hR k_X11_224 (hs.kd 0 rfl) (c_isWetAt (by exact hs) (by exact hru2) (by exact hbe2) (by exact hl) _) rfl (Nat.le_of_ble_eq_true rfl) rfl (Nat.le_of_ble_eq_true rfl) ⟨Nat.le_of_ble_eq_true rfl, Nat.le_of_ble_eq_true rfl⟩ qX11_oddsUnderWater_24 ?_
        rintro _ _ ⟨rfl, σ2, rfl, hf2⟩
        rw [hbv]
        first | refine v_if_eqB hX 41 qX11_oddsUnderWater_27 rfl (fun q27 => ?_) (fun q27 => ?_) | refine v_if_eq hX 41 qX11_oddsUnderWater_27 rfl (fun q27 => ?_) (fun q27 => ?_)
        · skip
          refine v_iinc hX rfl (by first | exact ii_nI _ | exact ii_1 _) (Nat.le_of_ble_eq_true rfl) rfl (ls' := [some _, some _, some _, some _]) rfl qX11_oddsUnderWater_41 ?_
          refine v_goto hX 4 qX11_oddsUnderWater_44 rfl ?_
          first | (have e1 : duS TV (bv h 1) hr (q + 1) = duS TV (bv h 1) hr q + bv h 1 1 q := if_pos ⟨q18, q27⟩; have z := ih _ (by omega) (q + 1) σ2 rfl (by omega) (hf.tr hf2); rw [e1] at z; exact z) | (have e1 : duS TV (bv h 1) hr (q + 1) = duS TV (bv h 1) hr q := if_neg (fun z => by first | exact q27 z.2 | exact absurd z.1 (Int32.not_lt.mpr q18)); first | (have z := ih _ (by omega) (q + 1) σ2 rfl (by omega) (hf.tr hf2); rw [e1] at z; exact z) | (have z := ih _ (by omega) (q + 1) σ rfl (by omega) hf; rw [e1] at z; exact z))
        · skip
          refine v_iload_n hX rfl qX11_oddsUnderWater_30 ?_
          refine v_aload_n hX rfl qX11_oddsUnderWater_31 ?_
          refine v_getR hX g_X11_10 (hs.kd 0 rfl) (hs.rf 0 rfl) qX11_oddsUnderWater_32 ?_
          refine v_iload_n hX rfl qX11_oddsUnderWater_35 ?_
          refine v_callVq hX hR k_X11_118 (hs.kd 1 rfl) (c_oddsAt (by exact hs) (by exact (Or.inl rfl)) _) rfl (Nat.le_of_ble_eq_true rfl) rfl (Nat.le_of_ble_eq_true rfl) ⟨Nat.le_of_ble_eq_true rfl, Nat.le_of_ble_eq_true rfl⟩ qX11_oddsUnderWater_36 ?_
          rintro _ _ ⟨rfl, rfl⟩
          refine v_eqI (show _ = bv h 1 1 q by rw [oddsA_n hl, hf2.bv, hbv]) ?_
          refine v_iadd hX qX11_oddsUnderWater_39 ?_
          refine v_istore_n hX (Nat.le_of_ble_eq_true rfl) rfl (ls' := [some _, some _, some _, some _]) rfl qX11_oddsUnderWater_40 ?_
          refine v_iinc hX rfl (by first | exact ii_nI _ | exact ii_1 _) (Nat.le_of_ble_eq_true rfl) rfl (ls' := [some _, some _, some _, some _]) rfl qX11_oddsUnderWater_41 ?_
          refine v_goto hX 4 qX11_oddsUnderWater_44 rfl ?_
          first | (have e1 : duS TV (bv h 1) hr (q + 1) = duS TV (bv h 1) hr q + bv h 1 1 q := if_pos ⟨q18, q27⟩; have z := ih _ (by omega) (q + 1) σ2 rfl (by omega) (hf.tr hf2); rw [e1] at z; exact z) | (have e1 : duS TV (bv h 1) hr (q + 1) = duS TV (bv h 1) hr q := if_neg (fun z => by first | exact q27 z.2 | exact absurd z.1 (Int32.not_lt.mpr q18)); first | (have z := ih _ (by omega) (q + 1) σ2 rfl (by omega) (hf.tr hf2); rw [e1] at z; exact z) | (have z := ih _ (by omega) (q + 1) σ rfl (by omega) hf; rw [e1] at z; exact z))
  exact L4 _ 0 h.1 rfl (by omega) (fun a k _ _ _ => rfl)
theorem qX11_hourOfMostDrowned_0 : Dq cX11_hourOfMostDrowned 0 (.aload_n 0) 1 1 := ⟨by decide +kernel, rfl⟩
theorem qX11_hourOfMostDrowned_1 : Dq cX11_hourOfMostDrowned 1 (.getfield 10) 3 4 := ⟨by decide +kernel, rfl⟩
theorem qX11_hourOfMostDrowned_4 : Dq cX11_hourOfMostDrowned 4 (.getfield 221) 3 7 := ⟨by decide +kernel, rfl⟩
theorem qX11_hourOfMostDrowned_7 : Dq cX11_hourOfMostDrowned 7 (.istore_n 1) 1 8 := ⟨by decide +kernel, rfl⟩
theorem qX11_hourOfMostDrowned_8 : Dq cX11_hourOfMostDrowned 8 (.aload_n 0) 1 9 := ⟨by decide +kernel, rfl⟩
theorem qX11_hourOfMostDrowned_9 : Dq cX11_hourOfMostDrowned 9 (.aload_n 0) 1 10 := ⟨by decide +kernel, rfl⟩
theorem qX11_hourOfMostDrowned_10 : Dq cX11_hourOfMostDrowned 10 (.getfield 10) 3 13 := ⟨by decide +kernel, rfl⟩
theorem qX11_hourOfMostDrowned_13 : Dq cX11_hourOfMostDrowned 13 (.getfield 221) 3 16 := ⟨by decide +kernel, rfl⟩
theorem qX11_hourOfMostDrowned_16 : Dq cX11_hourOfMostDrowned 16 (.invokevirtual 228) 3 19 := ⟨by decide +kernel, rfl⟩
theorem qX11_hourOfMostDrowned_19 : Dq cX11_hourOfMostDrowned 19 (.istore_n 2) 1 20 := ⟨by decide +kernel, rfl⟩
theorem qX11_hourOfMostDrowned_20 : Dq cX11_hourOfMostDrowned 20 (.aload_n 0) 1 21 := ⟨by decide +kernel, rfl⟩
theorem qX11_hourOfMostDrowned_21 : Dq cX11_hourOfMostDrowned 21 (.getfield 10) 3 24 := ⟨by decide +kernel, rfl⟩
theorem qX11_hourOfMostDrowned_24 : Dq cX11_hourOfMostDrowned 24 (.getfield 221) 3 27 := ⟨by decide +kernel, rfl⟩
theorem qX11_hourOfMostDrowned_27 : Dq cX11_hourOfMostDrowned 27 (.iconst 1) 1 28 := ⟨by decide +kernel, rfl⟩
theorem qX11_hourOfMostDrowned_28 : Dq cX11_hourOfMostDrowned 28 (.iadd) 1 29 := ⟨by decide +kernel, rfl⟩
theorem qX11_hourOfMostDrowned_29 : Dq cX11_hourOfMostDrowned 29 (.istore_n 3) 1 30 := ⟨by decide +kernel, rfl⟩
theorem qX11_hourOfMostDrowned_30 : Dq cX11_hourOfMostDrowned 30 (.iload_n 3) 1 31 := ⟨by decide +kernel, rfl⟩
theorem qX11_hourOfMostDrowned_31 : Dq cX11_hourOfMostDrowned 31 (.bipush 24) 2 33 := ⟨by decide +kernel, rfl⟩
theorem qX11_hourOfMostDrowned_33 : Dq cX11_hourOfMostDrowned 33 (.if_icmp .ge 27) 3 36 := ⟨by decide +kernel, rfl⟩
theorem qX11_hourOfMostDrowned_36 : Dq cX11_hourOfMostDrowned 36 (.aload_n 0) 1 37 := ⟨by decide +kernel, rfl⟩
theorem qX11_hourOfMostDrowned_37 : Dq cX11_hourOfMostDrowned 37 (.iload_n 3) 1 38 := ⟨by decide +kernel, rfl⟩
theorem qX11_hourOfMostDrowned_38 : Dq cX11_hourOfMostDrowned 38 (.invokevirtual 228) 3 41 := ⟨by decide +kernel, rfl⟩
theorem qX11_hourOfMostDrowned_41 : Dq cX11_hourOfMostDrowned 41 (.istore 4) 2 43 := ⟨by decide +kernel, rfl⟩
theorem qX11_hourOfMostDrowned_43 : Dq cX11_hourOfMostDrowned 43 (.iload 4) 2 45 := ⟨by decide +kernel, rfl⟩
theorem qX11_hourOfMostDrowned_45 : Dq cX11_hourOfMostDrowned 45 (.iload_n 2) 1 46 := ⟨by decide +kernel, rfl⟩
theorem qX11_hourOfMostDrowned_46 : Dq cX11_hourOfMostDrowned 46 (.if_icmp .le 8) 3 49 := ⟨by decide +kernel, rfl⟩
theorem qX11_hourOfMostDrowned_49 : Dq cX11_hourOfMostDrowned 49 (.iload_n 3) 1 50 := ⟨by decide +kernel, rfl⟩
theorem qX11_hourOfMostDrowned_50 : Dq cX11_hourOfMostDrowned 50 (.istore_n 1) 1 51 := ⟨by decide +kernel, rfl⟩
theorem qX11_hourOfMostDrowned_51 : Dq cX11_hourOfMostDrowned 51 (.iload 4) 2 53 := ⟨by decide +kernel, rfl⟩
theorem qX11_hourOfMostDrowned_53 : Dq cX11_hourOfMostDrowned 53 (.istore_n 2) 1 54 := ⟨by decide +kernel, rfl⟩
theorem qX11_hourOfMostDrowned_54 : Dq cX11_hourOfMostDrowned 54 (.iinc 3 1) 3 57 := ⟨by decide +kernel, rfl⟩
theorem qX11_hourOfMostDrowned_57 : Dq cX11_hourOfMostDrowned 57 (.goto (-27)) 3 60 := ⟨by decide +kernel, rfl⟩
theorem qX11_hourOfMostDrowned_60 : Dq cX11_hourOfMostDrowned 60 (.iload_n 1) 1 61 := ⟨by decide +kernel, rfl⟩
theorem qX11_hourOfMostDrowned_61 : Dq cX11_hourOfMostDrowned 61 (.ireturn) 1 62 := ⟨by decide +kernel, rfl⟩
set_option maxRecDepth 100000 in
set_option maxHeartbeats 4000000 in
theorem c_hourOfMostDrowned {G : Glb} {h : AHp} (hs : ShC h) {cnt : Nat} {TV : Nat → Nat → (Nat → Int32) → Int32} (hru : RuOK h cnt TV) (hbe : BeOK (bv h 1) cnt)  : CP G m_X11_hourOfMostDrowned 7 0 0 [.ref 0] h (fun r h' => r = some (.int (mdS (fun z => duS TV (bv h 1) (nI z) 48) (tn (bv h 1 0 3)) (23 - tn (bv h 1 0 3))).1) ∧ ∃ σ, h' = (σ, h.2) ∧ FrW h σ) := by
  suffices key : ∀ P : Option Value → AHp → Prop, (∀ r h', (r = some (.int (mdS (fun z => duS TV (bv h 1) (nI z) 48) (tn (bv h 1 0 3)) (23 - tn (bv h 1 0 3))).1) ∧ ∃ σ, h' = (σ, h.2) ∧ FrW h σ) → P r h') → CP G m_X11_hourOfMostDrowned 7 0 0 [.ref 0] h P from key _ (fun _ _ z => z)
  intro P hP
  refine CP.of (by decide +kernel) (Nat.le_of_ble_eq_true rfl) fun X hX hR hnm => ?_
  show V X G 5 0 0 _ 0 [some (.ref 0), none, none, none, none] [] h
  obtain ⟨h0, hh0, eh0⟩ := hbe.2.2.2.1.ex (by omega)
  have eh1 : hpI h 1 3 = nI h0 := (bv0 (by omega) (by omega)).symm.trans eh0
  rw [eh0, tn_nI (by omega)] at hP
  refine v_aload_n hX rfl qX11_hourOfMostDrowned_0 ?_
  refine v_getR hX g_X11_10 (hs.kd 0 rfl) (hs.rf 0 rfl) qX11_hourOfMostDrowned_1 ?_
  refine v_getIv hX g_X11_221 (Or.inl rfl) (hs.kd 1 rfl) eh1 qX11_hourOfMostDrowned_4 ?_
  refine v_istore_n hX (Nat.le_of_ble_eq_true rfl) rfl (ls' := [some _, some _, none, none, none]) rfl qX11_hourOfMostDrowned_7 ?_
  refine v_aload_n hX rfl qX11_hourOfMostDrowned_8 ?_
  refine v_aload_n hX rfl qX11_hourOfMostDrowned_9 ?_
  refine v_getR hX g_X11_10 (hs.kd 0 rfl) (hs.rf 0 rfl) qX11_hourOfMostDrowned_10 ?_
  refine v_getIv hX g_X11_221 (Or.inl rfl) (hs.kd 1 rfl) eh1 qX11_hourOfMostDrowned_13 ?_
  refine v_callVq hX hR k_X11_228 (hs.kd 0 rfl) (c_oddsUnderWater (by exact hs) (by exact hru) (by exact hbe) _) rfl (Nat.le_of_ble_eq_true rfl) rfl (Nat.le_of_ble_eq_true rfl) ⟨Nat.le_of_ble_eq_true rfl, Nat.le_of_ble_eq_true rfl⟩ qX11_hourOfMostDrowned_16 ?_
  rintro _ _ ⟨rfl, σ0, rfl, hf0⟩
  refine v_istore_n hX (Nat.le_of_ble_eq_true rfl) rfl (ls' := [some _, some _, some _, none, none]) rfl qX11_hourOfMostDrowned_19 ?_
  refine v_aload_n hX rfl qX11_hourOfMostDrowned_20 ?_
  refine v_getR hX g_X11_10 (hs.kd 0 rfl) (hs.rf 0 rfl) qX11_hourOfMostDrowned_21 ?_
  refine v_getIv hX g_X11_221 (Or.inl rfl) (hs.kd 1 rfl) ((hf0 1 3 (by omega) (by omega) (by omega)).trans eh1) qX11_hourOfMostDrowned_24 ?_
  refine v_iconst hX li_1 qX11_hourOfMostDrowned_27 ?_
  refine v_iadd hX qX11_hourOfMostDrowned_28 ?_
  refine v_eqI (nI_1 h0) ?_
  refine v_istore_n hX (Nat.le_of_ble_eq_true rfl) rfl (ls' := [some _, some _, some _, some _, none]) rfl qX11_hourOfMostDrowned_29 ?_
  have L30 : ∀ (mz : Nat) (j : Nat) (σ : Nat → Nat → Int32), 23 - h0 - j = mz → (j ≤ 23 - h0) → (FrW h σ) → V X G 5 0 0 (QM X G P 0 0) 30 [some (.ref 0), some (.int (mdS (fun z => duS TV (bv h 1) (nI z) 48) h0 j).1), some (.int (mdS (fun z => duS TV (bv h 1) (nI z) 48) h0 j).2), some (.int (nI (h0 + j + 1))), none] [] (σ, h.2) := by
    intro mz
    induction mz using Nat.strongRecOn with
    | _ mz ih =>
    intro j σ hm hi hf
    have hbv : bv (σ, h.2) 1 = bv h 1 := hf.bv
    have hru2 : RuOK (σ, h.2) cnt TV := hru.frW hf
    have hbe2 : BeOK (bv (σ, h.2) 1) cnt := by rw [hbv]; exact hbe
    refine v_iload_n hX rfl qX11_hourOfMostDrowned_30 ?_
    refine v_bipush hX lb_24 qX11_hourOfMostDrowned_31 ?_
    refine v_icmp_geS hX 60 qX11_hourOfMostDrowned_33 rfl (fun q33 => ?_) (fun q33 => ?_)
    · have e1 : j = 23 - h0 := by have := nI_le' (i := 24) (by omega) (by omega) q33; omega
      subst e1
      refine v_iload_n hX rfl qX11_hourOfMostDrowned_60 ?_
      refine v_ireturn hX qX11_hourOfMostDrowned_61 (hP _ _ ?_)
      exact ⟨rfl, σ, rfl, hf⟩
    · have hl := nI_lt' (s := 24) (by omega) (by omega) q33
      refine v_aload_n hX rfl qX11_hourOfMostDrowned_36 ?_
      refine v_iload_n hX rfl qX11_hourOfMostDrowned_37 ?_
      refine v_callVq hX hR k_X11_228 (hs.kd 0 rfl) (c_oddsUnderWater (by exact hs) (by exact hru2) (by exact hbe2) _) rfl (Nat.le_of_ble_eq_true rfl) rfl (Nat.le_of_ble_eq_true rfl) ⟨Nat.le_of_ble_eq_true rfl, Nat.le_of_ble_eq_true rfl⟩ qX11_hourOfMostDrowned_38 ?_
      rintro _ _ ⟨rfl, σ2, rfl, hf2⟩
      rw [hbv]
      refine v_istore hX (Nat.le_of_ble_eq_true rfl) rfl (ls' := [some _, some _, some _, some _, some _]) rfl qX11_hourOfMostDrowned_41 ?_
      refine v_iload hX rfl qX11_hourOfMostDrowned_43 ?_
      refine v_iload_n hX rfl qX11_hourOfMostDrowned_45 ?_
      refine v_icmp_leS hX 54 qX11_hourOfMostDrowned_46 rfl (fun q46 => ?_) (fun q46 => ?_)
      · skip
        refine v_iinc hX rfl (ii_nI (h0 + j + 1)) (Nat.le_of_ble_eq_true rfl) rfl (ls' := [some _, some _, some _, some _, some _]) rfl qX11_hourOfMostDrowned_54 ?_
        refine v_goto hX 30 qX11_hourOfMostDrowned_57 rfl ?_
        refine v_forget (ls' := [_, _, _, _, none]) ⟨Or.inr rfl, Or.inr rfl, Or.inr rfl, Or.inr rfl, Or.inl rfl, trivial⟩ ?_
        first | (have e1 : mdS (fun z => duS TV (bv h 1) (nI z) 48) h0 (j + 1) = (nI (h0 + j + 1), (fun z => duS TV (bv h 1) (nI z) 48) (h0 + j + 1)) := if_pos q46; have z := ih _ (by omega) (j + 1) σ2 rfl (by omega) (hf.tr hf2); rw [e1] at z; exact z) | (have e1 : mdS (fun z => duS TV (bv h 1) (nI z) 48) h0 (j + 1) = mdS (fun z => duS TV (bv h 1) (nI z) 48) h0 j := if_neg (Int32.not_lt.mpr q46); have z := ih _ (by omega) (j + 1) σ2 rfl (by omega) (hf.tr hf2); rw [e1] at z; exact z)
      · skip
        refine v_iload_n hX rfl qX11_hourOfMostDrowned_49 ?_
        refine v_istore_n hX (Nat.le_of_ble_eq_true rfl) rfl (ls' := [some _, some _, some _, some _, some _]) rfl qX11_hourOfMostDrowned_50 ?_
        refine v_iload hX rfl qX11_hourOfMostDrowned_51 ?_
        refine v_istore_n hX (Nat.le_of_ble_eq_true rfl) rfl (ls' := [some _, some _, some _, some _, some _]) rfl qX11_hourOfMostDrowned_53 ?_
        refine v_iinc hX rfl (ii_nI (h0 + j + 1)) (Nat.le_of_ble_eq_true rfl) rfl (ls' := [some _, some _, some _, some _, some _]) rfl qX11_hourOfMostDrowned_54 ?_
        refine v_goto hX 30 qX11_hourOfMostDrowned_57 rfl ?_
        refine v_forget (ls' := [_, _, _, _, none]) ⟨Or.inr rfl, Or.inr rfl, Or.inr rfl, Or.inr rfl, Or.inl rfl, trivial⟩ ?_
        first | (have e1 : mdS (fun z => duS TV (bv h 1) (nI z) 48) h0 (j + 1) = (nI (h0 + j + 1), (fun z => duS TV (bv h 1) (nI z) 48) (h0 + j + 1)) := if_pos q46; have z := ih _ (by omega) (j + 1) σ2 rfl (by omega) (hf.tr hf2); rw [e1] at z; exact z) | (have e1 : mdS (fun z => duS TV (bv h 1) (nI z) 48) h0 (j + 1) = mdS (fun z => duS TV (bv h 1) (nI z) 48) h0 j := if_neg (Int32.not_lt.mpr q46); have z := ih _ (by omega) (j + 1) σ2 rfl (by omega) (hf.tr hf2); rw [e1] at z; exact z)
  exact L30 _ 0 σ0 rfl (by omega) hf0
theorem qX11_tellsCellsAlone_0 : Dq cX11_tellsCellsAlone 0 (.iconst 0) 1 1 := ⟨by decide +kernel, rfl⟩
theorem qX11_tellsCellsAlone_1 : Dq cX11_tellsCellsAlone 1 (.istore_n 1) 1 2 := ⟨by decide +kernel, rfl⟩
theorem qX11_tellsCellsAlone_2 : Dq cX11_tellsCellsAlone 2 (.iload_n 1) 1 3 := ⟨by decide +kernel, rfl⟩
theorem qX11_tellsCellsAlone_3 : Dq cX11_tellsCellsAlone 3 (.aload_n 0) 1 4 := ⟨by decide +kernel, rfl⟩
theorem qX11_tellsCellsAlone_4 : Dq cX11_tellsCellsAlone 4 (.getfield 245) 3 7 := ⟨by decide +kernel, rfl⟩
theorem qX11_tellsCellsAlone_7 : Dq cX11_tellsCellsAlone 7 (.if_icmp .ge 22) 3 10 := ⟨by decide +kernel, rfl⟩
theorem qX11_tellsCellsAlone_10 : Dq cX11_tellsCellsAlone 10 (.aload_n 0) 1 11 := ⟨by decide +kernel, rfl⟩
theorem qX11_tellsCellsAlone_11 : Dq cX11_tellsCellsAlone 11 (.iload_n 1) 1 12 := ⟨by decide +kernel, rfl⟩
theorem qX11_tellsCellsAlone_12 : Dq cX11_tellsCellsAlone 12 (.invokevirtual 246) 3 15 := ⟨by decide +kernel, rfl⟩
theorem qX11_tellsCellsAlone_15 : Dq cX11_tellsCellsAlone 15 (.invokestatic 107) 3 18 := ⟨by decide +kernel, rfl⟩
theorem qX11_tellsCellsAlone_18 : Dq cX11_tellsCellsAlone 18 (.ifCond .ne 5) 3 21 := ⟨by decide +kernel, rfl⟩
theorem qX11_tellsCellsAlone_21 : Dq cX11_tellsCellsAlone 21 (.iconst 0) 1 22 := ⟨by decide +kernel, rfl⟩
theorem qX11_tellsCellsAlone_22 : Dq cX11_tellsCellsAlone 22 (.ireturn) 1 23 := ⟨by decide +kernel, rfl⟩
theorem qX11_tellsCellsAlone_23 : Dq cX11_tellsCellsAlone 23 (.iinc 1 1) 3 26 := ⟨by decide +kernel, rfl⟩
theorem qX11_tellsCellsAlone_26 : Dq cX11_tellsCellsAlone 26 (.goto (-24)) 3 29 := ⟨by decide +kernel, rfl⟩
theorem qX11_tellsCellsAlone_29 : Dq cX11_tellsCellsAlone 29 (.iconst 1) 1 30 := ⟨by decide +kernel, rfl⟩
theorem qX11_tellsCellsAlone_30 : Dq cX11_tellsCellsAlone 30 (.ireturn) 1 31 := ⟨by decide +kernel, rfl⟩
set_option maxRecDepth 100000 in
set_option maxHeartbeats 4000000 in
theorem c_tellsCellsAlone {G : Glb} {h : AHp} (hs : ShC h) {S : Nat} (hS : isS S) {s : Nat} (hz : hpI h S 2 = nI s) (hs40 : s ≤ 40)  : CP G m_X11_tellsCellsAlone 4 0 0 [.ref S] h (fun r h' => r = some (.int (bz (anyB (fun i => !decide (isC (hpI h (S + 1) i))) s = false))) ∧ h = h') := by
  suffices key : ∀ P : Option Value → AHp → Prop, (∀ r h', (r = some (.int (bz (anyB (fun i => !decide (isC (hpI h (S + 1) i))) s = false))) ∧ h = h') → P r h') → CP G m_X11_tellsCellsAlone 4 0 0 [.ref S] h P from key _ (fun _ _ z => z)
  intro P hP
  refine CP.of (by decide +kernel) (Nat.le_of_ble_eq_true rfl) fun X hX hR hnm => ?_
  show V X G 2 0 0 _ 0 [some (.ref S), none] [] h
  refine v_iconst hX li_0 qX11_tellsCellsAlone_0 ?_
  refine v_istore_n hX (Nat.le_of_ble_eq_true rfl) rfl (ls' := [some _, some _]) rfl qX11_tellsCellsAlone_1 ?_
  have L2 : ∀ (mz : Nat) (i : Nat), s - i = mz → (i ≤ s) → (∀ j, j < i → isC (hpI h (S + 1) j)) → V X G 2 0 0 (QM X G P 0 0) 2 [some (.ref S), some (.int (nI i))] [] h := by
    intro mz
    induction mz using Nat.strongRecOn with
    | _ mz ih =>
    intro i hm hi hq
    refine v_iload_n hX rfl qX11_tellsCellsAlone_2 ?_
    refine v_aload_n hX rfl qX11_tellsCellsAlone_3 ?_
    refine v_getIv hX g_X11_245 (Or.inl rfl) (hs.sk hS) hz qX11_tellsCellsAlone_4 ?_
    refine v_icmp_geS hX 29 qX11_tellsCellsAlone_7 rfl (fun q7 => ?_) (fun q7 => ?_)
    · have e : i = s := Nat.le_antisymm hi (nI_le' (by omega) (by omega) q7); subst e
      refine v_iconst hX li_1 qX11_tellsCellsAlone_29 ?_
      refine v_zreturn hX (by first | exact Or.inl rfl | exact Or.inr rfl | exact bz01 _) qX11_tellsCellsAlone_30 (hP _ _ ?_)
      exact ⟨rz (bz_t (anyB_f (fun k hk => by simp [hq k hk]))), rfl⟩
    · have hl := nI_lt' (by omega) (by omega) q7
      refine v_aload_n hX rfl qX11_tellsCellsAlone_10 ?_
      refine v_iload_n hX rfl qX11_tellsCellsAlone_11 ?_
      refine v_callVq hX hR k_X11_246 (hs.sk hS) (c_itemAt (by exact hs) (by exact hS) (by exact hz) (by exact hs40) _) rfl (Nat.le_of_ble_eq_true rfl) rfl (Nat.le_of_ble_eq_true rfl) ⟨Nat.le_of_ble_eq_true rfl, Nat.le_of_ble_eq_true rfl⟩ qX11_tellsCellsAlone_12 ?_
      rintro _ _ ⟨rfl, rfl⟩
      refine v_eqI (show _ = hpI h (S + 1) i by rw [if_pos ⟨nI_pos' (by omega), nI_lt hl (by omega)⟩, tn_nI (by omega)]) ?_
      refine v_callSq hX hR k_X11_107 (c_isCell _) rfl (Nat.le_of_ble_eq_true rfl) rfl (Nat.le_of_ble_eq_true rfl) ⟨Nat.le_of_ble_eq_true rfl, Nat.le_of_ble_eq_true rfl⟩ qX11_tellsCellsAlone_15 ?_
      rintro _ _ ⟨rfl, rfl⟩
      first | refine v_if_neB hX 23 qX11_tellsCellsAlone_18 rfl (fun q18 => ?_) (fun q18 => ?_) | refine v_if_ne hX 23 qX11_tellsCellsAlone_18 rfl (fun q18 => ?_) (fun q18 => ?_)
      · skip
        refine v_iinc hX rfl (by first | exact ii_nI _ | exact ii_1 _) (Nat.le_of_ble_eq_true rfl) rfl (ls' := [some _, some _]) rfl qX11_tellsCellsAlone_23 ?_
        refine v_goto hX 2 qX11_tellsCellsAlone_26 rfl ?_
        exact ih _ (by omega) (i + 1) rfl (by omega) (fun j hj => by rcases Nat.lt_succ_iff_lt_or_eq.mp hj with z | rfl; exact hq j z; exact q18)
      · skip
        refine v_iconst hX li_0 qX11_tellsCellsAlone_21 ?_
        refine v_zreturn hX (by first | exact Or.inl rfl | exact Or.inr rfl | exact bz01 _) qX11_tellsCellsAlone_22 (hP _ _ ?_)
        exact ⟨rz (bz_f (fun z => by rw [anyB_t hl (by simp [q18])] at z; cases z)), rfl⟩
  exact L2 _ 0 rfl (by omega) (fun j hj => absurd hj (Nat.not_lt_zero _))
theorem gcd_half {x y : Nat} (hy : 0 < y) (h : y < x) : 2 * (x % y) ≤ x := by
  have h1 := Nat.div_add_mod x y
  have h2 : x % y < y := Nat.mod_lt _ hy
  have h3 : 1 ≤ x / y := (Nat.one_le_div_iff hy).mpr (Nat.le_of_lt h)
  have h4 : y * 1 ≤ y * (x / y) := Nat.mul_le_mul_left y h3
  omega
theorem gcd_step {x y i : Nat} (h : i = 0 ∧ x < 2 ^ 31 ∧ y < 2 ^ 31 ∨ 0 < i ∧ y < x ∧ x < 2 ^ 31 ∧ x * y * 2 ^ (i - 1) ≤ 2 ^ 62) (hy : 0 < y) : x % y < y ∧ y < 2 ^ 31 ∧ y * (x % y) * 2 ^ i ≤ 2 ^ 62 := by
  have h2 : x % y < y := Nat.mod_lt _ hy
  rcases h with ⟨rfl, hx, hy2⟩ | ⟨hi, hyx, hx, hb⟩
  · refine ⟨h2, hy2, ?_⟩
    have : y * (x % y) ≤ 2 ^ 31 * 2 ^ 31 := Nat.mul_le_mul (Nat.le_of_lt hy2) (by omega)
    omega
  · refine ⟨h2, by omega, ?_⟩
    have h3 := gcd_half hy hyx
    obtain ⟨j, rfl⟩ : ∃ j, i = j + 1 := ⟨i - 1, by omega⟩
    have e : 2 ^ (j + 1) = 2 * 2 ^ j := by rw [Nat.pow_succ]; omega
    rw [Nat.add_sub_cancel] at hb
    rw [e]
    have h4 : y * (x % y) * (2 * 2 ^ j) = (y * (2 * (x % y))) * 2 ^ j := by
      rw [Nat.mul_comm 2 (x % y), ← Nat.mul_assoc, ← Nat.mul_assoc, Nat.mul_assoc (y * (x % y)) 2 (2 ^ j)]
    rw [h4]
    refine Nat.le_trans (Nat.mul_le_mul_right _ ?_) hb
    rw [Nat.mul_comm x y]
    exact Nat.mul_le_mul_left y h3
theorem lN_0 : (0 : Int64) = lN 0 := rfl
theorem qX11_greatestDivisor_0 : Dq cX11_greatestDivisor 0 (.lload_n 0) 1 1 := ⟨by decide +kernel, rfl⟩
theorem qX11_greatestDivisor_1 : Dq cX11_greatestDivisor 1 (.lstore 4) 2 3 := ⟨by decide +kernel, rfl⟩
theorem qX11_greatestDivisor_3 : Dq cX11_greatestDivisor 3 (.lload_n 2) 1 4 := ⟨by decide +kernel, rfl⟩
theorem qX11_greatestDivisor_4 : Dq cX11_greatestDivisor 4 (.lstore 6) 2 6 := ⟨by decide +kernel, rfl⟩
theorem qX11_greatestDivisor_6 : Dq cX11_greatestDivisor 6 (.iconst 0) 1 7 := ⟨by decide +kernel, rfl⟩
theorem qX11_greatestDivisor_7 : Dq cX11_greatestDivisor 7 (.istore 8) 2 9 := ⟨by decide +kernel, rfl⟩
theorem qX11_greatestDivisor_9 : Dq cX11_greatestDivisor 9 (.iload 8) 2 11 := ⟨by decide +kernel, rfl⟩
theorem qX11_greatestDivisor_11 : Dq cX11_greatestDivisor 11 (.sipush 200) 3 14 := ⟨by decide +kernel, rfl⟩
theorem qX11_greatestDivisor_14 : Dq cX11_greatestDivisor 14 (.if_icmp .ge 31) 3 17 := ⟨by decide +kernel, rfl⟩
theorem qX11_greatestDivisor_17 : Dq cX11_greatestDivisor 17 (.lload 6) 2 19 := ⟨by decide +kernel, rfl⟩
theorem qX11_greatestDivisor_19 : Dq cX11_greatestDivisor 19 (.lconst 0) 1 20 := ⟨by decide +kernel, rfl⟩
theorem qX11_greatestDivisor_20 : Dq cX11_greatestDivisor 20 (.lcmp) 1 21 := ⟨by decide +kernel, rfl⟩
theorem qX11_greatestDivisor_21 : Dq cX11_greatestDivisor 21 (.ifCond .eq 24) 3 24 := ⟨by decide +kernel, rfl⟩
theorem qX11_greatestDivisor_24 : Dq cX11_greatestDivisor 24 (.lload 4) 2 26 := ⟨by decide +kernel, rfl⟩
theorem qX11_greatestDivisor_26 : Dq cX11_greatestDivisor 26 (.lload 6) 2 28 := ⟨by decide +kernel, rfl⟩
theorem qX11_greatestDivisor_28 : Dq cX11_greatestDivisor 28 (.lrem) 1 29 := ⟨by decide +kernel, rfl⟩
theorem qX11_greatestDivisor_29 : Dq cX11_greatestDivisor 29 (.lstore 9) 2 31 := ⟨by decide +kernel, rfl⟩
theorem qX11_greatestDivisor_31 : Dq cX11_greatestDivisor 31 (.lload 6) 2 33 := ⟨by decide +kernel, rfl⟩
theorem qX11_greatestDivisor_33 : Dq cX11_greatestDivisor 33 (.lstore 4) 2 35 := ⟨by decide +kernel, rfl⟩
theorem qX11_greatestDivisor_35 : Dq cX11_greatestDivisor 35 (.lload 9) 2 37 := ⟨by decide +kernel, rfl⟩
theorem qX11_greatestDivisor_37 : Dq cX11_greatestDivisor 37 (.lstore 6) 2 39 := ⟨by decide +kernel, rfl⟩
theorem qX11_greatestDivisor_39 : Dq cX11_greatestDivisor 39 (.iinc 8 1) 3 42 := ⟨by decide +kernel, rfl⟩
theorem qX11_greatestDivisor_42 : Dq cX11_greatestDivisor 42 (.goto (-33)) 3 45 := ⟨by decide +kernel, rfl⟩
theorem qX11_greatestDivisor_45 : Dq cX11_greatestDivisor 45 (.lload 4) 2 47 := ⟨by decide +kernel, rfl⟩
theorem qX11_greatestDivisor_47 : Dq cX11_greatestDivisor 47 (.lreturn) 1 48 := ⟨by decide +kernel, rfl⟩
set_option maxRecDepth 100000 in
set_option maxHeartbeats 4000000 in
theorem c_greatestDivisor {G : Glb} {h : AHp} {a b : Nat} (ha : a < 2 ^ 31) (hb : b < 2 ^ 31) : CP G m_X11_greatestDivisor 1 0 0 [.long (lN a), .long (lN b)] h (fun r h' => r = some (.long (lN (Nat.gcd a b))) ∧ h = h') := by
  suffices key : ∀ P : Option Value → AHp → Prop, (∀ r h', (r = some (.long (lN (Nat.gcd a b))) ∧ h = h') → P r h') → CP G m_X11_greatestDivisor 1 0 0 [.long (lN a), .long (lN b)] h P from key _ (fun _ _ z => z)
  intro P hP
  refine CP.of (by decide +kernel) (Nat.le_of_ble_eq_true rfl) fun X hX hR hnm => ?_
  show V X G 11 0 0 _ 0 [some (.long (lN a)), none, some (.long (lN b)), none, none, none, none, none, none, none, none] [] h
  refine v_lload_n hX rfl qX11_greatestDivisor_0 ?_
  refine v_lstore hX (Nat.le_of_ble_eq_true rfl) rfl (ls' := [some _, none, some _, none, some _, none, none, none, none, none, none]) rfl qX11_greatestDivisor_1 ?_
  refine v_lload_n hX rfl qX11_greatestDivisor_3 ?_
  refine v_lstore hX (Nat.le_of_ble_eq_true rfl) rfl (ls' := [some _, none, some _, none, some _, none, some _, none, none, none, none]) rfl qX11_greatestDivisor_4 ?_
  refine v_iconst hX li_0 qX11_greatestDivisor_6 ?_
  refine v_istore hX (Nat.le_of_ble_eq_true rfl) rfl (ls' := [some _, none, some _, none, some _, none, some _, none, some _, none, none]) rfl qX11_greatestDivisor_7 ?_
  have L9 : ∀ (mz : Nat) (i x y : Nat), 200 - i = mz → (i ≤ 200) → (i = 0 ∧ x < 2 ^ 31 ∧ y < 2 ^ 31 ∨ 0 < i ∧ y < x ∧ x < 2 ^ 31 ∧ x * y * 2 ^ (i - 1) ≤ 2 ^ 62) → (Nat.gcd x y = Nat.gcd a b) → V X G 11 0 0 (QM X G P 0 0) 9 [some (.long (lN a)), none, some (.long (lN b)), none, some (.long (lN x)), none, some (.long (lN y)), none, some (.int (nI i)), none, none] [] h := by
    intro mz
    induction mz using Nat.strongRecOn with
    | _ mz ih =>
    intro i x y hm hi hv hg
    refine v_iload hX rfl qX11_greatestDivisor_9 ?_
    refine v_sipush hX ls_200 qX11_greatestDivisor_11 ?_
    refine v_icmp_geS hX 45 qX11_greatestDivisor_14 rfl (fun q14 => ?_) (fun q14 => ?_)
    · have e1 : i = 200 := Nat.le_antisymm hi (nI_le' (i := 200) (by omega) (by omega) q14)
      subst e1
      have hy0 : y = 0 := by
          rcases hv with ⟨z, -⟩ | ⟨-, zy, -, z⟩
          · omega
          · rcases Nat.eq_zero_or_pos y with w | w
            · exact w
            · exfalso
              rcases Nat.eq_zero_or_pos x with w2 | w2
              · omega
              · have h1 : 1 * 1 ≤ x * y := Nat.mul_le_mul w2 w
                have h2 : 1 * 2 ^ 199 ≤ x * y * 2 ^ 199 := Nat.mul_le_mul_right _ h1
                have h3 : ¬ (1 * 2 ^ 199 ≤ 2 ^ 62) := by decide
                exact h3 (Nat.le_trans h2 z)
      refine v_lload hX rfl qX11_greatestDivisor_45 ?_
      refine v_lreturn hX qX11_greatestDivisor_47 (hP _ _ ?_)
      refine ⟨?_, rfl⟩
      rw [← hg, hy0, Nat.gcd_zero_right]
    · have hl := nI_lt' (s := 200) (by omega) (by omega) q14
      refine v_lload hX rfl qX11_greatestDivisor_17 ?_
      refine v_lconst hX ll_0 qX11_greatestDivisor_19 ?_
      refine v_lcmp hX qX11_greatestDivisor_20 ?_
      first | refine v_if_eqB hX 45 qX11_greatestDivisor_21 rfl (fun q21 => ?_) (fun q21 => ?_) | refine v_if_eq hX 45 qX11_greatestDivisor_21 rfl (fun q21 => ?_) (fun q21 => ?_)
      · have hy0 : y = 0 := by
            have z := (lg_cmp_eq _ _).mp q21
            rw [lN_0, pk_lEQ (by rcases hv with z | z <;> omega) (by omega)] at z
            exact z
        refine v_lload hX rfl qX11_greatestDivisor_45 ?_
        refine v_lreturn hX qX11_greatestDivisor_47 (hP _ _ ?_)
        refine ⟨?_, rfl⟩
        rw [← hg, hy0, Nat.gcd_zero_right]
      · have hy0 : 0 < y := Nat.pos_of_ne_zero (fun z => q21 ((lg_cmp_eq _ _).mpr (by rw [z]; rfl)))
        have hx31 : x < 2 ^ 31 := by rcases hv with z | z <;> omega
        have hy31 : y < 2 ^ 31 := by rcases hv with z | z <;> omega
        refine v_lload hX rfl qX11_greatestDivisor_24 ?_
        refine v_lload hX rfl qX11_greatestDivisor_26 ?_
        refine v_lrem hX (fun z => by rw [lN_0, pk_lEQ (by omega) (by omega)] at z; omega) qX11_greatestDivisor_28 ?_
        refine v_eqL (pk_lRem (by omega) hy0 (by omega)) ?_
        refine v_lstore hX (Nat.le_of_ble_eq_true rfl) rfl (ls' := [some _, none, some _, none, some _, none, some _, none, some _, some _, none]) rfl qX11_greatestDivisor_29 ?_
        refine v_lload hX rfl qX11_greatestDivisor_31 ?_
        refine v_lstore hX (Nat.le_of_ble_eq_true rfl) rfl (ls' := [some _, none, some _, none, some _, none, some _, none, some _, some _, none]) rfl qX11_greatestDivisor_33 ?_
        refine v_lload hX rfl qX11_greatestDivisor_35 ?_
        refine v_lstore hX (Nat.le_of_ble_eq_true rfl) rfl (ls' := [some _, none, some _, none, some _, none, some _, none, some _, some _, none]) rfl qX11_greatestDivisor_37 ?_
        refine v_iinc hX rfl (by first | exact ii_nI _ | exact ii_1 _) (Nat.le_of_ble_eq_true rfl) rfl (ls' := [some _, none, some _, none, some _, none, some _, none, some _, some _, none]) rfl qX11_greatestDivisor_39 ?_
        refine v_goto hX 9 qX11_greatestDivisor_42 rfl ?_
        refine v_forget (ls' := [_, none, _, none, _, none, _, none, _, none, none]) ⟨Or.inr rfl, Or.inr rfl, Or.inr rfl, Or.inr rfl, Or.inr rfl, Or.inr rfl, Or.inr rfl, Or.inr rfl, Or.inr rfl, Or.inl rfl, Or.inr rfl, trivial⟩ ?_
        have hst := gcd_step hv hy0
        exact ih _ (by omega) (i + 1) y (x % y) rfl (by omega) (Or.inr ⟨by omega, hst.1, hst.2.1, hst.2.2⟩) ((Nat.gcd_comm y (x % y)).trans ((Nat.gcd_rec y x).symm.trans ((Nat.gcd_comm y x).trans hg)))
  exact L9 _ 0 a b rfl (by omega) (Or.inl ⟨rfl, ha, hb⟩) rfl
/-- part q of a in b, in lowest terms -/
def loI (a b : Nat) (q : Int32) : Int64 := if q = 0 then lN (a / Nat.gcd a b) else lN (b / Nat.gcd a b)
def NOI : Int64 := -4611686018427387904
theorem qX11_partOfQuotient_0 : Dq cX11_partOfQuotient 0 (.iload 4) 2 2 := ⟨by decide +kernel, rfl⟩
theorem qX11_partOfQuotient_2 : Dq cX11_partOfQuotient 2 (.iconst 0) 1 3 := ⟨by decide +kernel, rfl⟩
theorem qX11_partOfQuotient_3 : Dq cX11_partOfQuotient 3 (.iconst 1) 1 4 := ⟨by decide +kernel, rfl⟩
theorem qX11_partOfQuotient_4 : Dq cX11_partOfQuotient 4 (.invokestatic 110) 3 7 := ⟨by decide +kernel, rfl⟩
theorem qX11_partOfQuotient_7 : Dq cX11_partOfQuotient 7 (.ifCond .eq 9) 3 10 := ⟨by decide +kernel, rfl⟩
theorem qX11_partOfQuotient_10 : Dq cX11_partOfQuotient 10 (.lload_n 2) 1 11 := ⟨by decide +kernel, rfl⟩
theorem qX11_partOfQuotient_11 : Dq cX11_partOfQuotient 11 (.lconst 0) 1 12 := ⟨by decide +kernel, rfl⟩
theorem qX11_partOfQuotient_12 : Dq cX11_partOfQuotient 12 (.lcmp) 1 13 := ⟨by decide +kernel, rfl⟩
theorem qX11_partOfQuotient_13 : Dq cX11_partOfQuotient 13 (.ifCond .gt 7) 3 16 := ⟨by decide +kernel, rfl⟩
theorem qX11_partOfQuotient_16 : Dq cX11_partOfQuotient 16 (.ldc2_w 206) 3 19 := ⟨by decide +kernel, rfl⟩
theorem qX11_partOfQuotient_19 : Dq cX11_partOfQuotient 19 (.lreturn) 1 20 := ⟨by decide +kernel, rfl⟩
theorem qX11_partOfQuotient_20 : Dq cX11_partOfQuotient 20 (.lload_n 0) 1 21 := ⟨by decide +kernel, rfl⟩
theorem qX11_partOfQuotient_21 : Dq cX11_partOfQuotient 21 (.lload_n 2) 1 22 := ⟨by decide +kernel, rfl⟩
theorem qX11_partOfQuotient_22 : Dq cX11_partOfQuotient 22 (.invokestatic 338) 3 25 := ⟨by decide +kernel, rfl⟩
theorem qX11_partOfQuotient_25 : Dq cX11_partOfQuotient 25 (.lstore 5) 2 27 := ⟨by decide +kernel, rfl⟩
theorem qX11_partOfQuotient_27 : Dq cX11_partOfQuotient 27 (.lload 5) 2 29 := ⟨by decide +kernel, rfl⟩
theorem qX11_partOfQuotient_29 : Dq cX11_partOfQuotient 29 (.lconst 0) 1 30 := ⟨by decide +kernel, rfl⟩
theorem qX11_partOfQuotient_30 : Dq cX11_partOfQuotient 30 (.lcmp) 1 31 := ⟨by decide +kernel, rfl⟩
theorem qX11_partOfQuotient_31 : Dq cX11_partOfQuotient 31 (.ifCond .gt 7) 3 34 := ⟨by decide +kernel, rfl⟩
theorem qX11_partOfQuotient_38 : Dq cX11_partOfQuotient 38 (.iload 4) 2 40 := ⟨by decide +kernel, rfl⟩
theorem qX11_partOfQuotient_40 : Dq cX11_partOfQuotient 40 (.ifCond .ne 7) 3 43 := ⟨by decide +kernel, rfl⟩
theorem qX11_partOfQuotient_43 : Dq cX11_partOfQuotient 43 (.lload_n 0) 1 44 := ⟨by decide +kernel, rfl⟩
theorem qX11_partOfQuotient_44 : Dq cX11_partOfQuotient 44 (.goto 4) 3 47 := ⟨by decide +kernel, rfl⟩
theorem qX11_partOfQuotient_47 : Dq cX11_partOfQuotient 47 (.lload_n 2) 1 48 := ⟨by decide +kernel, rfl⟩
theorem qX11_partOfQuotient_48 : Dq cX11_partOfQuotient 48 (.lload 5) 2 50 := ⟨by decide +kernel, rfl⟩
theorem qX11_partOfQuotient_50 : Dq cX11_partOfQuotient 50 (.ldiv) 1 51 := ⟨by decide +kernel, rfl⟩
theorem qX11_partOfQuotient_51 : Dq cX11_partOfQuotient 51 (.lreturn) 1 52 := ⟨by decide +kernel, rfl⟩
set_option maxRecDepth 100000 in
set_option maxHeartbeats 4000000 in
theorem c_partOfQuotient {G : Glb} {h : AHp} {a b : Nat} (ha : a < 2 ^ 31) (hb : b < 2 ^ 31) (q : Int32) : CP G m_X11_partOfQuotient 2 0 0 [.long (lN a), .long (lN b), .int q] h (fun r h' => r = some (.long (if (0 ≤ q ∧ q ≤ 1) ∧ 0 < b then loI a b q else NOI)) ∧ h = h') := by
  suffices key : ∀ P : Option Value → AHp → Prop, (∀ r h', (r = some (.long (if (0 ≤ q ∧ q ≤ 1) ∧ 0 < b then loI a b q else NOI)) ∧ h = h') → P r h') → CP G m_X11_partOfQuotient 2 0 0 [.long (lN a), .long (lN b), .int q] h P from key _ (fun _ _ z => z)
  intro P hP
  refine CP.of (by decide +kernel) (Nat.le_of_ble_eq_true rfl) fun X hX hR hnm => ?_
  show V X G 7 0 0 _ 0 [some (.long (lN a)), none, some (.long (lN b)), none, some (.int q), none, none] [] h
  refine v_iload hX rfl qX11_partOfQuotient_0 ?_
  refine v_iconst hX li_0 qX11_partOfQuotient_2 ?_
  refine v_iconst hX li_1 qX11_partOfQuotient_3 ?_
  refine v_callSq hX hR k_X11_110 (c_isWithin _ _ _) rfl (Nat.le_of_ble_eq_true rfl) rfl (Nat.le_of_ble_eq_true rfl) ⟨Nat.le_of_ble_eq_true rfl, Nat.le_of_ble_eq_true rfl⟩ qX11_partOfQuotient_4 ?_
  rintro _ _ ⟨rfl, rfl⟩
  first | refine v_if_eqB hX 16 qX11_partOfQuotient_7 rfl (fun q7 => ?_) (fun q7 => ?_) | refine v_if_eq hX 16 qX11_partOfQuotient_7 rfl (fun q7 => ?_) (fun q7 => ?_)
  · skip
    refine v_ldc2 hX c_X11_206 qX11_partOfQuotient_16 ?_
    refine v_lreturn hX qX11_partOfQuotient_19 (hP _ _ ?_)
    first | exact ⟨by rw [if_neg (fun z => q7 z.1)]; rfl, rfl⟩ | exact ⟨by rw [if_neg (fun z => hb0 z.2)]; rfl, rfl⟩
  · skip
    refine v_lload_n hX rfl qX11_partOfQuotient_10 ?_
    refine v_lconst hX ll_0 qX11_partOfQuotient_11 ?_
    refine v_lcmp hX qX11_partOfQuotient_12 ?_
    refine v_if_gtS hX 20 qX11_partOfQuotient_13 rfl (fun q13 => ?_) (fun q13 => ?_)
    · have hb0 : 0 < b := by
          have z := (lg_cmp_gt _ _).mp q13
          rw [lN_0, pk_lLT (by omega) (by omega)] at z
          exact z
      have hg0 : 0 < Nat.gcd a b := Nat.gcd_pos_of_pos_right a hb0
      have hg1 : Nat.gcd a b ≤ b := Nat.gcd_le_right a hb0
      refine v_lload_n hX rfl qX11_partOfQuotient_20 ?_
      refine v_lload_n hX rfl qX11_partOfQuotient_21 ?_
      refine v_callSq hX hR k_X11_338 (c_greatestDivisor (by exact ha) (by exact hb)) rfl (Nat.le_of_ble_eq_true rfl) rfl (Nat.le_of_ble_eq_true rfl) ⟨Nat.le_of_ble_eq_true rfl, Nat.le_of_ble_eq_true rfl⟩ qX11_partOfQuotient_22 ?_
      rintro _ _ ⟨rfl, rfl⟩
      refine v_lstore hX (Nat.le_of_ble_eq_true rfl) rfl (ls' := [some _, none, some _, none, some _, some _, none]) rfl qX11_partOfQuotient_25 ?_
      refine v_lload hX rfl qX11_partOfQuotient_27 ?_
      refine v_lconst hX ll_0 qX11_partOfQuotient_29 ?_
      refine v_lcmp hX qX11_partOfQuotient_30 ?_
      refine v_if_gtS hX 38 qX11_partOfQuotient_31 rfl (fun q31 => ?_) (fun q31 => ?_)
      · skip
        refine v_iload hX rfl qX11_partOfQuotient_38 ?_
        first | refine v_if_neB hX 47 qX11_partOfQuotient_40 rfl (fun q40 => ?_) (fun q40 => ?_) | refine v_if_ne hX 47 qX11_partOfQuotient_40 rfl (fun q40 => ?_) (fun q40 => ?_)
        · skip
          refine v_lload_n hX rfl qX11_partOfQuotient_47 ?_
          refine v_lload hX rfl qX11_partOfQuotient_48 ?_
          refine v_ldiv hX (fun z => by rw [lN_0, pk_lEQ (by omega) (by omega)] at z; omega) qX11_partOfQuotient_50 ?_
          refine v_eqL (pk_lDiv (by omega) hg0 (by omega)) ?_
          refine v_lreturn hX qX11_partOfQuotient_51 (hP _ _ ?_)
          refine ⟨?_, rfl⟩
          rw [if_pos ⟨q7, hb0⟩]
          first | rw [loI, if_pos q40] | rw [loI, if_neg q40]
        · skip
          refine v_lload_n hX rfl qX11_partOfQuotient_43 ?_
          refine v_goto hX 48 qX11_partOfQuotient_44 rfl ?_
          refine v_lload hX rfl qX11_partOfQuotient_48 ?_
          refine v_ldiv hX (fun z => by rw [lN_0, pk_lEQ (by omega) (by omega)] at z; omega) qX11_partOfQuotient_50 ?_
          refine v_eqL (pk_lDiv (by omega) hg0 (by omega)) ?_
          refine v_lreturn hX qX11_partOfQuotient_51 (hP _ _ ?_)
          refine ⟨?_, rfl⟩
          rw [if_pos ⟨q7, hb0⟩]
          first | rw [loI, if_pos q40] | rw [loI, if_neg q40]
      · exact absurd ((lg_cmp_gt _ _).mpr (by rw [lN_0, pk_lLT (by omega) (by omega)]; exact hg0)) (Int32.not_lt.mpr q31)
    · have hb0 : ¬ 0 < b := by
          intro z
          have z2 : ¬ 0 < lg_cmp (lN b) 0 := Int32.not_lt.mpr q13
          exact z2 ((lg_cmp_gt _ _).mpr (by rw [lN_0, pk_lLT (by omega) (by omega)]; exact z))
      refine v_ldc2 hX c_X11_206 qX11_partOfQuotient_16 ?_
      refine v_lreturn hX qX11_partOfQuotient_19 (hP _ _ ?_)
      first | exact ⟨by rw [if_neg (fun z => q7 z.1)]; rfl, rfl⟩ | exact ⟨by rw [if_neg (fun z => hb0 z.2)]; rfl, rfl⟩
