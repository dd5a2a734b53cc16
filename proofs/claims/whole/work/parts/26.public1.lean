/-! public calls of the class: told, asks, force, look, next, plan, planned, search, giveUp -/
theorem isC_ex {c : Int32} (h : isC c) : ∃ q, q < 48 ∧ c = nI q := ofRange (s := 48) h.1 (by have h1 := leI.mp h.2; have h2 : (47 : Int32).toInt = 47 := rfl; have h3 : (nI 48).toInt = 48 := rfl; rw [ltI]; omega) (by omega)
theorem rng_ex {c : Int32} (n : Nat) (hn : n < 2000000) (h : 0 ≤ c ∧ c ≤ nI n) : ∃ q, q ≤ n ∧ c = nI q := by
  obtain ⟨q, hq, e⟩ := (inR.of hn h.1 h.2).ex (by omega)
  exact ⟨q, hq, e⟩
def toldI (TV : TVt) (b : Bch) (c w : Int32) : Int32 := if isC c ∧ (0 ≤ w ∧ w ≤ 4) then (if w = 0 then b 1 (tn c) else if w = 1 then b 2 (tn c) else if w = 2 then dpB TV b (tn c) else if w = 3 then bz (¬ seB TV b (tn c) = 0) else shB TV b (tn c)) else -2
def asksI (E : Sst) (l c w : Int32) : Int32 := if (0 ≤ l ∧ l < nI (sM E)) ∧ isC c ∧ (0 ≤ w ∧ w ≤ 4) then (if w = 0 then goodB (sT E) (sB E) (sK E (tn l)) (sN E (tn l)) (tn c) else if w = 1 then tkB (sK E (tn l)) (sN E (tn l)) else if w = 2 then smB (sK E (tn l)) (sN E (tn l)) else if w = 3 then gainB (sT E) (sB E) (sK E (tn l)) (sN E (tn l)) (tn c) else rateB (sT E) (sB E) (sK E (tn l)) (sN E (tn l)) (tn c)) else -2
def lookI (E : Sst) (l c : Int32) : Int32 × Bch := if (0 ≤ l ∧ l < nI (sM E)) ∧ isC c then (if seB (sT E) (sB E) (tn c) = 0 then (lookB (sT E) (sB E) (sK E (tn l)) (sN E (tn l)) (tn c) 1 (tn c), lookB (sT E) (sB E) (sK E (tn l)) (sN E (tn l)) (tn c)) else (-3, sB E)) else (-2, sB E)
abbrev chE (E : Sst) : Int32 × Int32 × Int32 := chB (sT E) (sM E) (sK E) (sN E) (sB E)
def nextI (E : Sst) (w : Int32) : Int32 := if 0 ≤ w ∧ w ≤ 2 then (if (chE E).1 = -1 then -1 else if w = 0 then (chE E).1 else if w = 1 then (chE E).2.1 else (chE E).2.2) else -2
abbrev szE (E : Sst) (n : Nat) : Nat := pSz (sT E) (sM E) (sK E) (sN E) (sB E) n
abbrev gaE (E : Sst) : Nat → Int32 := pGain (sT E) (sM E) (sK E) (sN E) (sB E)
abbrev tkE (E : Sst) : Nat → Int32 := pTake (sT E) (sM E) (sK E) (sN E) (sB E)
abbrev ceE (E : Sst) : Nat → Int32 := pCell (sT E) (sM E) (sK E) (sN E) (sB E)
def planI (E : Sst) (n w : Int32) : Int32 := if (0 ≤ n ∧ n ≤ 20) ∧ (0 ≤ w ∧ w ≤ 2) then (if w = 0 then sumN (gaE E) (szE E (tn n)) else if w = 1 then nI (szE E (tn n)) else sumN (tkE E) (szE E (tn n))) else -2
def plannedI (E : Sst) (i : Int32) : Int32 := if 0 ≤ i ∧ i ≤ 19 then (if i < nI (szE E 20) then ceE E (tn i) else -1) else -2
def giveI (E : Sst) (pr : Int32) : Int32 := if 0 ≤ pr ∧ pr ≤ 999999 then nI (fc (fun k => decide (gaE E k < pr)) (szE E 20) 0) else -2
def searchI (E : Sst) : Int32 × Bch := if (chE E).1 = -1 then (-1, sB E) else ((chE E).2.1, stB (sT E) (sM E) (sK E) (sN E) (sB E))
def forceI (E : Sst) (t : Int32) : Int32 × Bch := if 0 ≤ t ∧ t < nI (sC E) then (sB E 0 5, up2 (sB E) 0 5 t) else (-2, sB E)
theorem fc_congr {p q : Nat → Bool} : ∀ n i, (∀ k, i ≤ k → k < i + n → p k = q k) → fc p n i = fc q n i := by
  intro n
  induction n with
  | zero => intro i _; rfl
  | succ n ih =>
    intro i h
    unfold fc
    rw [h i (Nat.le_refl _) (by omega), ih (i + 1) (fun k hk hk2 => h k (by omega) (by omega))]
theorem FrB.q1 {h : AHp} {σ : Nat → Nat → Int32} (hf : FrB h 1 σ) : FrQ h σ := fun a k a1 a2 a3 _ => hf a k (by omega) (by omega) a3
theorem FrC.bv1 {h : AHp} {σ : Nat → Nat → Int32} (hf : FrC h σ) {B : Nat} (hB : 1 ≤ B ∧ B ≤ 7) : bv (σ, h.2) B = bv h B := bv_ext (fun i k ho => by
  have : i ≤ 2 := by rcases ho with ⟨e, -⟩ | ⟨e, -⟩ <;> omega
  exact hf (B + i) k (by omega) (by omega) (by omega))
theorem qX11_told_0 : Dq cX11_told 0 (.iload_n 1) 1 1 := ⟨by decide +kernel, rfl⟩
theorem qX11_told_1 : Dq cX11_told 1 (.invokestatic 107) 3 4 := ⟨by decide +kernel, rfl⟩
theorem qX11_told_4 : Dq cX11_told 4 (.ifCond .eq 12) 3 7 := ⟨by decide +kernel, rfl⟩
theorem qX11_told_7 : Dq cX11_told 7 (.iload_n 2) 1 8 := ⟨by decide +kernel, rfl⟩
theorem qX11_told_8 : Dq cX11_told 8 (.iconst 0) 1 9 := ⟨by decide +kernel, rfl⟩
theorem qX11_told_9 : Dq cX11_told 9 (.iconst 4) 1 10 := ⟨by decide +kernel, rfl⟩
theorem qX11_told_10 : Dq cX11_told 10 (.invokestatic 110) 3 13 := ⟨by decide +kernel, rfl⟩
theorem qX11_told_13 : Dq cX11_told 13 (.ifCond .ne 6) 3 16 := ⟨by decide +kernel, rfl⟩
theorem qX11_told_16 : Dq cX11_told 16 (.bipush (-2)) 2 18 := ⟨by decide +kernel, rfl⟩
theorem qX11_told_18 : Dq cX11_told 18 (.ireturn) 1 19 := ⟨by decide +kernel, rfl⟩
theorem qX11_told_19 : Dq cX11_told 19 (.aload_n 0) 1 20 := ⟨by decide +kernel, rfl⟩
theorem qX11_told_20 : Dq cX11_told 20 (.getfield 38) 3 23 := ⟨by decide +kernel, rfl⟩
theorem qX11_told_23 : Dq cX11_told 23 (.aload_n 0) 1 24 := ⟨by decide +kernel, rfl⟩
theorem qX11_told_24 : Dq cX11_told 24 (.getfield 10) 3 27 := ⟨by decide +kernel, rfl⟩
theorem qX11_told_27 : Dq cX11_told 27 (.iload_n 1) 1 28 := ⟨by decide +kernel, rfl⟩
theorem qX11_told_28 : Dq cX11_told 28 (.invokevirtual 114) 3 31 := ⟨by decide +kernel, rfl⟩
theorem qX11_told_31 : Dq cX11_told 31 (.iload_n 2) 1 32 := ⟨by decide +kernel, rfl⟩
theorem qX11_told_32 : Dq cX11_told 32 (.tableswitch 74 0 3 #[32, 41, 50, 58]) 32 64 := ⟨by decide +kernel, rfl⟩
theorem qX11_told_64 : Dq cX11_told 64 (.aload_n 0) 1 65 := ⟨by decide +kernel, rfl⟩
theorem qX11_told_65 : Dq cX11_told 65 (.getfield 10) 3 68 := ⟨by decide +kernel, rfl⟩
theorem qX11_told_68 : Dq cX11_told 68 (.iload_n 1) 1 69 := ⟨by decide +kernel, rfl⟩
theorem qX11_told_69 : Dq cX11_told 69 (.invokevirtual 118) 3 72 := ⟨by decide +kernel, rfl⟩
theorem qX11_told_72 : Dq cX11_told 72 (.ireturn) 1 73 := ⟨by decide +kernel, rfl⟩
theorem qX11_told_73 : Dq cX11_told 73 (.aload_n 0) 1 74 := ⟨by decide +kernel, rfl⟩
theorem qX11_told_74 : Dq cX11_told 74 (.getfield 10) 3 77 := ⟨by decide +kernel, rfl⟩
theorem qX11_told_77 : Dq cX11_told 77 (.iload_n 1) 1 78 := ⟨by decide +kernel, rfl⟩
theorem qX11_told_78 : Dq cX11_told 78 (.invokevirtual 121) 3 81 := ⟨by decide +kernel, rfl⟩
theorem qX11_told_81 : Dq cX11_told 81 (.ireturn) 1 82 := ⟨by decide +kernel, rfl⟩
theorem qX11_told_82 : Dq cX11_told 82 (.aload_n 0) 1 83 := ⟨by decide +kernel, rfl⟩
theorem qX11_told_83 : Dq cX11_told 83 (.getfield 38) 3 86 := ⟨by decide +kernel, rfl⟩
theorem qX11_told_86 : Dq cX11_told 86 (.getfield 124) 3 89 := ⟨by decide +kernel, rfl⟩
theorem qX11_told_89 : Dq cX11_told 89 (.ireturn) 1 90 := ⟨by decide +kernel, rfl⟩
theorem qX11_told_90 : Dq cX11_told 90 (.aload_n 0) 1 91 := ⟨by decide +kernel, rfl⟩
theorem qX11_told_91 : Dq cX11_told 91 (.getfield 38) 3 94 := ⟨by decide +kernel, rfl⟩
theorem qX11_told_94 : Dq cX11_told 94 (.getfield 127) 3 97 := ⟨by decide +kernel, rfl⟩
theorem qX11_told_97 : Dq cX11_told 97 (.ifCond .eq 7) 3 100 := ⟨by decide +kernel, rfl⟩
theorem qX11_told_100 : Dq cX11_told 100 (.iconst 1) 1 101 := ⟨by decide +kernel, rfl⟩
theorem qX11_told_101 : Dq cX11_told 101 (.goto 4) 3 104 := ⟨by decide +kernel, rfl⟩
theorem qX11_told_104 : Dq cX11_told 104 (.iconst 0) 1 105 := ⟨by decide +kernel, rfl⟩
theorem qX11_told_105 : Dq cX11_told 105 (.ireturn) 1 106 := ⟨by decide +kernel, rfl⟩
theorem qX11_told_106 : Dq cX11_told 106 (.aload_n 0) 1 107 := ⟨by decide +kernel, rfl⟩
theorem qX11_told_107 : Dq cX11_told 107 (.getfield 38) 3 110 := ⟨by decide +kernel, rfl⟩
theorem qX11_told_110 : Dq cX11_told 110 (.getfield 131) 3 113 := ⟨by decide +kernel, rfl⟩
theorem qX11_told_113 : Dq cX11_told 113 (.ireturn) 1 114 := ⟨by decide +kernel, rfl⟩
set_option maxRecDepth 100000 in
set_option maxHeartbeats 4000000 in
theorem c_told {G : Glb} {h : AHp} {E : Sst} (hc : CV h E) (c w : Int32) : CP G m_X11_told 5 0 0 [.ref 0, .int c, .int w] h (fun r h' => r = some (.int (toldI (sT E) (sB E) c w)) ∧ ∃ σ, h' = (σ, h.2) ∧ CV (σ, h.2) E ∧ K38 h σ) := by
  suffices key : ∀ P : Option Value → AHp → Prop, (∀ r h', (r = some (.int (toldI (sT E) (sB E) c w)) ∧ ∃ σ, h' = (σ, h.2) ∧ CV (σ, h.2) E ∧ K38 h σ) → P r h') → CP G m_X11_told 5 0 0 [.ref 0, .int c, .int w] h P from key _ (fun _ _ z => z)
  intro P hP
  have hs := hc.sh
  have hru := hc.ru
  have hca := hc.ca
  have hbe := hc.be
  have hok := hc.ok
  obtain ⟨hrl, hrl5⟩ := hbe.rl hok.1
  rw [bv0 (by omega) (by omega)] at hrl5
  have hh3 := hbe.2.2.2.1
  rw [bv0 (by omega) (by omega)] at hh3
  refine CP.of (by decide +kernel) (Nat.le_of_ble_eq_true rfl) fun X hX hR hnm => ?_
  show V X G 3 0 0 _ 0 [some (.ref 0), some (.int c), some (.int w)] [] h
  refine v_iload_n hX rfl qX11_told_0 ?_
  refine v_callSq hX hR k_X11_107 (c_isCell _) rfl (Nat.le_of_ble_eq_true rfl) rfl (Nat.le_of_ble_eq_true rfl) ⟨Nat.le_of_ble_eq_true rfl, Nat.le_of_ble_eq_true rfl⟩ qX11_told_1 ?_
  rintro _ _ ⟨rfl, rfl⟩
  first | refine v_if_eqB hX 16 qX11_told_4 rfl (fun q4 => ?_) (fun q4 => ?_) | refine v_if_eq hX 16 qX11_told_4 rfl (fun q4 => ?_) (fun q4 => ?_)
  · skip
    refine v_bipush hX lb_n2 qX11_told_16 ?_
    refine v_ireturn hX qX11_told_18 (hP _ _ ?_)
    first | exact ⟨by rw [toldI, if_neg (fun z => q4 z.1)], h.1, rfl, hc, fun a _ => rfl⟩ | exact ⟨by rw [toldI, if_neg (fun z => q13 z.2)], h.1, rfl, hc, fun a _ => rfl⟩
  · obtain ⟨q, hq, rfl⟩ := isC_ex q4
    refine v_iload_n hX rfl qX11_told_7 ?_
    refine v_iconst hX li_0 qX11_told_8 ?_
    refine v_iconst hX li_4 qX11_told_9 ?_
    refine v_callSq hX hR k_X11_110 (c_isWithin _ _ _) rfl (Nat.le_of_ble_eq_true rfl) rfl (Nat.le_of_ble_eq_true rfl) ⟨Nat.le_of_ble_eq_true rfl, Nat.le_of_ble_eq_true rfl⟩ qX11_told_10 ?_
    rintro _ _ ⟨rfl, rfl⟩
    first | refine v_if_neB hX 19 qX11_told_13 rfl (fun q13 => ?_) (fun q13 => ?_) | refine v_if_ne hX 19 qX11_told_13 rfl (fun q13 => ?_) (fun q13 => ?_)
    · skip
      refine v_aload_n hX rfl qX11_told_19 ?_
      refine v_getR hX g_X11_38 (hs.kd 0 rfl) (hs.rf 5 rfl) qX11_told_20 ?_
      refine v_aload_n hX rfl qX11_told_23 ?_
      refine v_getR hX g_X11_10 (hs.kd 0 rfl) (hs.rf 0 rfl) qX11_told_24 ?_
      refine v_iload_n hX rfl qX11_told_27 ?_
      refine v_callVq hX hR k_X11_114 (hs.kd 17 rfl) (c_survey (by exact hs) (by exact hru) (by exact hca) (by exact (Or.inl rfl)) (by exact hq) (by exact hrl) (by exact hrl5) (by have := hbe.2.1 q hq; rw [bv2 hq] at this; exact this) (by exact hh3)) rfl (Nat.le_of_ble_eq_true rfl) rfl (Nat.le_of_ble_eq_true rfl) ⟨Nat.le_of_ble_eq_true rfl, Nat.le_of_ble_eq_true rfl⟩ qX11_told_28 ?_
      rintro _ _ ⟨rfl, σ, rfl, hfv, hca2, d10, d11, d12⟩
      change σ 17 10 = dpI _ _ _ _ _ at d10
      rw [← dpB_eq (B := 1) hq, hc.b] at d10
      rw [← seB_eq (B := 1) hq, hc.b] at d11
      rw [← shB_eq (B := 1) hq, hc.b] at d12
      have hbv : bv (σ, h.2) 1 = sB E := (hfv.bv (Or.inl rfl)).trans hc.b
      have hcv := hc.p hfv.P hca2
      refine v_iload_n hX rfl qX11_told_31 ?_
      refine v_case (0 : Int32) (fun q32 => ?_) (fun q32_0 => ?_)
      · skip
        refine v_tableIn (off := 32) hX 64 qX11_told_32 (by first | exact (by rw [q32]; decide) | decide) (by first | exact (by rw [q32]; decide) | decide) (by first | exact (by rw [q32]; rfl) | rfl) rfl ?_
        refine v_aload_n hX rfl qX11_told_64 ?_
        refine v_getR hX g_X11_10 (hs.kd 0 rfl) (hs.rf 0 rfl) qX11_told_65 ?_
        refine v_iload_n hX rfl qX11_told_68 ?_
        refine v_callVq hX hR k_X11_118 (hs.kd 1 rfl) (c_oddsAt (by exact hs) (by exact (Or.inl rfl)) _) rfl (Nat.le_of_ble_eq_true rfl) rfl (Nat.le_of_ble_eq_true rfl) ⟨Nat.le_of_ble_eq_true rfl, Nat.le_of_ble_eq_true rfl⟩ qX11_told_69 ?_
        rintro _ _ ⟨rfl, rfl⟩
        refine v_ireturn hX qX11_told_72 (hP _ _ ?_)
        exact ⟨by rw [toldI, if_pos ⟨isCn hq, q13⟩, tn_nI (by omega), if_pos q32, oddsA_n hq, hbv], σ, rfl, hcv, hfv.P.k⟩
      refine v_case (1 : Int32) (fun q32 => ?_) (fun q32_1 => ?_)
      · skip
        refine v_tableIn (off := 41) hX 73 qX11_told_32 (by first | exact (by rw [q32]; decide) | decide) (by first | exact (by rw [q32]; decide) | decide) (by first | exact (by rw [q32]; rfl) | rfl) rfl ?_
        refine v_aload_n hX rfl qX11_told_73 ?_
        refine v_getR hX g_X11_10 (hs.kd 0 rfl) (hs.rf 0 rfl) qX11_told_74 ?_
        refine v_iload_n hX rfl qX11_told_77 ?_
        refine v_callVq hX hR k_X11_121 (hs.kd 1 rfl) (c_treadsAt (by exact hs) (by exact (Or.inl rfl)) _) rfl (Nat.le_of_ble_eq_true rfl) rfl (Nat.le_of_ble_eq_true rfl) ⟨Nat.le_of_ble_eq_true rfl, Nat.le_of_ble_eq_true rfl⟩ qX11_told_78 ?_
        rintro _ _ ⟨rfl, rfl⟩
        refine v_ireturn hX qX11_told_81 (hP _ _ ?_)
        exact ⟨by rw [toldI, if_pos ⟨isCn hq, q13⟩, tn_nI (by omega), if_neg (by rw [q32]; decide), if_pos q32, trdA_n hq, hbv], σ, rfl, hcv, hfv.P.k⟩
      refine v_case (2 : Int32) (fun q32 => ?_) (fun q32_2 => ?_)
      · skip
        refine v_tableIn (off := 50) hX 82 qX11_told_32 (by first | exact (by rw [q32]; decide) | decide) (by first | exact (by rw [q32]; decide) | decide) (by first | exact (by rw [q32]; rfl) | rfl) rfl ?_
        refine v_aload_n hX rfl qX11_told_82 ?_
        refine v_getR hX g_X11_38 (hs.kd 0 rfl) (hs.rf 5 rfl) qX11_told_83 ?_
        refine v_getIv hX g_X11_124 (Or.inl rfl) (hs.kd 17 rfl) d10 qX11_told_86 ?_
        refine v_ireturn hX qX11_told_89 (hP _ _ ?_)
        exact ⟨by rw [toldI, if_pos ⟨isCn hq, q13⟩, tn_nI (by omega), if_neg (by rw [q32]; decide), if_neg (by rw [q32]; decide), if_pos q32], σ, rfl, hcv, hfv.P.k⟩
      refine v_case (3 : Int32) (fun q32 => ?_) (fun q32_3 => ?_)
      · skip
        refine v_tableIn (off := 58) hX 90 qX11_told_32 (by first | exact (by rw [q32]; decide) | decide) (by first | exact (by rw [q32]; decide) | decide) (by first | exact (by rw [q32]; rfl) | rfl) rfl ?_
        refine v_aload_n hX rfl qX11_told_90 ?_
        refine v_getR hX g_X11_38 (hs.kd 0 rfl) (hs.rf 5 rfl) qX11_told_91 ?_
        refine v_getIv hX g_X11_127 (Or.inr rfl) (hs.kd 17 rfl) d11 qX11_told_94 ?_
        first | refine v_if_eqB hX 104 qX11_told_97 rfl (fun q97 => ?_) (fun q97 => ?_) | refine v_if_eq hX 104 qX11_told_97 rfl (fun q97 => ?_) (fun q97 => ?_)
        · skip
          refine v_iconst hX li_0 qX11_told_104 ?_
          refine v_ireturn hX qX11_told_105 (hP _ _ ?_)
          refine ⟨?_, σ, rfl, hcv, hfv.P.k⟩
          rw [toldI, if_pos ⟨isCn hq, q13⟩, tn_nI (by omega), if_neg (by rw [q32]; decide), if_neg (by rw [q32]; decide), if_neg (by rw [q32]; decide), if_pos q32]
          first | exact rz (bz_t q97) | exact rz (bz_f q97)
        · skip
          refine v_iconst hX li_1 qX11_told_100 ?_
          refine v_goto hX 105 qX11_told_101 rfl ?_
          refine v_ireturn hX qX11_told_105 (hP _ _ ?_)
          refine ⟨?_, σ, rfl, hcv, hfv.P.k⟩
          rw [toldI, if_pos ⟨isCn hq, q13⟩, tn_nI (by omega), if_neg (by rw [q32]; decide), if_neg (by rw [q32]; decide), if_neg (by rw [q32]; decide), if_pos q32]
          first | exact rz (bz_t q97) | exact rz (bz_f q97)
      refine v_tableOut hX 106 qX11_told_32 ?_ rfl ?_
      · have z0 := ne_i (0) (by decide) q32_0; have z1 := ne_i (1) (by decide) q32_1; have z2 := ne_i (2) (by decide) q32_2; have z3 := ne_i (3) (by decide) q32_3; omega
      refine v_aload_n hX rfl qX11_told_106 ?_
      refine v_getR hX g_X11_38 (hs.kd 0 rfl) (hs.rf 5 rfl) qX11_told_107 ?_
      refine v_getIv hX g_X11_131 (Or.inl rfl) (hs.kd 17 rfl) d12 qX11_told_110 ?_
      refine v_ireturn hX qX11_told_113 (hP _ _ ?_)
      exact ⟨by rw [toldI, if_pos ⟨isCn hq, q13⟩, tn_nI (by omega), if_neg q32_0, if_neg q32_1, if_neg q32_2, if_neg q32_3], σ, rfl, hcv, hfv.P.k⟩
    · skip
      refine v_bipush hX lb_n2 qX11_told_16 ?_
      refine v_ireturn hX qX11_told_18 (hP _ _ ?_)
      first | exact ⟨by rw [toldI, if_neg (fun z => q4 z.1)], h.1, rfl, hc, fun a _ => rfl⟩ | exact ⟨by rw [toldI, if_neg (fun z => q13 z.2)], h.1, rfl, hc, fun a _ => rfl⟩
theorem qX11_asks_0 : Dq cX11_asks 0 (.aload_n 0) 1 1 := ⟨by decide +kernel, rfl⟩
theorem qX11_asks_1 : Dq cX11_asks 1 (.iload_n 1) 1 2 := ⟨by decide +kernel, rfl⟩
theorem qX11_asks_2 : Dq cX11_asks 2 (.invokevirtual 141) 3 5 := ⟨by decide +kernel, rfl⟩
theorem qX11_asks_5 : Dq cX11_asks 5 (.astore 4) 2 7 := ⟨by decide +kernel, rfl⟩
theorem qX11_asks_7 : Dq cX11_asks 7 (.aload 4) 2 9 := ⟨by decide +kernel, rfl⟩
theorem qX11_asks_9 : Dq cX11_asks 9 (.ifnull 19) 3 12 := ⟨by decide +kernel, rfl⟩
theorem qX11_asks_12 : Dq cX11_asks 12 (.iload_n 2) 1 13 := ⟨by decide +kernel, rfl⟩
theorem qX11_asks_13 : Dq cX11_asks 13 (.invokestatic 107) 3 16 := ⟨by decide +kernel, rfl⟩
theorem qX11_asks_16 : Dq cX11_asks 16 (.ifCond .eq 12) 3 19 := ⟨by decide +kernel, rfl⟩
theorem qX11_asks_19 : Dq cX11_asks 19 (.iload_n 3) 1 20 := ⟨by decide +kernel, rfl⟩
theorem qX11_asks_20 : Dq cX11_asks 20 (.iconst 0) 1 21 := ⟨by decide +kernel, rfl⟩
theorem qX11_asks_21 : Dq cX11_asks 21 (.iconst 4) 1 22 := ⟨by decide +kernel, rfl⟩
theorem qX11_asks_22 : Dq cX11_asks 22 (.invokestatic 110) 3 25 := ⟨by decide +kernel, rfl⟩
theorem qX11_asks_25 : Dq cX11_asks 25 (.ifCond .ne 6) 3 28 := ⟨by decide +kernel, rfl⟩
theorem qX11_asks_28 : Dq cX11_asks 28 (.bipush (-2)) 2 30 := ⟨by decide +kernel, rfl⟩
theorem qX11_asks_30 : Dq cX11_asks 30 (.ireturn) 1 31 := ⟨by decide +kernel, rfl⟩
theorem qX11_asks_31 : Dq cX11_asks 31 (.aload_n 0) 1 32 := ⟨by decide +kernel, rfl⟩
theorem qX11_asks_32 : Dq cX11_asks 32 (.getfield 38) 3 35 := ⟨by decide +kernel, rfl⟩
theorem qX11_asks_35 : Dq cX11_asks 35 (.aload_n 0) 1 36 := ⟨by decide +kernel, rfl⟩
theorem qX11_asks_36 : Dq cX11_asks 36 (.getfield 10) 3 39 := ⟨by decide +kernel, rfl⟩
theorem qX11_asks_39 : Dq cX11_asks 39 (.iload_n 2) 1 40 := ⟨by decide +kernel, rfl⟩
theorem qX11_asks_40 : Dq cX11_asks 40 (.invokevirtual 114) 3 43 := ⟨by decide +kernel, rfl⟩
theorem qX11_asks_43 : Dq cX11_asks 43 (.iload_n 3) 1 44 := ⟨by decide +kernel, rfl⟩
theorem qX11_asks_44 : Dq cX11_asks 44 (.tableswitch 69 0 3 #[32, 39, 45, 51]) 32 76 := ⟨by decide +kernel, rfl⟩
theorem qX11_asks_76 : Dq cX11_asks 76 (.aload_n 0) 1 77 := ⟨by decide +kernel, rfl⟩
theorem qX11_asks_77 : Dq cX11_asks 77 (.aload 4) 2 79 := ⟨by decide +kernel, rfl⟩
theorem qX11_asks_79 : Dq cX11_asks 79 (.invokevirtual 145) 3 82 := ⟨by decide +kernel, rfl⟩
theorem qX11_asks_82 : Dq cX11_asks 82 (.ireturn) 1 83 := ⟨by decide +kernel, rfl⟩
theorem qX11_asks_83 : Dq cX11_asks 83 (.aload 4) 2 85 := ⟨by decide +kernel, rfl⟩
theorem qX11_asks_85 : Dq cX11_asks 85 (.invokestatic 149) 3 88 := ⟨by decide +kernel, rfl⟩
theorem qX11_asks_88 : Dq cX11_asks 88 (.ireturn) 1 89 := ⟨by decide +kernel, rfl⟩
theorem qX11_asks_89 : Dq cX11_asks 89 (.aload 4) 2 91 := ⟨by decide +kernel, rfl⟩
theorem qX11_asks_91 : Dq cX11_asks 91 (.invokestatic 152) 3 94 := ⟨by decide +kernel, rfl⟩
theorem qX11_asks_94 : Dq cX11_asks 94 (.ireturn) 1 95 := ⟨by decide +kernel, rfl⟩
theorem qX11_asks_95 : Dq cX11_asks 95 (.aload_n 0) 1 96 := ⟨by decide +kernel, rfl⟩
theorem qX11_asks_96 : Dq cX11_asks 96 (.getfield 10) 3 99 := ⟨by decide +kernel, rfl⟩
theorem qX11_asks_99 : Dq cX11_asks 99 (.iload_n 2) 1 100 := ⟨by decide +kernel, rfl⟩
theorem qX11_asks_100 : Dq cX11_asks 100 (.invokevirtual 118) 3 103 := ⟨by decide +kernel, rfl⟩
theorem qX11_asks_103 : Dq cX11_asks 103 (.aload_n 0) 1 104 := ⟨by decide +kernel, rfl⟩
theorem qX11_asks_104 : Dq cX11_asks 104 (.aload 4) 2 106 := ⟨by decide +kernel, rfl⟩
theorem qX11_asks_106 : Dq cX11_asks 106 (.invokevirtual 145) 3 109 := ⟨by decide +kernel, rfl⟩
theorem qX11_asks_109 : Dq cX11_asks 109 (.invokestatic 155) 3 112 := ⟨by decide +kernel, rfl⟩
theorem qX11_asks_112 : Dq cX11_asks 112 (.ireturn) 1 113 := ⟨by decide +kernel, rfl⟩
theorem qX11_asks_113 : Dq cX11_asks 113 (.aload_n 0) 1 114 := ⟨by decide +kernel, rfl⟩
theorem qX11_asks_114 : Dq cX11_asks 114 (.getfield 10) 3 117 := ⟨by decide +kernel, rfl⟩
theorem qX11_asks_117 : Dq cX11_asks 117 (.iload_n 2) 1 118 := ⟨by decide +kernel, rfl⟩
theorem qX11_asks_118 : Dq cX11_asks 118 (.invokevirtual 118) 3 121 := ⟨by decide +kernel, rfl⟩
theorem qX11_asks_121 : Dq cX11_asks 121 (.aload_n 0) 1 122 := ⟨by decide +kernel, rfl⟩
theorem qX11_asks_122 : Dq cX11_asks 122 (.aload 4) 2 124 := ⟨by decide +kernel, rfl⟩
theorem qX11_asks_124 : Dq cX11_asks 124 (.invokevirtual 145) 3 127 := ⟨by decide +kernel, rfl⟩
theorem qX11_asks_127 : Dq cX11_asks 127 (.invokestatic 155) 3 130 := ⟨by decide +kernel, rfl⟩
theorem qX11_asks_130 : Dq cX11_asks 130 (.aload 4) 2 132 := ⟨by decide +kernel, rfl⟩
theorem qX11_asks_132 : Dq cX11_asks 132 (.invokestatic 149) 3 135 := ⟨by decide +kernel, rfl⟩
theorem qX11_asks_135 : Dq cX11_asks 135 (.invokestatic 158) 3 138 := ⟨by decide +kernel, rfl⟩
theorem qX11_asks_138 : Dq cX11_asks 138 (.ireturn) 1 139 := ⟨by decide +kernel, rfl⟩
set_option maxRecDepth 100000 in
set_option maxHeartbeats 4000000 in
theorem c_asks {G : Glb} {h : AHp} {E : Sst} (hc : CV h E) (l c w : Int32) : CP G m_X11_asks 6 0 0 [.ref 0, .int l, .int c, .int w] h (fun r h' => r = some (.int (asksI E l c w)) ∧ ∃ σ, h' = (σ, h.2) ∧ CV (σ, h.2) E ∧ K38 h σ) := by
  suffices key : ∀ P : Option Value → AHp → Prop, (∀ r h', (r = some (.int (asksI E l c w)) ∧ ∃ σ, h' = (σ, h.2) ∧ CV (σ, h.2) E ∧ K38 h σ) → P r h') → CP G m_X11_asks 6 0 0 [.ref 0, .int l, .int c, .int w] h P from key _ (fun _ _ z => z)
  intro P hP
  have hs := hc.sh
  have hru := hc.ru
  have hca := hc.ca
  have hbe := hc.be
  have hok := hc.ok
  obtain ⟨hrl, hrl5⟩ := hbe.rl hok.1
  rw [bv0 (by omega) (by omega)] at hrl5
  have hh3 := hbe.2.2.2.1
  rw [bv0 (by omega) (by omega)] at hh3
  obtain ⟨e, hp⟩ := hc.pt
  have hm6 := hp.2.1
  have hnu := hc.nu
  refine CP.of (by decide +kernel) (Nat.le_of_ble_eq_true rfl) fun X hX hR hnm => ?_
  show V X G 5 0 0 _ 0 [some (.ref 0), some (.int l), some (.int c), some (.int w), none] [] h
  refine v_aload_n hX rfl qX11_asks_0 ?_
  refine v_iload_n hX rfl qX11_asks_1 ?_
  refine v_callVq hX hR k_X11_141 (hs.kd 0 rfl) (c_lookerAt (by exact hs) (by exact hp) _) rfl (Nat.le_of_ble_eq_true rfl) rfl (Nat.le_of_ble_eq_true rfl) ⟨Nat.le_of_ble_eq_true rfl, Nat.le_of_ble_eq_true rfl⟩ qX11_asks_2 ?_
  rintro _ _ ⟨⟨j, hj, rfl, rfl⟩ | ⟨hn, rfl⟩, rfl⟩
  · have hjr : 0 ≤ nI j ∧ nI j < nI (sM E) := ⟨nI_pos' (by omega), nI_lt hj (by omega)⟩
    refine v_astore hX (Nat.le_of_ble_eq_true rfl) rfl (ls' := [some _, some _, some _, some _, some _]) rfl qX11_asks_5 ?_
    refine v_aload hX rfl qX11_asks_7 ?_
    refine v_ifnull hX qX11_asks_9 ?_
    refine v_iload_n hX rfl qX11_asks_12 ?_
    refine v_callSq hX hR k_X11_107 (c_isCell _) rfl (Nat.le_of_ble_eq_true rfl) rfl (Nat.le_of_ble_eq_true rfl) ⟨Nat.le_of_ble_eq_true rfl, Nat.le_of_ble_eq_true rfl⟩ qX11_asks_13 ?_
    rintro _ _ ⟨rfl, rfl⟩
    first | refine v_if_eqB hX 28 qX11_asks_16 rfl (fun q16 => ?_) (fun q16 => ?_) | refine v_if_eq hX 28 qX11_asks_16 rfl (fun q16 => ?_) (fun q16 => ?_)
    · skip
      refine v_bipush hX lb_n2 qX11_asks_28 ?_
      refine v_ireturn hX qX11_asks_30 (hP _ _ ?_)
      first | exact ⟨by rw [asksI, if_neg (fun z => hn z.1)], h.1, rfl, hc, fun a _ => rfl⟩ | exact ⟨by rw [asksI, if_neg (fun z => q16 z.2.1)], h.1, rfl, hc, fun a _ => rfl⟩ | exact ⟨by rw [asksI, if_neg (fun z => q25 z.2.2)], h.1, rfl, hc, fun a _ => rfl⟩
    · obtain ⟨q, hq, rfl⟩ := isC_ex q16
      refine v_iload_n hX rfl qX11_asks_19 ?_
      refine v_iconst hX li_0 qX11_asks_20 ?_
      refine v_iconst hX li_4 qX11_asks_21 ?_
      refine v_callSq hX hR k_X11_110 (c_isWithin _ _ _) rfl (Nat.le_of_ble_eq_true rfl) rfl (Nat.le_of_ble_eq_true rfl) ⟨Nat.le_of_ble_eq_true rfl, Nat.le_of_ble_eq_true rfl⟩ qX11_asks_22 ?_
      rintro _ _ ⟨rfl, rfl⟩
      first | refine v_if_neB hX 31 qX11_asks_25 rfl (fun q25 => ?_) (fun q25 => ?_) | refine v_if_ne hX 31 qX11_asks_25 rfl (fun q25 => ?_) (fun q25 => ?_)
      · skip
        refine v_aload_n hX rfl qX11_asks_31 ?_
        refine v_getR hX g_X11_38 (hs.kd 0 rfl) (hs.rf 5 rfl) qX11_asks_32 ?_
        refine v_aload_n hX rfl qX11_asks_35 ?_
        refine v_getR hX g_X11_10 (hs.kd 0 rfl) (hs.rf 0 rfl) qX11_asks_36 ?_
        refine v_iload_n hX rfl qX11_asks_39 ?_
        refine v_callVq hX hR k_X11_114 (hs.kd 17 rfl) (c_survey (by exact hs) (by exact hru) (by exact hca) (by exact (Or.inl rfl)) (by exact hq) (by exact hrl) (by exact hrl5) (by have := hbe.2.1 q hq; rw [bv2 hq] at this; exact this) (by exact hh3)) rfl (Nat.le_of_ble_eq_true rfl) rfl (Nat.le_of_ble_eq_true rfl) ⟨Nat.le_of_ble_eq_true rfl, Nat.le_of_ble_eq_true rfl⟩ qX11_asks_40 ?_
        rintro _ _ ⟨rfl, σ, rfl, hfv, hca2, d10, d11, d12⟩
        change σ 17 10 = dpI _ _ _ _ _ at d10
        rw [← dpB_eq (B := 1) hq, hc.b] at d10
        rw [← seB_eq (B := 1) hq, hc.b] at d11
        rw [← shB_eq (B := 1) hq, hc.b] at d12
        have hbv : bv (σ, h.2) 1 = sB E := (hfv.bv (Or.inl rfl)).trans hc.b
        have hcv := hc.p hfv.P hca2
        have hp2 : Pty (σ, h.2) (sM E) e (sK E) (sN E) := hp.frP hs hfv.P
        refine v_iload_n hX rfl qX11_asks_43 ?_
        refine v_case (0 : Int32) (fun q44 => ?_) (fun q44_0 => ?_)
        · skip
          refine v_tableIn (off := 32) hX 76 qX11_asks_44 (by first | exact (by rw [q44]; decide) | decide) (by first | exact (by rw [q44]; decide) | decide) (by first | exact (by rw [q44]; rfl) | rfl) rfl ?_
          refine v_aload_n hX rfl qX11_asks_76 ?_
          refine v_aload hX rfl qX11_asks_77 ?_
          refine v_callVq hX hR k_X11_145 (hs.kd 0 rfl) (c_goodHere (by exact hs) (by exact (hp2.2.2 j hj).2.1) (by exact (hp2.2.2 j hj).2.2.1) (by exact (hp2.2.2 j hj).2.2.2)) rfl (Nat.le_of_ble_eq_true rfl) rfl (Nat.le_of_ble_eq_true rfl) ⟨Nat.le_of_ble_eq_true rfl, Nat.le_of_ble_eq_true rfl⟩ qX11_asks_79 ?_
          rintro _ _ ⟨rfl, rfl⟩
          refine v_eqI (show (if σ 17 11 = 0 then bnd (fdR (sK E j) (sN E j) (σ 17 10) (σ 17 12)) 0 100 else 0) = goodB (sT E) (sB E) (sK E j) (sN E j) q by
            rw [d10, d11, d12, goodB]
            by_cases hse : seB (sT E) (sB E) q = 0
            · rw [bz_f (fun z => z hse), if_pos rfl, if_pos hse]
            · rw [bz_t hse, if_neg (show ¬ (1 : Int32) = 0 by decide), if_neg hse]) ?_
          refine v_ireturn hX qX11_asks_82 (hP _ _ ?_)
          exact ⟨by rw [asksI, if_pos (show (0 ≤ nI j ∧ nI j < nI (sM E)) ∧ isC (nI q) ∧ (0 ≤ w ∧ w ≤ 4) from ⟨hjr, isCn hq, q25⟩), tn_nI (show j < 2000000 by omega), tn_nI (show q < 2000000 by omega), if_pos q44], σ, rfl, hcv, hfv.P.k⟩
        refine v_case (1 : Int32) (fun q44 => ?_) (fun q44_1 => ?_)
        · skip
          refine v_tableIn (off := 39) hX 83 qX11_asks_44 (by first | exact (by rw [q44]; decide) | decide) (by first | exact (by rw [q44]; decide) | decide) (by first | exact (by rw [q44]; rfl) | rfl) rfl ?_
          refine v_aload hX rfl qX11_asks_83 ?_
          refine v_callSq hX hR k_X11_149 (c_takesOf (by exact hs) (by exact (hp2.2.2 j hj).2.1) (by exact (hp2.2.2 j hj).2.2.1) (by exact (hp2.2.2 j hj).2.2.2)) rfl (Nat.le_of_ble_eq_true rfl) rfl (Nat.le_of_ble_eq_true rfl) ⟨Nat.le_of_ble_eq_true rfl, Nat.le_of_ble_eq_true rfl⟩ qX11_asks_85 ?_
          rintro _ _ ⟨rfl, rfl⟩
          refine v_ireturn hX qX11_asks_88 (hP _ _ ?_)
          exact ⟨by rw [asksI, if_pos (show (0 ≤ nI j ∧ nI j < nI (sM E)) ∧ isC (nI q) ∧ (0 ≤ w ∧ w ≤ 4) from ⟨hjr, isCn hq, q25⟩), tn_nI (show j < 2000000 by omega), tn_nI (show q < 2000000 by omega), if_neg (by rw [q44]; decide), if_pos q44]; rfl, σ, rfl, hcv, hfv.P.k⟩
        refine v_case (2 : Int32) (fun q44 => ?_) (fun q44_2 => ?_)
        · skip
          refine v_tableIn (off := 45) hX 89 qX11_asks_44 (by first | exact (by rw [q44]; decide) | decide) (by first | exact (by rw [q44]; decide) | decide) (by first | exact (by rw [q44]; rfl) | rfl) rfl ?_
          refine v_aload hX rfl qX11_asks_89 ?_
          refine v_callSq hX hR k_X11_152 (c_stampsOf (by exact hs) (by exact (hp2.2.2 j hj).2.1) (by exact (hp2.2.2 j hj).2.2.1) (by exact (hp2.2.2 j hj).2.2.2)) rfl (Nat.le_of_ble_eq_true rfl) rfl (Nat.le_of_ble_eq_true rfl) ⟨Nat.le_of_ble_eq_true rfl, Nat.le_of_ble_eq_true rfl⟩ qX11_asks_91 ?_
          rintro _ _ ⟨rfl, rfl⟩
          refine v_ireturn hX qX11_asks_94 (hP _ _ ?_)
          exact ⟨by rw [asksI, if_pos (show (0 ≤ nI j ∧ nI j < nI (sM E)) ∧ isC (nI q) ∧ (0 ≤ w ∧ w ≤ 4) from ⟨hjr, isCn hq, q25⟩), tn_nI (show j < 2000000 by omega), tn_nI (show q < 2000000 by omega), if_neg (by rw [q44]; decide), if_neg (by rw [q44]; decide), if_pos q44]; rfl, σ, rfl, hcv, hfv.P.k⟩
        refine v_case (3 : Int32) (fun q44 => ?_) (fun q44_3 => ?_)
        · skip
          refine v_tableIn (off := 51) hX 95 qX11_asks_44 (by first | exact (by rw [q44]; decide) | decide) (by first | exact (by rw [q44]; decide) | decide) (by first | exact (by rw [q44]; rfl) | rfl) rfl ?_
          refine v_aload_n hX rfl qX11_asks_95 ?_
          refine v_getR hX g_X11_10 (hs.kd 0 rfl) (hs.rf 0 rfl) qX11_asks_96 ?_
          refine v_iload_n hX rfl qX11_asks_99 ?_
          refine v_callVq hX hR k_X11_118 (hs.kd 1 rfl) (c_oddsAt (by exact hs) (by exact (Or.inl rfl)) _) rfl (Nat.le_of_ble_eq_true rfl) rfl (Nat.le_of_ble_eq_true rfl) ⟨Nat.le_of_ble_eq_true rfl, Nat.le_of_ble_eq_true rfl⟩ qX11_asks_100 ?_
          rintro _ _ ⟨rfl, rfl⟩
          refine v_eqI (show _ = sB E 1 q by rw [oddsA_n hq, hbv]) ?_
          refine v_aload_n hX rfl qX11_asks_103 ?_
          refine v_aload hX rfl qX11_asks_104 ?_
          refine v_callVq hX hR k_X11_145 (hs.kd 0 rfl) (c_goodHere (by exact hs) (by exact (hp2.2.2 j hj).2.1) (by exact (hp2.2.2 j hj).2.2.1) (by exact (hp2.2.2 j hj).2.2.2)) rfl (Nat.le_of_ble_eq_true rfl) rfl (Nat.le_of_ble_eq_true rfl) ⟨Nat.le_of_ble_eq_true rfl, Nat.le_of_ble_eq_true rfl⟩ qX11_asks_106 ?_
          rintro _ _ ⟨rfl, rfl⟩
          refine v_eqI (show (if σ 17 11 = 0 then bnd (fdR (sK E j) (sN E j) (σ 17 10) (σ 17 12)) 0 100 else 0) = goodB (sT E) (sB E) (sK E j) (sN E j) q by
            rw [d10, d11, d12, goodB]
            by_cases hse : seB (sT E) (sB E) q = 0
            · rw [bz_f (fun z => z hse), if_pos rfl, if_pos hse]
            · rw [bz_t hse, if_neg (show ¬ (1 : Int32) = 0 by decide), if_neg hse]) ?_
          refine v_callSq hX hR k_X11_155 (c_gainOf _ _) rfl (Nat.le_of_ble_eq_true rfl) rfl (Nat.le_of_ble_eq_true rfl) ⟨Nat.le_of_ble_eq_true rfl, Nat.le_of_ble_eq_true rfl⟩ qX11_asks_109 ?_
          rintro _ _ ⟨rfl, rfl⟩
          refine v_ireturn hX qX11_asks_112 (hP _ _ ?_)
          exact ⟨by rw [asksI, if_pos (show (0 ≤ nI j ∧ nI j < nI (sM E)) ∧ isC (nI q) ∧ (0 ≤ w ∧ w ≤ 4) from ⟨hjr, isCn hq, q25⟩), tn_nI (show j < 2000000 by omega), tn_nI (show q < 2000000 by omega), if_neg (by rw [q44]; decide), if_neg (by rw [q44]; decide), if_neg (by rw [q44]; decide), if_pos q44]; rfl, σ, rfl, hcv, hfv.P.k⟩
        refine v_tableOut hX 113 qX11_asks_44 ?_ rfl ?_
        · have z0 := ne_i (0) (by decide) q44_0; have z1 := ne_i (1) (by decide) q44_1; have z2 := ne_i (2) (by decide) q44_2; have z3 := ne_i (3) (by decide) q44_3; omega
        refine v_aload_n hX rfl qX11_asks_113 ?_
        refine v_getR hX g_X11_10 (hs.kd 0 rfl) (hs.rf 0 rfl) qX11_asks_114 ?_
        refine v_iload_n hX rfl qX11_asks_117 ?_
        refine v_callVq hX hR k_X11_118 (hs.kd 1 rfl) (c_oddsAt (by exact hs) (by exact (Or.inl rfl)) _) rfl (Nat.le_of_ble_eq_true rfl) rfl (Nat.le_of_ble_eq_true rfl) ⟨Nat.le_of_ble_eq_true rfl, Nat.le_of_ble_eq_true rfl⟩ qX11_asks_118 ?_
        rintro _ _ ⟨rfl, rfl⟩
        refine v_eqI (show _ = sB E 1 q by rw [oddsA_n hq, hbv]) ?_
        refine v_aload_n hX rfl qX11_asks_121 ?_
        refine v_aload hX rfl qX11_asks_122 ?_
        refine v_callVq hX hR k_X11_145 (hs.kd 0 rfl) (c_goodHere (by exact hs) (by exact (hp2.2.2 j hj).2.1) (by exact (hp2.2.2 j hj).2.2.1) (by exact (hp2.2.2 j hj).2.2.2)) rfl (Nat.le_of_ble_eq_true rfl) rfl (Nat.le_of_ble_eq_true rfl) ⟨Nat.le_of_ble_eq_true rfl, Nat.le_of_ble_eq_true rfl⟩ qX11_asks_124 ?_
        rintro _ _ ⟨rfl, rfl⟩
        refine v_eqI (show (if σ 17 11 = 0 then bnd (fdR (sK E j) (sN E j) (σ 17 10) (σ 17 12)) 0 100 else 0) = goodB (sT E) (sB E) (sK E j) (sN E j) q by
          rw [d10, d11, d12, goodB]
          by_cases hse : seB (sT E) (sB E) q = 0
          · rw [bz_f (fun z => z hse), if_pos rfl, if_pos hse]
          · rw [bz_t hse, if_neg (show ¬ (1 : Int32) = 0 by decide), if_neg hse]) ?_
        refine v_callSq hX hR k_X11_155 (c_gainOf _ _) rfl (Nat.le_of_ble_eq_true rfl) rfl (Nat.le_of_ble_eq_true rfl) ⟨Nat.le_of_ble_eq_true rfl, Nat.le_of_ble_eq_true rfl⟩ qX11_asks_127 ?_
        rintro _ _ ⟨rfl, rfl⟩
        refine v_aload hX rfl qX11_asks_130 ?_
        refine v_callSq hX hR k_X11_149 (c_takesOf (by exact hs) (by exact (hp2.2.2 j hj).2.1) (by exact (hp2.2.2 j hj).2.2.1) (by exact (hp2.2.2 j hj).2.2.2)) rfl (Nat.le_of_ble_eq_true rfl) rfl (Nat.le_of_ble_eq_true rfl) ⟨Nat.le_of_ble_eq_true rfl, Nat.le_of_ble_eq_true rfl⟩ qX11_asks_132 ?_
        rintro _ _ ⟨rfl, rfl⟩
        refine v_callSq hX hR k_X11_158 (c_rateOf _ _) rfl (Nat.le_of_ble_eq_true rfl) rfl (Nat.le_of_ble_eq_true rfl) ⟨Nat.le_of_ble_eq_true rfl, Nat.le_of_ble_eq_true rfl⟩ qX11_asks_135 ?_
        rintro _ _ ⟨rfl, rfl⟩
        refine v_ireturn hX qX11_asks_138 (hP _ _ ?_)
        exact ⟨by rw [asksI, if_pos (show (0 ≤ nI j ∧ nI j < nI (sM E)) ∧ isC (nI q) ∧ (0 ≤ w ∧ w ≤ 4) from ⟨hjr, isCn hq, q25⟩), tn_nI (show j < 2000000 by omega), tn_nI (show q < 2000000 by omega), if_neg q44_0, if_neg q44_1, if_neg q44_2, if_neg q44_3]; rfl, σ, rfl, hcv, hfv.P.k⟩
      · skip
        refine v_bipush hX lb_n2 qX11_asks_28 ?_
        refine v_ireturn hX qX11_asks_30 (hP _ _ ?_)
        first | exact ⟨by rw [asksI, if_neg (fun z => hn z.1)], h.1, rfl, hc, fun a _ => rfl⟩ | exact ⟨by rw [asksI, if_neg (fun z => q16 z.2.1)], h.1, rfl, hc, fun a _ => rfl⟩ | exact ⟨by rw [asksI, if_neg (fun z => q25 z.2.2)], h.1, rfl, hc, fun a _ => rfl⟩
  · skip
    refine v_astoreN hX (Nat.le_of_ble_eq_true rfl) rfl (ls' := [some _, some _, some _, some _, some _]) rfl qX11_asks_5 ?_
    refine v_aloadN hX rfl qX11_asks_7 ?_
    refine v_ifnullN hX 28 qX11_asks_9 rfl ?_
    refine v_bipush hX lb_n2 qX11_asks_28 ?_
    refine v_ireturn hX qX11_asks_30 (hP _ _ ?_)
    first | exact ⟨by rw [asksI, if_neg (fun z => hn z.1)], h.1, rfl, hc, fun a _ => rfl⟩ | exact ⟨by rw [asksI, if_neg (fun z => q16 z.2.1)], h.1, rfl, hc, fun a _ => rfl⟩ | exact ⟨by rw [asksI, if_neg (fun z => q25 z.2.2)], h.1, rfl, hc, fun a _ => rfl⟩
theorem qX11_force_0 : Dq cX11_force 0 (.aload_n 0) 1 1 := ⟨by decide +kernel, rfl⟩
theorem qX11_force_1 : Dq cX11_force 1 (.getfield 38) 3 4 := ⟨by decide +kernel, rfl⟩
theorem qX11_force_4 : Dq cX11_force 4 (.iload_n 1) 1 5 := ⟨by decide +kernel, rfl⟩
theorem qX11_force_5 : Dq cX11_force 5 (.invokevirtual 171) 3 8 := ⟨by decide +kernel, rfl⟩
theorem qX11_force_8 : Dq cX11_force 8 (.ifCond .ne 6) 3 11 := ⟨by decide +kernel, rfl⟩
theorem qX11_force_11 : Dq cX11_force 11 (.bipush (-2)) 2 13 := ⟨by decide +kernel, rfl⟩
theorem qX11_force_13 : Dq cX11_force 13 (.ireturn) 1 14 := ⟨by decide +kernel, rfl⟩
theorem qX11_force_14 : Dq cX11_force 14 (.aload_n 0) 1 15 := ⟨by decide +kernel, rfl⟩
theorem qX11_force_15 : Dq cX11_force 15 (.getfield 10) 3 18 := ⟨by decide +kernel, rfl⟩
theorem qX11_force_18 : Dq cX11_force 18 (.getfield 174) 3 21 := ⟨by decide +kernel, rfl⟩
theorem qX11_force_21 : Dq cX11_force 21 (.istore_n 2) 1 22 := ⟨by decide +kernel, rfl⟩
theorem qX11_force_22 : Dq cX11_force 22 (.aload_n 0) 1 23 := ⟨by decide +kernel, rfl⟩
theorem qX11_force_23 : Dq cX11_force 23 (.getfield 10) 3 26 := ⟨by decide +kernel, rfl⟩
theorem qX11_force_26 : Dq cX11_force 26 (.iload_n 1) 1 27 := ⟨by decide +kernel, rfl⟩
theorem qX11_force_27 : Dq cX11_force 27 (.putfield 174) 3 30 := ⟨by decide +kernel, rfl⟩
theorem qX11_force_30 : Dq cX11_force 30 (.iload_n 2) 1 31 := ⟨by decide +kernel, rfl⟩
theorem qX11_force_31 : Dq cX11_force 31 (.ireturn) 1 32 := ⟨by decide +kernel, rfl⟩
set_option maxRecDepth 100000 in
set_option maxHeartbeats 4000000 in
theorem c_force {G : Glb} {h : AHp} {E : Sst} (hc : CV h E) (t : Int32) : CP G m_X11_force 4 0 0 [.ref 0, .int t] h (fun r h' => r = some (.int (forceI E t).1) ∧ ∃ σ, h' = (σ, h.2) ∧ CV (σ, h.2) (setB E (forceI E t).2) ∧ K38 h σ) := by
  suffices key : ∀ P : Option Value → AHp → Prop, (∀ r h', (r = some (.int (forceI E t).1) ∧ ∃ σ, h' = (σ, h.2) ∧ CV (σ, h.2) (setB E (forceI E t).2) ∧ K38 h σ) → P r h') → CP G m_X11_force 4 0 0 [.ref 0, .int t] h P from key _ (fun _ _ z => z)
  intro P hP
  have hs := hc.sh
  have hru := hc.ru
  have hca := hc.ca
  have hbe := hc.be
  have hok := hc.ok
  obtain ⟨hrl, hrl5⟩ := hbe.rl hok.1
  rw [bv0 (by omega) (by omega)] at hrl5
  have hh3 := hbe.2.2.2.1
  rw [bv0 (by omega) (by omega)] at hh3
  refine CP.of (by decide +kernel) (Nat.le_of_ble_eq_true rfl) fun X hX hR hnm => ?_
  show V X G 3 0 0 _ 0 [some (.ref 0), some (.int t), none] [] h
  refine v_aload_n hX rfl qX11_force_0 ?_
  refine v_getR hX g_X11_38 (hs.kd 0 rfl) (hs.rf 5 rfl) qX11_force_1 ?_
  refine v_iload_n hX rfl qX11_force_4 ?_
  refine v_callVq hX hR k_X11_171 (hs.kd 17 rfl) (c_hasText (by exact hs) (by exact hru.1) (by exact hru.2.1) _) rfl (Nat.le_of_ble_eq_true rfl) rfl (Nat.le_of_ble_eq_true rfl) ⟨Nat.le_of_ble_eq_true rfl, Nat.le_of_ble_eq_true rfl⟩ qX11_force_5 ?_
  rintro _ _ ⟨rfl, rfl⟩
  first | refine v_if_neB hX 14 qX11_force_8 rfl (fun q8 => ?_) (fun q8 => ?_) | refine v_if_ne hX 14 qX11_force_8 rfl (fun q8 => ?_) (fun q8 => ?_)
  · skip
    refine v_aload_n hX rfl qX11_force_14 ?_
    refine v_getR hX g_X11_10 (hs.kd 0 rfl) (hs.rf 0 rfl) qX11_force_15 ?_
    refine v_getI hX g_X11_174 (Or.inl rfl) (hs.kd 1 rfl) qX11_force_18 ?_
    refine v_istore_n hX (Nat.le_of_ble_eq_true rfl) rfl (ls' := [some _, some _, some _]) rfl qX11_force_21 ?_
    refine v_aload_n hX rfl qX11_force_22 ?_
    refine v_getR hX g_X11_10 (hs.kd 0 rfl) (hs.rf 0 rfl) qX11_force_23 ?_
    refine v_iload_n hX rfl qX11_force_26 ?_
    refine v_putI hX p_X11_174 (hs.kd 1 rfl) (Or.inl rfl) qX11_force_27 ?_
    refine v_iload_n hX rfl qX11_force_30 ?_
    refine v_ireturn hX qX11_force_31 (hP _ _ ?_)
    rw [forceI, if_pos q8]
    obtain ⟨w, hw, ew⟩ := ofRange q8.1 q8.2 (by have := hok.1; omega)
    exact ⟨by rw [← hc.b, bv0 (by omega) (by omega)], _, rfl, hc.up1 (i := 0) (k := 5) (v := t) (Or.inr ⟨rfl, by omega, by omega⟩) (hok.2.2.2.1.f (Or.inr (Or.inr (Or.inr ⟨rfl, w, hw, ew⟩)))), fun a ha => funext fun k => by show hpI (stI _ _ _ _) _ _ = _; rw [hpI_st, if_neg (by omega)]⟩
  · skip
    refine v_bipush hX lb_n2 qX11_force_11 ?_
    refine v_ireturn hX qX11_force_13 (hP _ _ ?_)
    rw [forceI, if_neg q8]
    exact ⟨rfl, h.1, rfl, hc, fun a _ => rfl⟩
theorem qX11_look_0 : Dq cX11_look 0 (.aload_n 0) 1 1 := ⟨by decide +kernel, rfl⟩
theorem qX11_look_1 : Dq cX11_look 1 (.iload_n 1) 1 2 := ⟨by decide +kernel, rfl⟩
theorem qX11_look_2 : Dq cX11_look 2 (.invokevirtual 141) 3 5 := ⟨by decide +kernel, rfl⟩
theorem qX11_look_5 : Dq cX11_look 5 (.astore_n 3) 1 6 := ⟨by decide +kernel, rfl⟩
theorem qX11_look_6 : Dq cX11_look 6 (.aload_n 3) 1 7 := ⟨by decide +kernel, rfl⟩
theorem qX11_look_7 : Dq cX11_look 7 (.ifnull 10) 3 10 := ⟨by decide +kernel, rfl⟩
theorem qX11_look_10 : Dq cX11_look 10 (.iload_n 2) 1 11 := ⟨by decide +kernel, rfl⟩
theorem qX11_look_11 : Dq cX11_look 11 (.invokestatic 107) 3 14 := ⟨by decide +kernel, rfl⟩
theorem qX11_look_14 : Dq cX11_look 14 (.ifCond .ne 6) 3 17 := ⟨by decide +kernel, rfl⟩
theorem qX11_look_17 : Dq cX11_look 17 (.bipush (-2)) 2 19 := ⟨by decide +kernel, rfl⟩
theorem qX11_look_19 : Dq cX11_look 19 (.ireturn) 1 20 := ⟨by decide +kernel, rfl⟩
theorem qX11_look_20 : Dq cX11_look 20 (.aload_n 0) 1 21 := ⟨by decide +kernel, rfl⟩
theorem qX11_look_21 : Dq cX11_look 21 (.aload_n 0) 1 22 := ⟨by decide +kernel, rfl⟩
theorem qX11_look_22 : Dq cX11_look 22 (.getfield 10) 3 25 := ⟨by decide +kernel, rfl⟩
theorem qX11_look_25 : Dq cX11_look 25 (.aload_n 3) 1 26 := ⟨by decide +kernel, rfl⟩
theorem qX11_look_26 : Dq cX11_look 26 (.iload_n 2) 1 27 := ⟨by decide +kernel, rfl⟩
theorem qX11_look_27 : Dq cX11_look 27 (.invokevirtual 177) 3 30 := ⟨by decide +kernel, rfl⟩
theorem qX11_look_30 : Dq cX11_look 30 (.bipush (-3)) 2 32 := ⟨by decide +kernel, rfl⟩
theorem qX11_look_32 : Dq cX11_look 32 (.if_icmp .ne 8) 3 35 := ⟨by decide +kernel, rfl⟩
theorem qX11_look_35 : Dq cX11_look 35 (.bipush (-3)) 2 37 := ⟨by decide +kernel, rfl⟩
theorem qX11_look_37 : Dq cX11_look 37 (.goto 11) 3 40 := ⟨by decide +kernel, rfl⟩
theorem qX11_look_40 : Dq cX11_look 40 (.aload_n 0) 1 41 := ⟨by decide +kernel, rfl⟩
theorem qX11_look_41 : Dq cX11_look 41 (.getfield 10) 3 44 := ⟨by decide +kernel, rfl⟩
theorem qX11_look_44 : Dq cX11_look 44 (.iload_n 2) 1 45 := ⟨by decide +kernel, rfl⟩
theorem qX11_look_45 : Dq cX11_look 45 (.invokevirtual 118) 3 48 := ⟨by decide +kernel, rfl⟩
theorem qX11_look_48 : Dq cX11_look 48 (.ireturn) 1 49 := ⟨by decide +kernel, rfl⟩
set_option maxRecDepth 100000 in
set_option maxHeartbeats 4000000 in
theorem c_look {G : Glb} {h : AHp} {E : Sst} (hc : CV h E) (l c : Int32) : CP G m_X11_look 7 0 0 [.ref 0, .int l, .int c] h (fun r h' => r = some (.int (lookI E l c).1) ∧ ∃ σ, h' = (σ, h.2) ∧ CV (σ, h.2) (setB E (lookI E l c).2) ∧ K38 h σ) := by
  suffices key : ∀ P : Option Value → AHp → Prop, (∀ r h', (r = some (.int (lookI E l c).1) ∧ ∃ σ, h' = (σ, h.2) ∧ CV (σ, h.2) (setB E (lookI E l c).2) ∧ K38 h σ) → P r h') → CP G m_X11_look 7 0 0 [.ref 0, .int l, .int c] h P from key _ (fun _ _ z => z)
  intro P hP
  have hs := hc.sh
  have hru := hc.ru
  have hca := hc.ca
  have hbe := hc.be
  have hok := hc.ok
  obtain ⟨hrl, hrl5⟩ := hbe.rl hok.1
  rw [bv0 (by omega) (by omega)] at hrl5
  have hh3 := hbe.2.2.2.1
  rw [bv0 (by omega) (by omega)] at hh3
  obtain ⟨e, hp⟩ := hc.pt
  have hm6 := hp.2.1
  have hnu := hc.nu
  refine CP.of (by decide +kernel) (Nat.le_of_ble_eq_true rfl) fun X hX hR hnm => ?_
  show V X G 4 0 0 _ 0 [some (.ref 0), some (.int l), some (.int c), none] [] h
  refine v_aload_n hX rfl qX11_look_0 ?_
  refine v_iload_n hX rfl qX11_look_1 ?_
  refine v_callVq hX hR k_X11_141 (hs.kd 0 rfl) (c_lookerAt (by exact hs) (by exact hp) _) rfl (Nat.le_of_ble_eq_true rfl) rfl (Nat.le_of_ble_eq_true rfl) ⟨Nat.le_of_ble_eq_true rfl, Nat.le_of_ble_eq_true rfl⟩ qX11_look_2 ?_
  rintro _ _ ⟨⟨j, hj, rfl, rfl⟩ | ⟨hn, rfl⟩, rfl⟩
  · have hjr : 0 ≤ nI j ∧ nI j < nI (sM E) := ⟨nI_pos' (by omega), nI_lt hj (by omega)⟩
    refine v_astore_n hX (Nat.le_of_ble_eq_true rfl) rfl (ls' := [some _, some _, some _, some _]) rfl qX11_look_5 ?_
    refine v_aload_n hX rfl qX11_look_6 ?_
    refine v_ifnull hX qX11_look_7 ?_
    refine v_iload_n hX rfl qX11_look_10 ?_
    refine v_callSq hX hR k_X11_107 (c_isCell _) rfl (Nat.le_of_ble_eq_true rfl) rfl (Nat.le_of_ble_eq_true rfl) ⟨Nat.le_of_ble_eq_true rfl, Nat.le_of_ble_eq_true rfl⟩ qX11_look_11 ?_
    rintro _ _ ⟨rfl, rfl⟩
    first | refine v_if_neB hX 20 qX11_look_14 rfl (fun q14 => ?_) (fun q14 => ?_) | refine v_if_ne hX 20 qX11_look_14 rfl (fun q14 => ?_) (fun q14 => ?_)
    · obtain ⟨q, hq, rfl⟩ := isC_ex q14
      refine v_aload_n hX rfl qX11_look_20 ?_
      refine v_aload_n hX rfl qX11_look_21 ?_
      refine v_getR hX g_X11_10 (hs.kd 0 rfl) (hs.rf 0 rfl) qX11_look_22 ?_
      refine v_aload_n hX rfl qX11_look_25 ?_
      refine v_iload_n hX rfl qX11_look_26 ?_
      refine v_callVq hX hR k_X11_177 (hs.kd 0 rfl) (c_gainByLook (by exact hs) (by exact hru) (by exact hca) (by exact (Or.inl rfl)) (by exact hbe) (by exact hq) (by exact (hp.2.2 j hj).2.1) (by exact (hp.2.2 j hj).2.2.1) (by exact (hp.2.2 j hj).2.2.2) (by exact (eye38 hs (hp.2.2 j hj).2.2.1))) rfl (Nat.le_of_ble_eq_true rfl) rfl (Nat.le_of_ble_eq_true rfl) ⟨Nat.le_of_ble_eq_true rfl, Nat.le_of_ble_eq_true rfl⟩ qX11_look_27 ?_
      rintro _ _ (⟨hse, rfl, σ, rfl, hfv, hca2⟩ | ⟨hse, rfl, σ, rfl, hf3, hca3, hb3⟩)
      · rw [hc.b] at hse
        refine v_bipush hX lb_n3 qX11_look_30 ?_
        refine v_icmp_ne hX 40 qX11_look_32 rfl (fun q32 => ?_) (fun q32 => ?_)
        · exact absurd rfl q32
        · skip
          refine v_bipush hX lb_n3 qX11_look_35 ?_
          refine v_goto hX 48 qX11_look_37 rfl ?_
          refine v_ireturn hX qX11_look_48 (hP _ _ ?_)
          rw [lookI, if_pos ⟨hjr, isCn hq⟩, tn_nI (show j < 2000000 by omega), tn_nI (show q < 2000000 by omega), if_neg hse]
          exact ⟨rfl, σ, rfl, hc.p hfv.P hca2, hfv.P.k⟩
      · have hgi := gainB_in (sT E) hbe (sK E j) (sN E j) hq
        rw [hc.b] at hse hb3
        refine v_bipush hX lb_n3 qX11_look_30 ?_
        refine v_icmp_ne hX 40 qX11_look_32 rfl (fun q32 => ?_) (fun q32 => ?_)
        · skip
          refine v_aload_n hX rfl qX11_look_40 ?_
          refine v_getR hX g_X11_10 (hs.kd 0 rfl) (hs.rf 0 rfl) qX11_look_41 ?_
          refine v_iload_n hX rfl qX11_look_44 ?_
          refine v_callVq hX hR k_X11_118 (hs.kd 1 rfl) (c_oddsAt (by exact hs) (by exact (Or.inl rfl)) _) rfl (Nat.le_of_ble_eq_true rfl) rfl (Nat.le_of_ble_eq_true rfl) ⟨Nat.le_of_ble_eq_true rfl, Nat.le_of_ble_eq_true rfl⟩ qX11_look_45 ?_
          rintro _ _ ⟨rfl, rfl⟩
          refine v_ireturn hX qX11_look_48 (hP _ _ ?_)
          rw [lookI, if_pos ⟨hjr, isCn hq⟩, tn_nI (show j < 2000000 by omega), tn_nI (show q < 2000000 by omega), if_pos hse]
          exact ⟨by rw [oddsA_n hq, hb3], σ, rfl, hc.q hf3.q1 hca3 hb3 (lookB_ok hok.2.2.2.1 (hnu j hj)), hf3.q1.k⟩
        · exact absurd (congrArg Int32.toInt q32) (by have e3 : (-3 : Int32).toInt = -3 := rfl; have := hgi.1; omega)
    · skip
      refine v_bipush hX lb_n2 qX11_look_17 ?_
      refine v_ireturn hX qX11_look_19 (hP _ _ ?_)
      first | (rw [lookI, if_neg (fun z => hn z.1)]; exact ⟨rfl, h.1, rfl, hc, fun a _ => rfl⟩) | (rw [lookI, if_neg (fun z => q14 z.2)]; exact ⟨rfl, h.1, rfl, hc, fun a _ => rfl⟩)
  · skip
    refine v_astore_nN hX (Nat.le_of_ble_eq_true rfl) rfl (ls' := [some _, some _, some _, some _]) rfl qX11_look_5 ?_
    refine v_aload_nN hX rfl qX11_look_6 ?_
    refine v_ifnullN hX 17 qX11_look_7 rfl ?_
    refine v_bipush hX lb_n2 qX11_look_17 ?_
    refine v_ireturn hX qX11_look_19 (hP _ _ ?_)
    first | (rw [lookI, if_neg (fun z => hn z.1)]; exact ⟨rfl, h.1, rfl, hc, fun a _ => rfl⟩) | (rw [lookI, if_neg (fun z => q14 z.2)]; exact ⟨rfl, h.1, rfl, hc, fun a _ => rfl⟩)
theorem qX11_next_0 : Dq cX11_next 0 (.iload_n 1) 1 1 := ⟨by decide +kernel, rfl⟩
theorem qX11_next_1 : Dq cX11_next 1 (.iconst 0) 1 2 := ⟨by decide +kernel, rfl⟩
theorem qX11_next_2 : Dq cX11_next 2 (.iconst 2) 1 3 := ⟨by decide +kernel, rfl⟩
theorem qX11_next_3 : Dq cX11_next 3 (.invokestatic 110) 3 6 := ⟨by decide +kernel, rfl⟩
theorem qX11_next_6 : Dq cX11_next 6 (.ifCond .ne 6) 3 9 := ⟨by decide +kernel, rfl⟩
theorem qX11_next_9 : Dq cX11_next 9 (.bipush (-2)) 2 11 := ⟨by decide +kernel, rfl⟩
theorem qX11_next_11 : Dq cX11_next 11 (.ireturn) 1 12 := ⟨by decide +kernel, rfl⟩
theorem qX11_next_12 : Dq cX11_next 12 (.aload_n 0) 1 13 := ⟨by decide +kernel, rfl⟩
theorem qX11_next_13 : Dq cX11_next 13 (.aload_n 0) 1 14 := ⟨by decide +kernel, rfl⟩
theorem qX11_next_14 : Dq cX11_next 14 (.getfield 10) 3 17 := ⟨by decide +kernel, rfl⟩
theorem qX11_next_17 : Dq cX11_next 17 (.invokevirtual 181) 3 20 := ⟨by decide +kernel, rfl⟩
theorem qX11_next_20 : Dq cX11_next 20 (.ifCond .ne 5) 3 23 := ⟨by decide +kernel, rfl⟩
theorem qX11_next_23 : Dq cX11_next 23 (.iconst (-1)) 1 24 := ⟨by decide +kernel, rfl⟩
theorem qX11_next_24 : Dq cX11_next 24 (.ireturn) 1 25 := ⟨by decide +kernel, rfl⟩
theorem qX11_next_25 : Dq cX11_next 25 (.iload_n 1) 1 26 := ⟨by decide +kernel, rfl⟩
theorem qX11_next_26 : Dq cX11_next 26 (.lookupswitch 36 #[(0, 26), (1, 31)]) 26 52 := ⟨by decide +kernel, rfl⟩
theorem qX11_next_52 : Dq cX11_next 52 (.aload_n 0) 1 53 := ⟨by decide +kernel, rfl⟩
theorem qX11_next_53 : Dq cX11_next 53 (.getfield 55) 3 56 := ⟨by decide +kernel, rfl⟩
theorem qX11_next_56 : Dq cX11_next 56 (.ireturn) 1 57 := ⟨by decide +kernel, rfl⟩
theorem qX11_next_57 : Dq cX11_next 57 (.aload_n 0) 1 58 := ⟨by decide +kernel, rfl⟩
theorem qX11_next_58 : Dq cX11_next 58 (.getfield 59) 3 61 := ⟨by decide +kernel, rfl⟩
theorem qX11_next_61 : Dq cX11_next 61 (.ireturn) 1 62 := ⟨by decide +kernel, rfl⟩
theorem qX11_next_62 : Dq cX11_next 62 (.aload_n 0) 1 63 := ⟨by decide +kernel, rfl⟩
theorem qX11_next_63 : Dq cX11_next 63 (.getfield 185) 3 66 := ⟨by decide +kernel, rfl⟩
theorem qX11_next_66 : Dq cX11_next 66 (.ireturn) 1 67 := ⟨by decide +kernel, rfl⟩
set_option maxRecDepth 100000 in
set_option maxHeartbeats 4000000 in
theorem c_next {G : Glb} {h : AHp} {E : Sst} (hc : CV h E) (w : Int32) : CP G m_X11_next 7 0 0 [.ref 0, .int w] h (fun r h' => r = some (.int (nextI E w)) ∧ ∃ σ, h' = (σ, h.2) ∧ CV (σ, h.2) E ∧ K38 h σ) := by
  suffices key : ∀ P : Option Value → AHp → Prop, (∀ r h', (r = some (.int (nextI E w)) ∧ ∃ σ, h' = (σ, h.2) ∧ CV (σ, h.2) E ∧ K38 h σ) → P r h') → CP G m_X11_next 7 0 0 [.ref 0, .int w] h P from key _ (fun _ _ z => z)
  intro P hP
  have hs := hc.sh
  have hru := hc.ru
  have hca := hc.ca
  have hbe := hc.be
  have hok := hc.ok
  obtain ⟨hrl, hrl5⟩ := hbe.rl hok.1
  rw [bv0 (by omega) (by omega)] at hrl5
  have hh3 := hbe.2.2.2.1
  rw [bv0 (by omega) (by omega)] at hh3
  obtain ⟨e, hp⟩ := hc.pt
  have hm6 := hp.2.1
  have hnu := hc.nu
  refine CP.of (by decide +kernel) (Nat.le_of_ble_eq_true rfl) fun X hX hR hnm => ?_
  show V X G 2 0 0 _ 0 [some (.ref 0), some (.int w)] [] h
  refine v_iload_n hX rfl qX11_next_0 ?_
  refine v_iconst hX li_0 qX11_next_1 ?_
  refine v_iconst hX li_2 qX11_next_2 ?_
  refine v_callSq hX hR k_X11_110 (c_isWithin _ _ _) rfl (Nat.le_of_ble_eq_true rfl) rfl (Nat.le_of_ble_eq_true rfl) ⟨Nat.le_of_ble_eq_true rfl, Nat.le_of_ble_eq_true rfl⟩ qX11_next_3 ?_
  rintro _ _ ⟨rfl, rfl⟩
  first | refine v_if_neB hX 12 qX11_next_6 rfl (fun q6 => ?_) (fun q6 => ?_) | refine v_if_ne hX 12 qX11_next_6 rfl (fun q6 => ?_) (fun q6 => ?_)
  · skip
    refine v_aload_n hX rfl qX11_next_12 ?_
    refine v_aload_n hX rfl qX11_next_13 ?_
    refine v_getR hX g_X11_10 (hs.kd 0 rfl) (hs.rf 0 rfl) qX11_next_14 ?_
    refine v_callVq hX hR k_X11_181 (hs.kd 0 rfl) (c_choose (by exact hs) (by exact hru) (by exact hca) (by exact (Or.inl rfl)) (by exact hbe) (by exact hp)) rfl (Nat.le_of_ble_eq_true rfl) rfl (Nat.le_of_ble_eq_true rfl) ⟨Nat.le_of_ble_eq_true rfl, Nat.le_of_ble_eq_true rfl⟩ qX11_next_17 ?_
    rintro _ _ ⟨rfl, σ, rfl, hf, hca2, k10, k11, k12⟩
    have hcv := hc.p hf.P hca2
    rw [hc.b] at k10 k11 k12 ⊢
    first | refine v_if_neB hX 25 qX11_next_20 rfl (fun q20 => ?_) (fun q20 => ?_) | refine v_if_ne hX 25 qX11_next_20 rfl (fun q20 => ?_) (fun q20 => ?_)
    · skip
      refine v_iload_n hX rfl qX11_next_25 ?_
      refine v_case (0 : Int32) (fun q26 => ?_) (fun q26_0 => ?_)
      · skip
        refine v_lookup (off := 26) hX 52 qX11_next_26 (by decide) (by first | exact (by rw [q26]; rfl) | rfl) rfl ?_
        refine v_aload_n hX rfl qX11_next_52 ?_
        refine v_getIv hX g_X11_55 (Or.inl rfl) (hs.kd 0 rfl) k10 qX11_next_53 ?_
        refine v_ireturn hX qX11_next_56 (hP _ _ ?_)
        rw [nextI, if_pos q6, if_neg q20, if_pos q26]
        exact ⟨rfl, σ, rfl, hcv, hf.P.k⟩
      refine v_case (1 : Int32) (fun q26 => ?_) (fun q26_1 => ?_)
      · skip
        refine v_lookup (off := 31) hX 57 qX11_next_26 (by decide) (by first | exact (by rw [q26]; rfl) | rfl) rfl ?_
        refine v_aload_n hX rfl qX11_next_57 ?_
        refine v_getIv hX g_X11_59 (Or.inl rfl) (hs.kd 0 rfl) k11 qX11_next_58 ?_
        refine v_ireturn hX qX11_next_61 (hP _ _ ?_)
        rw [nextI, if_pos q6, if_neg q20, if_neg (by rw [q26]; decide), if_pos q26]
        exact ⟨rfl, σ, rfl, hcv, hf.P.k⟩
      refine v_lookup (off := 36) hX 62 qX11_next_26 (by decide) ?_ rfl ?_
      · have z0 := ne_i (0) (by decide) q26_0; have z1 := ne_i (1) (by decide) q26_1; refine lk_out _ (fun q hq => ?_); simp at hq; rcases hq with rfl | rfl <;> assumption
      refine v_aload_n hX rfl qX11_next_62 ?_
      refine v_getIv hX g_X11_185 (Or.inl rfl) (hs.kd 0 rfl) k12 qX11_next_63 ?_
      refine v_ireturn hX qX11_next_66 (hP _ _ ?_)
      rw [nextI, if_pos q6, if_neg q20, if_neg q26_0, if_neg q26_1]
      exact ⟨rfl, σ, rfl, hcv, hf.P.k⟩
    · skip
      refine v_iconst hX li_n1 qX11_next_23 ?_
      refine v_ireturn hX qX11_next_24 (hP _ _ ?_)
      rw [nextI, if_pos q6, if_pos (Classical.byContradiction q20)]
      exact ⟨rfl, σ, rfl, hcv, hf.P.k⟩
  · skip
    refine v_bipush hX lb_n2 qX11_next_9 ?_
    refine v_ireturn hX qX11_next_11 (hP _ _ ?_)
    rw [nextI, if_neg q6]
    exact ⟨rfl, h.1, rfl, hc, fun a _ => rfl⟩
theorem qX11_plan_0 : Dq cX11_plan 0 (.iload_n 1) 1 1 := ⟨by decide +kernel, rfl⟩
theorem qX11_plan_1 : Dq cX11_plan 1 (.iconst 0) 1 2 := ⟨by decide +kernel, rfl⟩
theorem qX11_plan_2 : Dq cX11_plan 2 (.bipush 20) 2 4 := ⟨by decide +kernel, rfl⟩
theorem qX11_plan_4 : Dq cX11_plan 4 (.invokestatic 110) 3 7 := ⟨by decide +kernel, rfl⟩
theorem qX11_plan_7 : Dq cX11_plan 7 (.ifCond .eq 12) 3 10 := ⟨by decide +kernel, rfl⟩
theorem qX11_plan_10 : Dq cX11_plan 10 (.iload_n 2) 1 11 := ⟨by decide +kernel, rfl⟩
theorem qX11_plan_11 : Dq cX11_plan 11 (.iconst 0) 1 12 := ⟨by decide +kernel, rfl⟩
theorem qX11_plan_12 : Dq cX11_plan 12 (.iconst 2) 1 13 := ⟨by decide +kernel, rfl⟩
theorem qX11_plan_13 : Dq cX11_plan 13 (.invokestatic 110) 3 16 := ⟨by decide +kernel, rfl⟩
theorem qX11_plan_16 : Dq cX11_plan 16 (.ifCond .ne 6) 3 19 := ⟨by decide +kernel, rfl⟩
theorem qX11_plan_19 : Dq cX11_plan 19 (.bipush (-2)) 2 21 := ⟨by decide +kernel, rfl⟩
theorem qX11_plan_21 : Dq cX11_plan 21 (.ireturn) 1 22 := ⟨by decide +kernel, rfl⟩
theorem qX11_plan_22 : Dq cX11_plan 22 (.aload_n 0) 1 23 := ⟨by decide +kernel, rfl⟩
theorem qX11_plan_23 : Dq cX11_plan 23 (.iload_n 1) 1 24 := ⟨by decide +kernel, rfl⟩
theorem qX11_plan_24 : Dq cX11_plan 24 (.invokevirtual 188) 3 27 := ⟨by decide +kernel, rfl⟩
theorem qX11_plan_27 : Dq cX11_plan 27 (.iload_n 2) 1 28 := ⟨by decide +kernel, rfl⟩
theorem qX11_plan_28 : Dq cX11_plan 28 (.lookupswitch 44 #[(0, 28), (1, 36)]) 28 56 := ⟨by decide +kernel, rfl⟩
theorem qX11_plan_56 : Dq cX11_plan 56 (.aload_n 0) 1 57 := ⟨by decide +kernel, rfl⟩
theorem qX11_plan_57 : Dq cX11_plan 57 (.getfield 45) 3 60 := ⟨by decide +kernel, rfl⟩
theorem qX11_plan_60 : Dq cX11_plan 60 (.getfield 192) 3 63 := ⟨by decide +kernel, rfl⟩
theorem qX11_plan_63 : Dq cX11_plan 63 (.ireturn) 1 64 := ⟨by decide +kernel, rfl⟩
theorem qX11_plan_64 : Dq cX11_plan 64 (.aload_n 0) 1 65 := ⟨by decide +kernel, rfl⟩
theorem qX11_plan_65 : Dq cX11_plan 65 (.getfield 45) 3 68 := ⟨by decide +kernel, rfl⟩
theorem qX11_plan_68 : Dq cX11_plan 68 (.getfield 195) 3 71 := ⟨by decide +kernel, rfl⟩
theorem qX11_plan_71 : Dq cX11_plan 71 (.ireturn) 1 72 := ⟨by decide +kernel, rfl⟩
theorem qX11_plan_72 : Dq cX11_plan 72 (.aload_n 0) 1 73 := ⟨by decide +kernel, rfl⟩
theorem qX11_plan_73 : Dq cX11_plan 73 (.getfield 45) 3 76 := ⟨by decide +kernel, rfl⟩
theorem qX11_plan_76 : Dq cX11_plan 76 (.getfield 196) 3 79 := ⟨by decide +kernel, rfl⟩
theorem qX11_plan_79 : Dq cX11_plan 79 (.ireturn) 1 80 := ⟨by decide +kernel, rfl⟩
set_option maxRecDepth 100000 in
set_option maxHeartbeats 4000000 in
theorem c_plan {G : Glb} {h : AHp} {E : Sst} (hc : CV h E) (n w : Int32) : CP G m_X11_plan 8 0 0 [.ref 0, .int n, .int w] h (fun r h' => r = some (.int (planI E n w)) ∧ ∃ σ, h' = (σ, h.2) ∧ CV (σ, h.2) E ∧ K38 h σ) := by
  suffices key : ∀ P : Option Value → AHp → Prop, (∀ r h', (r = some (.int (planI E n w)) ∧ ∃ σ, h' = (σ, h.2) ∧ CV (σ, h.2) E ∧ K38 h σ) → P r h') → CP G m_X11_plan 8 0 0 [.ref 0, .int n, .int w] h P from key _ (fun _ _ z => z)
  intro P hP
  have hs := hc.sh
  have hru := hc.ru
  have hca := hc.ca
  have hbe := hc.be
  have hok := hc.ok
  obtain ⟨hrl, hrl5⟩ := hbe.rl hok.1
  rw [bv0 (by omega) (by omega)] at hrl5
  have hh3 := hbe.2.2.2.1
  rw [bv0 (by omega) (by omega)] at hh3
  obtain ⟨e, hp⟩ := hc.pt
  have hm6 := hp.2.1
  have hnu := hc.nu
  refine CP.of (by decide +kernel) (Nat.le_of_ble_eq_true rfl) fun X hX hR hnm => ?_
  show V X G 3 0 0 _ 0 [some (.ref 0), some (.int n), some (.int w)] [] h
  refine v_iload_n hX rfl qX11_plan_0 ?_
  refine v_iconst hX li_0 qX11_plan_1 ?_
  refine v_bipush hX lb_20 qX11_plan_2 ?_
  refine v_callSq hX hR k_X11_110 (c_isWithin _ _ _) rfl (Nat.le_of_ble_eq_true rfl) rfl (Nat.le_of_ble_eq_true rfl) ⟨Nat.le_of_ble_eq_true rfl, Nat.le_of_ble_eq_true rfl⟩ qX11_plan_4 ?_
  rintro _ _ ⟨rfl, rfl⟩
  first | refine v_if_eqB hX 19 qX11_plan_7 rfl (fun q7 => ?_) (fun q7 => ?_) | refine v_if_eq hX 19 qX11_plan_7 rfl (fun q7 => ?_) (fun q7 => ?_)
  · skip
    refine v_bipush hX lb_n2 qX11_plan_19 ?_
    refine v_ireturn hX qX11_plan_21 (hP _ _ ?_)
    first | (rw [planI, if_neg (fun z => q7 z.1)]; exact ⟨rfl, h.1, rfl, hc, fun a _ => rfl⟩) | (rw [planI, if_neg (fun z => q16 z.2)]; exact ⟨rfl, h.1, rfl, hc, fun a _ => rfl⟩)
  · obtain ⟨nn, hnn, rfl⟩ := rng_ex 20 (by omega) q7
    refine v_iload_n hX rfl qX11_plan_10 ?_
    refine v_iconst hX li_0 qX11_plan_11 ?_
    refine v_iconst hX li_2 qX11_plan_12 ?_
    refine v_callSq hX hR k_X11_110 (c_isWithin _ _ _) rfl (Nat.le_of_ble_eq_true rfl) rfl (Nat.le_of_ble_eq_true rfl) ⟨Nat.le_of_ble_eq_true rfl, Nat.le_of_ble_eq_true rfl⟩ qX11_plan_13 ?_
    rintro _ _ ⟨rfl, rfl⟩
    first | refine v_if_neB hX 22 qX11_plan_16 rfl (fun q16 => ?_) (fun q16 => ?_) | refine v_if_ne hX 22 qX11_plan_16 rfl (fun q16 => ?_) (fun q16 => ?_)
    · skip
      refine v_aload_n hX rfl qX11_plan_22 ?_
      refine v_iload_n hX rfl qX11_plan_23 ?_
      refine v_callVq hX hR k_X11_188 (hs.kd 0 rfl) (c_makePlan (by exact hs) (by exact hru) (by exact hca) (by exact hbe) (by exact hp) (by exact hnu) (n := nn) (by omega)) rfl (Nat.le_of_ble_eq_true rfl) rfl (Nat.le_of_ble_eq_true rfl) ⟨Nat.le_of_ble_eq_true rfl, Nat.le_of_ble_eq_true rfl⟩ qX11_plan_24 ?_
      rintro _ _ ⟨rfl, σ, rfl, hf, hca2, z2, zc, z3, z4⟩
      have hcv := hc.p hf hca2
      rw [hc.b] at z2 zc z3 z4
      refine v_iload_n hX rfl qX11_plan_27 ?_
      refine v_case (0 : Int32) (fun q28 => ?_) (fun q28_0 => ?_)
      · skip
        refine v_lookup (off := 28) hX 56 qX11_plan_28 (by decide) (by first | exact (by rw [q28]; rfl) | rfl) rfl ?_
        refine v_aload_n hX rfl qX11_plan_56 ?_
        refine v_getR hX g_X11_45 (hs.kd 0 rfl) (hs.rf 6 rfl) qX11_plan_57 ?_
        refine v_getIv hX g_X11_192 (Or.inl rfl) (hs.kd 26 rfl) z3 qX11_plan_60 ?_
        refine v_ireturn hX qX11_plan_63 (hP _ _ ?_)
        rw [planI, if_pos ⟨q7, q16⟩, tn_nI (show nn < 2000000 by omega), if_pos q28]
        exact ⟨rfl, σ, rfl, hcv, hf.k⟩
      refine v_case (1 : Int32) (fun q28 => ?_) (fun q28_1 => ?_)
      · skip
        refine v_lookup (off := 36) hX 64 qX11_plan_28 (by decide) (by first | exact (by rw [q28]; rfl) | rfl) rfl ?_
        refine v_aload_n hX rfl qX11_plan_64 ?_
        refine v_getR hX g_X11_45 (hs.kd 0 rfl) (hs.rf 6 rfl) qX11_plan_65 ?_
        refine v_getIv hX g_X11_195 (Or.inl rfl) (hs.kd 26 rfl) z2 qX11_plan_68 ?_
        refine v_ireturn hX qX11_plan_71 (hP _ _ ?_)
        rw [planI, if_pos ⟨q7, q16⟩, tn_nI (show nn < 2000000 by omega), if_neg (by rw [q28]; decide), if_pos q28]
        exact ⟨rfl, σ, rfl, hcv, hf.k⟩
      refine v_lookup (off := 44) hX 72 qX11_plan_28 (by decide) ?_ rfl ?_
      · have z0 := ne_i (0) (by decide) q28_0; have z1 := ne_i (1) (by decide) q28_1; refine lk_out _ (fun q hq => ?_); simp at hq; rcases hq with rfl | rfl <;> assumption
      refine v_aload_n hX rfl qX11_plan_72 ?_
      refine v_getR hX g_X11_45 (hs.kd 0 rfl) (hs.rf 6 rfl) qX11_plan_73 ?_
      refine v_getIv hX g_X11_196 (Or.inl rfl) (hs.kd 26 rfl) z4 qX11_plan_76 ?_
      refine v_ireturn hX qX11_plan_79 (hP _ _ ?_)
      rw [planI, if_pos ⟨q7, q16⟩, tn_nI (show nn < 2000000 by omega), if_neg q28_0, if_neg q28_1]
      exact ⟨rfl, σ, rfl, hcv, hf.k⟩
    · skip
      refine v_bipush hX lb_n2 qX11_plan_19 ?_
      refine v_ireturn hX qX11_plan_21 (hP _ _ ?_)
      first | (rw [planI, if_neg (fun z => q7 z.1)]; exact ⟨rfl, h.1, rfl, hc, fun a _ => rfl⟩) | (rw [planI, if_neg (fun z => q16 z.2)]; exact ⟨rfl, h.1, rfl, hc, fun a _ => rfl⟩)
theorem qX11_planned_0 : Dq cX11_planned 0 (.iload_n 1) 1 1 := ⟨by decide +kernel, rfl⟩
theorem qX11_planned_1 : Dq cX11_planned 1 (.iconst 0) 1 2 := ⟨by decide +kernel, rfl⟩
theorem qX11_planned_2 : Dq cX11_planned 2 (.bipush 19) 2 4 := ⟨by decide +kernel, rfl⟩
theorem qX11_planned_4 : Dq cX11_planned 4 (.invokestatic 110) 3 7 := ⟨by decide +kernel, rfl⟩
theorem qX11_planned_7 : Dq cX11_planned 7 (.ifCond .ne 6) 3 10 := ⟨by decide +kernel, rfl⟩
theorem qX11_planned_10 : Dq cX11_planned 10 (.bipush (-2)) 2 12 := ⟨by decide +kernel, rfl⟩
theorem qX11_planned_12 : Dq cX11_planned 12 (.ireturn) 1 13 := ⟨by decide +kernel, rfl⟩
theorem qX11_planned_13 : Dq cX11_planned 13 (.aload_n 0) 1 14 := ⟨by decide +kernel, rfl⟩
theorem qX11_planned_14 : Dq cX11_planned 14 (.bipush 20) 2 16 := ⟨by decide +kernel, rfl⟩
theorem qX11_planned_16 : Dq cX11_planned 16 (.invokevirtual 188) 3 19 := ⟨by decide +kernel, rfl⟩
theorem qX11_planned_19 : Dq cX11_planned 19 (.aload_n 0) 1 20 := ⟨by decide +kernel, rfl⟩
theorem qX11_planned_20 : Dq cX11_planned 20 (.getfield 45) 3 23 := ⟨by decide +kernel, rfl⟩
theorem qX11_planned_23 : Dq cX11_planned 23 (.iload_n 1) 1 24 := ⟨by decide +kernel, rfl⟩
theorem qX11_planned_24 : Dq cX11_planned 24 (.invokevirtual 199) 3 27 := ⟨by decide +kernel, rfl⟩
theorem qX11_planned_27 : Dq cX11_planned 27 (.ireturn) 1 28 := ⟨by decide +kernel, rfl⟩
set_option maxRecDepth 100000 in
set_option maxHeartbeats 4000000 in
theorem c_planned {G : Glb} {h : AHp} {E : Sst} (hc : CV h E) (i : Int32) : CP G m_X11_planned 8 0 0 [.ref 0, .int i] h (fun r h' => r = some (.int (plannedI E i)) ∧ ∃ σ, h' = (σ, h.2) ∧ CV (σ, h.2) E ∧ K38 h σ) := by
  suffices key : ∀ P : Option Value → AHp → Prop, (∀ r h', (r = some (.int (plannedI E i)) ∧ ∃ σ, h' = (σ, h.2) ∧ CV (σ, h.2) E ∧ K38 h σ) → P r h') → CP G m_X11_planned 8 0 0 [.ref 0, .int i] h P from key _ (fun _ _ z => z)
  intro P hP
  have hs := hc.sh
  have hru := hc.ru
  have hca := hc.ca
  have hbe := hc.be
  have hok := hc.ok
  obtain ⟨hrl, hrl5⟩ := hbe.rl hok.1
  rw [bv0 (by omega) (by omega)] at hrl5
  have hh3 := hbe.2.2.2.1
  rw [bv0 (by omega) (by omega)] at hh3
  obtain ⟨e, hp⟩ := hc.pt
  have hm6 := hp.2.1
  have hnu := hc.nu
  have hsz : szE E 20 ≤ 20 := by have z : szE E 20 ≤ 0 + 20 := fc_le (p := pSt (sT E) (sM E) (sK E) (sN E) (sB E)) 20 0; omega
  refine CP.of (by decide +kernel) (Nat.le_of_ble_eq_true rfl) fun X hX hR hnm => ?_
  show V X G 2 0 0 _ 0 [some (.ref 0), some (.int i)] [] h
  refine v_iload_n hX rfl qX11_planned_0 ?_
  refine v_iconst hX li_0 qX11_planned_1 ?_
  refine v_bipush hX lb_19 qX11_planned_2 ?_
  refine v_callSq hX hR k_X11_110 (c_isWithin _ _ _) rfl (Nat.le_of_ble_eq_true rfl) rfl (Nat.le_of_ble_eq_true rfl) ⟨Nat.le_of_ble_eq_true rfl, Nat.le_of_ble_eq_true rfl⟩ qX11_planned_4 ?_
  rintro _ _ ⟨rfl, rfl⟩
  first | refine v_if_neB hX 13 qX11_planned_7 rfl (fun q7 => ?_) (fun q7 => ?_) | refine v_if_ne hX 13 qX11_planned_7 rfl (fun q7 => ?_) (fun q7 => ?_)
  · skip
    refine v_aload_n hX rfl qX11_planned_13 ?_
    refine v_bipush hX lb_20 qX11_planned_14 ?_
    refine v_callVq hX hR k_X11_188 (hs.kd 0 rfl) (c_makePlan (by exact hs) (by exact hru) (by exact hca) (by exact hbe) (by exact hp) (by exact hnu) (n := 20) (by omega)) rfl (Nat.le_of_ble_eq_true rfl) rfl (Nat.le_of_ble_eq_true rfl) ⟨Nat.le_of_ble_eq_true rfl, Nat.le_of_ble_eq_true rfl⟩ qX11_planned_16 ?_
    rintro _ _ ⟨rfl, σ, rfl, hf, hca2, z2, zc, z3, z4⟩
    have hcv := hc.p hf hca2
    rw [hc.b] at z2 zc z3 z4
    refine v_aload_n hX rfl qX11_planned_19 ?_
    refine v_getR hX g_X11_45 (hs.kd 0 rfl) (hs.rf 6 rfl) qX11_planned_20 ?_
    refine v_iload_n hX rfl qX11_planned_23 ?_
    refine v_callVq hX hR k_X11_199 (hs.kd 26 rfl) (c_cellAt (by exact hs) (by exact z2) (by exact hsz) _) rfl (Nat.le_of_ble_eq_true rfl) rfl (Nat.le_of_ble_eq_true rfl) ⟨Nat.le_of_ble_eq_true rfl, Nat.le_of_ble_eq_true rfl⟩ qX11_planned_24 ?_
    rintro _ _ ⟨rfl, rfl⟩
    refine v_ireturn hX qX11_planned_27 (hP _ _ ?_)
    obtain ⟨w, hw, rfl⟩ := rng_ex 19 (by omega) q7
    rw [plannedI, if_pos q7, tn_nI (show w < 2000000 by omega)]
    refine ⟨?_, σ, rfl, hcv, hf.k⟩
    by_cases hwz : nI w < nI (szE E 20)
    · have hwn := (nI_ltI (by omega) (by omega)).mp hwz
      rw [if_pos ⟨q7.1, hwz⟩, if_pos hwz]
      exact congrArg (fun z => some (Value.int z)) (zc w hwn).1
    · rw [if_neg (fun z => hwz z.2), if_neg hwz]
  · skip
    refine v_bipush hX lb_n2 qX11_planned_10 ?_
    refine v_ireturn hX qX11_planned_12 (hP _ _ ?_)
    rw [plannedI, if_neg q7]
    exact ⟨rfl, h.1, rfl, hc, fun a _ => rfl⟩
theorem qX11_giveUp_0 : Dq cX11_giveUp 0 (.iload_n 1) 1 1 := ⟨by decide +kernel, rfl⟩
theorem qX11_giveUp_1 : Dq cX11_giveUp 1 (.iconst 0) 1 2 := ⟨by decide +kernel, rfl⟩
theorem qX11_giveUp_2 : Dq cX11_giveUp 2 (.ldc 202) 2 4 := ⟨by decide +kernel, rfl⟩
theorem qX11_giveUp_4 : Dq cX11_giveUp 4 (.invokestatic 110) 3 7 := ⟨by decide +kernel, rfl⟩
theorem qX11_giveUp_7 : Dq cX11_giveUp 7 (.ifCond .ne 6) 3 10 := ⟨by decide +kernel, rfl⟩
theorem qX11_giveUp_10 : Dq cX11_giveUp 10 (.bipush (-2)) 2 12 := ⟨by decide +kernel, rfl⟩
theorem qX11_giveUp_12 : Dq cX11_giveUp 12 (.ireturn) 1 13 := ⟨by decide +kernel, rfl⟩
theorem qX11_giveUp_13 : Dq cX11_giveUp 13 (.aload_n 0) 1 14 := ⟨by decide +kernel, rfl⟩
theorem qX11_giveUp_14 : Dq cX11_giveUp 14 (.bipush 20) 2 16 := ⟨by decide +kernel, rfl⟩
theorem qX11_giveUp_16 : Dq cX11_giveUp 16 (.invokevirtual 188) 3 19 := ⟨by decide +kernel, rfl⟩
theorem qX11_giveUp_19 : Dq cX11_giveUp 19 (.aload_n 0) 1 20 := ⟨by decide +kernel, rfl⟩
theorem qX11_giveUp_20 : Dq cX11_giveUp 20 (.getfield 45) 3 23 := ⟨by decide +kernel, rfl⟩
theorem qX11_giveUp_23 : Dq cX11_giveUp 23 (.iload_n 1) 1 24 := ⟨by decide +kernel, rfl⟩
theorem qX11_giveUp_24 : Dq cX11_giveUp 24 (.invokevirtual 203) 3 27 := ⟨by decide +kernel, rfl⟩
theorem qX11_giveUp_27 : Dq cX11_giveUp 27 (.ireturn) 1 28 := ⟨by decide +kernel, rfl⟩
set_option maxRecDepth 100000 in
set_option maxHeartbeats 4000000 in
theorem c_giveUp {G : Glb} {h : AHp} {E : Sst} (hc : CV h E) (pr : Int32) : CP G m_X11_giveUp 8 0 0 [.ref 0, .int pr] h (fun r h' => r = some (.int (giveI E pr)) ∧ ∃ σ, h' = (σ, h.2) ∧ CV (σ, h.2) E ∧ K38 h σ) := by
  suffices key : ∀ P : Option Value → AHp → Prop, (∀ r h', (r = some (.int (giveI E pr)) ∧ ∃ σ, h' = (σ, h.2) ∧ CV (σ, h.2) E ∧ K38 h σ) → P r h') → CP G m_X11_giveUp 8 0 0 [.ref 0, .int pr] h P from key _ (fun _ _ z => z)
  intro P hP
  have hs := hc.sh
  have hru := hc.ru
  have hca := hc.ca
  have hbe := hc.be
  have hok := hc.ok
  obtain ⟨hrl, hrl5⟩ := hbe.rl hok.1
  rw [bv0 (by omega) (by omega)] at hrl5
  have hh3 := hbe.2.2.2.1
  rw [bv0 (by omega) (by omega)] at hh3
  obtain ⟨e, hp⟩ := hc.pt
  have hm6 := hp.2.1
  have hnu := hc.nu
  have hsz : szE E 20 ≤ 20 := by have z : szE E 20 ≤ 0 + 20 := fc_le (p := pSt (sT E) (sM E) (sK E) (sN E) (sB E)) 20 0; omega
  refine CP.of (by decide +kernel) (Nat.le_of_ble_eq_true rfl) fun X hX hR hnm => ?_
  show V X G 2 0 0 _ 0 [some (.ref 0), some (.int pr)] [] h
  refine v_iload_n hX rfl qX11_giveUp_0 ?_
  refine v_iconst hX li_0 qX11_giveUp_1 ?_
  refine v_ldc hX c_X11_202 qX11_giveUp_2 ?_
  refine v_callSq hX hR k_X11_110 (c_isWithin _ _ _) rfl (Nat.le_of_ble_eq_true rfl) rfl (Nat.le_of_ble_eq_true rfl) ⟨Nat.le_of_ble_eq_true rfl, Nat.le_of_ble_eq_true rfl⟩ qX11_giveUp_4 ?_
  rintro _ _ ⟨rfl, rfl⟩
  first | refine v_if_neB hX 13 qX11_giveUp_7 rfl (fun q7 => ?_) (fun q7 => ?_) | refine v_if_ne hX 13 qX11_giveUp_7 rfl (fun q7 => ?_) (fun q7 => ?_)
  · skip
    refine v_aload_n hX rfl qX11_giveUp_13 ?_
    refine v_bipush hX lb_20 qX11_giveUp_14 ?_
    refine v_callVq hX hR k_X11_188 (hs.kd 0 rfl) (c_makePlan (by exact hs) (by exact hru) (by exact hca) (by exact hbe) (by exact hp) (by exact hnu) (n := 20) (by omega)) rfl (Nat.le_of_ble_eq_true rfl) rfl (Nat.le_of_ble_eq_true rfl) ⟨Nat.le_of_ble_eq_true rfl, Nat.le_of_ble_eq_true rfl⟩ qX11_giveUp_16 ?_
    rintro _ _ ⟨rfl, σ, rfl, hf, hca2, z2, zc, z3, z4⟩
    have hcv := hc.p hf hca2
    rw [hc.b] at z2 zc z3 z4
    refine v_aload_n hX rfl qX11_giveUp_19 ?_
    refine v_getR hX g_X11_45 (hs.kd 0 rfl) (hs.rf 6 rfl) qX11_giveUp_20 ?_
    refine v_iload_n hX rfl qX11_giveUp_23 ?_
    refine v_callVq hX hR k_X11_203 (hs.kd 26 rfl) (c_sizeAheadOf (by exact hs) (by exact z2) (by exact hsz) _) rfl (Nat.le_of_ble_eq_true rfl) rfl (Nat.le_of_ble_eq_true rfl) ⟨Nat.le_of_ble_eq_true rfl, Nat.le_of_ble_eq_true rfl⟩ qX11_giveUp_24 ?_
    rintro _ _ ⟨rfl, rfl⟩
    refine v_ireturn hX qX11_giveUp_27 (hP _ _ ?_)
    rw [giveI, if_pos q7]
    exact ⟨congrArg (fun z => some (Value.int (nI z))) (fc_congr _ _ (fun k _ hk => by show decide (σ 28 k < pr) = _; rw [(zc k (by omega)).2])), σ, rfl, hcv, hf.k⟩
  · skip
    refine v_bipush hX lb_n2 qX11_giveUp_10 ?_
    refine v_ireturn hX qX11_giveUp_12 (hP _ _ ?_)
    rw [giveI, if_neg q7]
    exact ⟨rfl, h.1, rfl, hc, fun a _ => rfl⟩
theorem qX11_search_0 : Dq cX11_search 0 (.aload_n 0) 1 1 := ⟨by decide +kernel, rfl⟩
theorem qX11_search_1 : Dq cX11_search 1 (.aload_n 0) 1 2 := ⟨by decide +kernel, rfl⟩
theorem qX11_search_2 : Dq cX11_search 2 (.getfield 10) 3 5 := ⟨by decide +kernel, rfl⟩
theorem qX11_search_5 : Dq cX11_search 5 (.invokevirtual 181) 3 8 := ⟨by decide +kernel, rfl⟩
theorem qX11_search_8 : Dq cX11_search 8 (.ifCond .ne 5) 3 11 := ⟨by decide +kernel, rfl⟩
theorem qX11_search_11 : Dq cX11_search 11 (.iconst (-1)) 1 12 := ⟨by decide +kernel, rfl⟩
theorem qX11_search_12 : Dq cX11_search 12 (.ireturn) 1 13 := ⟨by decide +kernel, rfl⟩
theorem qX11_search_13 : Dq cX11_search 13 (.aload_n 0) 1 14 := ⟨by decide +kernel, rfl⟩
theorem qX11_search_14 : Dq cX11_search 14 (.getfield 59) 3 17 := ⟨by decide +kernel, rfl⟩
theorem qX11_search_17 : Dq cX11_search 17 (.istore_n 1) 1 18 := ⟨by decide +kernel, rfl⟩
theorem qX11_search_18 : Dq cX11_search 18 (.aload_n 0) 1 19 := ⟨by decide +kernel, rfl⟩
theorem qX11_search_19 : Dq cX11_search 19 (.aload_n 0) 1 20 := ⟨by decide +kernel, rfl⟩
theorem qX11_search_20 : Dq cX11_search 20 (.getfield 55) 3 23 := ⟨by decide +kernel, rfl⟩
theorem qX11_search_23 : Dq cX11_search 23 (.invokevirtual 141) 3 26 := ⟨by decide +kernel, rfl⟩
theorem qX11_search_26 : Dq cX11_search 26 (.astore_n 2) 1 27 := ⟨by decide +kernel, rfl⟩
theorem qX11_search_27 : Dq cX11_search 27 (.aload_n 2) 1 28 := ⟨by decide +kernel, rfl⟩
theorem qX11_search_28 : Dq cX11_search 28 (.ifnull 14) 3 31 := ⟨by decide +kernel, rfl⟩
theorem qX11_search_31 : Dq cX11_search 31 (.aload_n 0) 1 32 := ⟨by decide +kernel, rfl⟩
theorem qX11_search_32 : Dq cX11_search 32 (.aload_n 0) 1 33 := ⟨by decide +kernel, rfl⟩
theorem qX11_search_33 : Dq cX11_search 33 (.getfield 10) 3 36 := ⟨by decide +kernel, rfl⟩
theorem qX11_search_36 : Dq cX11_search 36 (.aload_n 2) 1 37 := ⟨by decide +kernel, rfl⟩
theorem qX11_search_37 : Dq cX11_search 37 (.iload_n 1) 1 38 := ⟨by decide +kernel, rfl⟩
theorem qX11_search_38 : Dq cX11_search 38 (.invokevirtual 177) 3 41 := ⟨by decide +kernel, rfl⟩
theorem qX11_search_41 : Dq cX11_search 41 (.pop) 1 42 := ⟨by decide +kernel, rfl⟩
theorem qX11_search_42 : Dq cX11_search 42 (.iload_n 1) 1 43 := ⟨by decide +kernel, rfl⟩
theorem qX11_search_43 : Dq cX11_search 43 (.ireturn) 1 44 := ⟨by decide +kernel, rfl⟩
set_option maxRecDepth 100000 in
set_option maxHeartbeats 4000000 in
theorem c_search {G : Glb} {h : AHp} {E : Sst} (hc : CV h E)  : CP G m_X11_search 7 0 0 [.ref 0] h (fun r h' => r = some (.int (searchI E).1) ∧ ∃ σ, h' = (σ, h.2) ∧ CV (σ, h.2) (setB E (searchI E).2) ∧ K38 h σ) := by
  suffices key : ∀ P : Option Value → AHp → Prop, (∀ r h', (r = some (.int (searchI E).1) ∧ ∃ σ, h' = (σ, h.2) ∧ CV (σ, h.2) (setB E (searchI E).2) ∧ K38 h σ) → P r h') → CP G m_X11_search 7 0 0 [.ref 0] h P from key _ (fun _ _ z => z)
  intro P hP
  have hs := hc.sh
  have hru := hc.ru
  have hca := hc.ca
  have hbe := hc.be
  have hok := hc.ok
  obtain ⟨hrl, hrl5⟩ := hbe.rl hok.1
  rw [bv0 (by omega) (by omega)] at hrl5
  have hh3 := hbe.2.2.2.1
  rw [bv0 (by omega) (by omega)] at hh3
  obtain ⟨e, hp⟩ := hc.pt
  have hm6 := hp.2.1
  have hnu := hc.nu
  refine CP.of (by decide +kernel) (Nat.le_of_ble_eq_true rfl) fun X hX hR hnm => ?_
  show V X G 3 0 0 _ 0 [some (.ref 0), none, none] [] h
  refine v_aload_n hX rfl qX11_search_0 ?_
  refine v_aload_n hX rfl qX11_search_1 ?_
  refine v_getR hX g_X11_10 (hs.kd 0 rfl) (hs.rf 0 rfl) qX11_search_2 ?_
  refine v_callVq hX hR k_X11_181 (hs.kd 0 rfl) (c_choose (by exact hs) (by exact hru) (by exact hca) (by exact (Or.inl rfl)) (by exact hbe) (by exact hp)) rfl (Nat.le_of_ble_eq_true rfl) rfl (Nat.le_of_ble_eq_true rfl) ⟨Nat.le_of_ble_eq_true rfl, Nat.le_of_ble_eq_true rfl⟩ qX11_search_5 ?_
  rintro _ _ ⟨rfl, σ, rfl, hf, hca2, k10, k11, k12⟩
  have hcv := hc.p hf.P hca2
  rw [hc.b] at k10 k11 k12 ⊢
  first | refine v_if_neB hX 13 qX11_search_8 rfl (fun q8 => ?_) (fun q8 => ?_) | refine v_if_ne hX 13 qX11_search_8 rfl (fun q8 => ?_) (fun q8 => ?_)
  · obtain ⟨l, w, hl, hw, hch, hse⟩ := ch_some hm6 q8
    rw [hch] at k10 k11 k12
    have hp2 : Pty (σ, h.2) (sM E) e (sK E) (sN E) := hp.frP hs hf.P
    have hbv2 : bv (σ, h.2) 1 = bv h 1 := hf.bv1 (by omega)
    refine v_aload_n hX rfl qX11_search_13 ?_
    refine v_getIv hX g_X11_59 (Or.inl rfl) (hs.kd 0 rfl) k11 qX11_search_14 ?_
    refine v_istore_n hX (Nat.le_of_ble_eq_true rfl) rfl (ls' := [some _, some _, none]) rfl qX11_search_17 ?_
    refine v_aload_n hX rfl qX11_search_18 ?_
    refine v_aload_n hX rfl qX11_search_19 ?_
    refine v_getIv hX g_X11_55 (Or.inl rfl) (hs.kd 0 rfl) k10 qX11_search_20 ?_
    refine v_callVq hX hR k_X11_141 (hs.kd 0 rfl) (c_lookerAt (by exact hs) (by exact hp2) _) rfl (Nat.le_of_ble_eq_true rfl) rfl (Nat.le_of_ble_eq_true rfl) ⟨Nat.le_of_ble_eq_true rfl, Nat.le_of_ble_eq_true rfl⟩ qX11_search_23 ?_
    rintro _ _ ⟨⟨j, hj, hij, rfl⟩ | ⟨hn, rfl⟩, rfl⟩
    · have hij2 : l = j := (nI_eq (by omega) (by omega)).mp hij
      subst hij2
      refine v_astore_n hX (Nat.le_of_ble_eq_true rfl) rfl (ls' := [some _, some _, some _]) rfl qX11_search_26 ?_
      refine v_aload_n hX rfl qX11_search_27 ?_
      refine v_ifnull hX qX11_search_28 ?_
      refine v_aload_n hX rfl qX11_search_31 ?_
      refine v_aload_n hX rfl qX11_search_32 ?_
      refine v_getR hX g_X11_10 (hs.kd 0 rfl) (hs.rf 0 rfl) qX11_search_33 ?_
      refine v_aload_n hX rfl qX11_search_36 ?_
      refine v_iload_n hX rfl qX11_search_37 ?_
      refine v_callVq hX hR k_X11_177 (hs.kd 0 rfl) (c_gainByLook (by exact hs) (by exact (hru.frP hf.P)) (by exact hca2) (by exact (Or.inl rfl)) (by rw [hbv2]; exact hbe) (by exact hw) (by exact (hp2.2.2 l hl).2.1) (by exact (hp2.2.2 l hl).2.2.1) (by exact (hp2.2.2 l hl).2.2.2) (by exact (eye38 hs (hp2.2.2 l hl).2.2.1))) rfl (Nat.le_of_ble_eq_true rfl) rfl (Nat.le_of_ble_eq_true rfl) ⟨Nat.le_of_ble_eq_true rfl, Nat.le_of_ble_eq_true rfl⟩ qX11_search_38 ?_
      rintro _ _ (⟨hse2, -⟩ | ⟨-, rfl, σ3, rfl, hf3, hca3, hb3⟩)
      · exact absurd (by rw [hbv2, hc.b]; exact hse) hse2
      · rw [hbv2, hc.b] at hb3
        refine v_pop hX rfl qX11_search_41 ?_
        refine v_iload_n hX rfl qX11_search_42 ?_
        refine v_ireturn hX qX11_search_43 (hP _ _ ?_)
        have es : stB (sT E) (sM E) (sK E) (sN E) (sB E) = lookB (sT E) (sB E) (sK E l) (sN E l) w := by
          unfold stB
          rw [if_neg q8, hch]
          show lookB _ _ (sK E (tn (nI l))) (sN E (tn (nI l))) (tn (nI w)) = _
          rw [tn_nI (by omega), tn_nI (by omega)]
        rw [searchI, if_neg q8, es]
        exact ⟨by rw [show chE E = _ from hch], σ3, rfl, hcv.q (FrB.q1 (h := (σ, h.2)) hf3) hca3 hb3 (lookB_ok hok.2.2.2.1 (hnu l hl)), fun a ha => ((FrB.q1 (h := (σ, h.2)) hf3).k a ha).trans (hf.P.k a ha)⟩
    · exact absurd ⟨nI_pos' (by omega), nI_lt hl (by omega)⟩ hn
  · skip
    refine v_iconst hX li_n1 qX11_search_11 ?_
    refine v_ireturn hX qX11_search_12 (hP _ _ ?_)
    rw [searchI, if_pos (Classical.byContradiction q8)]
    exact ⟨rfl, σ, rfl, hcv, hf.P.k⟩
