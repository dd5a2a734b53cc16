/-! public calls of the class: crowd, judge, found, seen, image, back -/
theorem mn99 {x t : Int32} (hx : inR x 99) (ht : 1 ≤ t ∧ t ≤ 99) : inR (mnI 99 (x + t)) 99 := by
  obtain ⟨a, ha, rfl⟩ := hx.ex (by omega)
  obtain ⟨c, hc, rfl⟩ := rng_ex 99 (by omega) ⟨leI.mpr (by have := leI.mp ht.1; have e1 : (1 : Int32).toInt = 1 := rfl; have e0 : (0 : Int32).toInt = 0 := rfl; omega), ht.2⟩
  rw [nI_add]
  exact (mnI_in (n := 99) (j := a + c) (by omega) (by omega) rfl).1
theorem crB_ok {b : Bch} {c : Nat} (h : BeOK b c) {q : Nat} {t : Int32} (ht : 1 ≤ t ∧ t ≤ 99) : ∀ i, q + i ≤ 48 → BeOK (crB b q t i) c := by
  intro i
  induction i with
  | zero => intro _; exact h
  | succ i ih => intro hi; exact (ih (by omega)).t (mn99 ((ih (by omega)).2.1 (q + i) (by omega)) ht)
theorem jbs_congr {TV : TVt} {kd : Nat → Nat} {nu it it' : Nat → Int32} {b : Bch} : ∀ i, (∀ k, k < 2 * i → it k = it' k) → jbs TV kd nu it b i = jbs TV kd nu it' b i := by
  intro i
  induction i with
  | zero => intro _; rfl
  | succ i ih =>
    intro h
    unfold jbs
    rw [ih (fun k hk => h k (by omega)), h (2 * i) (by omega), h (2 * i + 1) (by omega)]
theorem jBad_congr {TV : TVt} {m : Nat} {kd : Nat → Nat} {nu it it' : Nat → Int32} {b : Bch} (i : Nat) (h : ∀ k, k < 2 * i + 2 → it k = it' k) : jBad TV m kd nu it b i = jBad TV m kd nu it' b i := by
  unfold jBad
  rw [jbs_congr i (fun k hk => h k (by omega)), h (2 * i) (by omega), h (2 * i + 1) (by omega)]
theorem jGain_congr {TV : TVt} {kd : Nat → Nat} {nu it it' : Nat → Int32} {b : Bch} (i : Nat) (h : ∀ k, k < 2 * i + 2 → it k = it' k) : jGain TV kd nu it b i = jGain TV kd nu it' b i := by
  unfold jGain
  rw [jbs_congr i (fun k hk => h k (by omega)), h (2 * i) (by omega), h (2 * i + 1) (by omega)]
abbrev jbE (E : Sst) (j : Nat) : Nat → Bool := jBad (sT E) (sM E) (sK E) (sN E) (sI' E j) (sB E)
abbrev jgE (E : Sst) (j : Nat) : Nat → Int32 := jGain (sT E) (sK E) (sN E) (sI' E j) (sB E)
def judgeI (E : Sst) (s : Int32) : Int32 := if 0 ≤ s ∧ s ≤ 3 then (if sS E (tn s) = -1 then -11 else if ¬ rmI (nI (sL E (tn s))) 2 = 0 then -2 else fx (jbE E (tn s)) (sL E (tn s) / 2) 0) else -2
def jSum (E : Sst) (j : Nat) : Int32 := sumN (jgE E j) (fc (jbE E j) (sL E j / 2) 0)
def foundI (E : Sst) (s q : Int32) : Int64 := if (0 ≤ s ∧ s ≤ 3) ∧ ¬ sS E (tn s) = -1 ∧ rmI (nI (sL E (tn s))) 2 = 0 then (if (0 ≤ q ∧ q ≤ 1) ∧ 0 < tn (allI (sB E)) then loI (tn (jSum E (tn s))) (tn (allI (sB E))) q else NOI) else NOI
def snB (b : Bch) (it : Nat → Int32) (w : Int32) : Nat → Bch
  | 0 => b
  | i + 1 => picB (snB b it w i) (tn (it i)) w
def seenI (E : Sst) (s w : Int32) : Int32 × Bch := if (0 ≤ s ∧ s ≤ 3) ∧ (0 ≤ w ∧ w ≤ 9999) then (if sS E (tn s) = -1 then (-11, sB E) else if anyB (fun i => !decide (isC (sI' E (tn s) i))) (sL E (tn s)) = false then (nI (sL E (tn s)), snB (sB E) (sI' E (tn s)) w (sL E (tn s))) else (-2, sB E)) else (-2, sB E)
theorem adB_ok {b : Bch} {c : Nat} (h : BeOK b c) {q n : Nat} (hq : q < 48) (hn : n ≤ 9999) : BeOK (adB b q (nI n)) c := by
  obtain ⟨o, ho, eo⟩ := (h.1 q hq).ex (by omega)
  refine h.o ?_
  rw [eo, nI_add]
  exact (mnI_in (n := 999999) (j := o + n) (by omega) (by omega) rfl).1
theorem picB_ok {b : Bch} {c : Nat} (h : BeOK b c) {q n : Nat} (hq : q < 48) (hn : n ≤ 9999) : BeOK (picB b q (nI n)) c := by
  have e2 : nI n / 2 = nI (n / 2) := pk_div (d := 2) (by omega) (by omega) (by omega)
  have f1 : ∀ b, BeOK b c → BeOK ((fun b : Bch => if 8 ≤ q then adB b (q - 8) (nI n / 2) else b) b) c := fun b hb => by
    show BeOK (if 8 ≤ q then adB b (q - 8) (nI n / 2) else b) c
    by_cases z : 8 ≤ q
    · rw [if_pos z, e2]; exact adB_ok hb (by omega) (by omega)
    · rw [if_neg z]; exact hb
  have f2 : ∀ b, BeOK b c → BeOK ((fun b : Bch => if q + 8 < 48 then adB b (q + 8) (nI n / 2) else b) b) c := fun b hb => by
    show BeOK (if q + 8 < 48 then adB b (q + 8) (nI n / 2) else b) c
    by_cases z : q + 8 < 48
    · rw [if_pos z, e2]; exact adB_ok hb (by omega) (by omega)
    · rw [if_neg z]; exact hb
  have f3 : ∀ b, BeOK b c → BeOK ((fun b : Bch => if 0 < q % 8 then adB b (q - 1) (nI n / 2) else b) b) c := fun b hb => by
    show BeOK (if 0 < q % 8 then adB b (q - 1) (nI n / 2) else b) c
    by_cases z : 0 < q % 8
    · rw [if_pos z, e2]; exact adB_ok hb (by omega) (by omega)
    · rw [if_neg z]; exact hb
  have f4 : ∀ b, BeOK b c → BeOK ((fun b : Bch => if q % 8 < 7 then adB b (q + 1) (nI n / 2) else b) b) c := fun b hb => by
    show BeOK (if q % 8 < 7 then adB b (q + 1) (nI n / 2) else b) c
    by_cases z : q % 8 < 7
    · rw [if_pos z, e2]; exact adB_ok hb (by omega) (by omega)
    · rw [if_neg z]; exact hb
  exact f4 _ (f3 _ (f2 _ (f1 _ (adB_ok h hq hn))))
theorem snB_ok {b : Bch} {c : Nat} (h : BeOK b c) {it : Nat → Int32} {n : Nat} (hn : n ≤ 9999) : ∀ i, (∀ k, k < i → isC (it k)) → BeOK (snB b it (nI n) i) c := by
  intro i
  induction i with
  | zero => intro _; exact h
  | succ i ih =>
    intro hi
    obtain ⟨q, hq, e⟩ := isC_ex (hi i (by omega))
    refine picB_ok (ih (fun k hk => hi k (by omega))) ?_ hn
    rw [e, tn_nI (by omega)]
    exact hq
def imageI (b : Bch) : Int32 := b 0 3
theorem c3 {s : Int32} (h : ¬ (0 ≤ s ∧ s ≤ 3)) {j : Nat} (hj : j < 4) (e : s = nI j) : False := h (by rw [e]; exact ⟨nI_pos' (by omega), nI_le (b := 3) (by omega) (by omega)⟩)
theorem r3 {j : Nat} (hj : j < 4) : 0 ≤ nI j ∧ nI j ≤ 3 := ⟨nI_pos' (by omega), nI_le (b := 3) (by omega) (by omega)⟩
theorem qX11_crowd_0 : Dq cX11_crowd 0 (.iload_n 1) 1 1 := ⟨by decide +kernel, rfl⟩
theorem qX11_crowd_1 : Dq cX11_crowd 1 (.invokestatic 107) 3 4 := ⟨by decide +kernel, rfl⟩
theorem qX11_crowd_4 : Dq cX11_crowd 4 (.ifCond .eq 23) 3 7 := ⟨by decide +kernel, rfl⟩
theorem qX11_crowd_7 : Dq cX11_crowd 7 (.iload_n 2) 1 8 := ⟨by decide +kernel, rfl⟩
theorem qX11_crowd_8 : Dq cX11_crowd 8 (.iconst 1) 1 9 := ⟨by decide +kernel, rfl⟩
theorem qX11_crowd_9 : Dq cX11_crowd 9 (.bipush 8) 2 11 := ⟨by decide +kernel, rfl⟩
theorem qX11_crowd_11 : Dq cX11_crowd 11 (.invokestatic 110) 3 14 := ⟨by decide +kernel, rfl⟩
theorem qX11_crowd_14 : Dq cX11_crowd 14 (.ifCond .eq 13) 3 17 := ⟨by decide +kernel, rfl⟩
theorem qX11_crowd_17 : Dq cX11_crowd 17 (.iload_n 3) 1 18 := ⟨by decide +kernel, rfl⟩
theorem qX11_crowd_18 : Dq cX11_crowd 18 (.iconst 1) 1 19 := ⟨by decide +kernel, rfl⟩
theorem qX11_crowd_19 : Dq cX11_crowd 19 (.bipush 99) 2 21 := ⟨by decide +kernel, rfl⟩
theorem qX11_crowd_21 : Dq cX11_crowd 21 (.invokestatic 110) 3 24 := ⟨by decide +kernel, rfl⟩
theorem qX11_crowd_24 : Dq cX11_crowd 24 (.ifCond .ne 6) 3 27 := ⟨by decide +kernel, rfl⟩
theorem qX11_crowd_27 : Dq cX11_crowd 27 (.bipush (-2)) 2 29 := ⟨by decide +kernel, rfl⟩
theorem qX11_crowd_29 : Dq cX11_crowd 29 (.ireturn) 1 30 := ⟨by decide +kernel, rfl⟩
theorem qX11_crowd_30 : Dq cX11_crowd 30 (.iload_n 2) 1 31 := ⟨by decide +kernel, rfl⟩
theorem qX11_crowd_31 : Dq cX11_crowd 31 (.bipush 8) 2 33 := ⟨by decide +kernel, rfl⟩
theorem qX11_crowd_33 : Dq cX11_crowd 33 (.iload_n 1) 1 34 := ⟨by decide +kernel, rfl⟩
theorem qX11_crowd_34 : Dq cX11_crowd 34 (.bipush 8) 2 36 := ⟨by decide +kernel, rfl⟩
theorem qX11_crowd_36 : Dq cX11_crowd 36 (.irem) 1 37 := ⟨by decide +kernel, rfl⟩
theorem qX11_crowd_37 : Dq cX11_crowd 37 (.isub) 1 38 := ⟨by decide +kernel, rfl⟩
theorem qX11_crowd_38 : Dq cX11_crowd 38 (.invokestatic 253) 3 41 := ⟨by decide +kernel, rfl⟩
theorem qX11_crowd_41 : Dq cX11_crowd 41 (.istore 4) 2 43 := ⟨by decide +kernel, rfl⟩
theorem qX11_crowd_43 : Dq cX11_crowd 43 (.iconst 0) 1 44 := ⟨by decide +kernel, rfl⟩
theorem qX11_crowd_44 : Dq cX11_crowd 44 (.istore 5) 2 46 := ⟨by decide +kernel, rfl⟩
theorem qX11_crowd_46 : Dq cX11_crowd 46 (.iload 5) 2 48 := ⟨by decide +kernel, rfl⟩
theorem qX11_crowd_48 : Dq cX11_crowd 48 (.iload 4) 2 50 := ⟨by decide +kernel, rfl⟩
theorem qX11_crowd_50 : Dq cX11_crowd 50 (.if_icmp .ge 21) 3 53 := ⟨by decide +kernel, rfl⟩
theorem qX11_crowd_53 : Dq cX11_crowd 53 (.aload_n 0) 1 54 := ⟨by decide +kernel, rfl⟩
theorem qX11_crowd_54 : Dq cX11_crowd 54 (.getfield 10) 3 57 := ⟨by decide +kernel, rfl⟩
theorem qX11_crowd_57 : Dq cX11_crowd 57 (.iload_n 1) 1 58 := ⟨by decide +kernel, rfl⟩
theorem qX11_crowd_58 : Dq cX11_crowd 58 (.iload 5) 2 60 := ⟨by decide +kernel, rfl⟩
theorem qX11_crowd_60 : Dq cX11_crowd 60 (.iadd) 1 61 := ⟨by decide +kernel, rfl⟩
theorem qX11_crowd_61 : Dq cX11_crowd 61 (.iload_n 3) 1 62 := ⟨by decide +kernel, rfl⟩
theorem qX11_crowd_62 : Dq cX11_crowd 62 (.invokevirtual 258) 3 65 := ⟨by decide +kernel, rfl⟩
theorem qX11_crowd_65 : Dq cX11_crowd 65 (.iinc 5 1) 3 68 := ⟨by decide +kernel, rfl⟩
theorem qX11_crowd_68 : Dq cX11_crowd 68 (.goto (-22)) 3 71 := ⟨by decide +kernel, rfl⟩
theorem qX11_crowd_71 : Dq cX11_crowd 71 (.iload 4) 2 73 := ⟨by decide +kernel, rfl⟩
theorem qX11_crowd_73 : Dq cX11_crowd 73 (.ireturn) 1 74 := ⟨by decide +kernel, rfl⟩
set_option maxRecDepth 100000 in
set_option maxHeartbeats 4000000 in
theorem c_crowd {G : Glb} {h : AHp} {E : Sst} (hc : CV h E) (c n t : Int32) : CP G m_X11_crowd 4 0 0 [.ref 0, .int c, .int n, .int t] h (fun r h' => r = some (.int (crowdI (sB E) c n t).1) ∧ ∃ σ, h' = (σ, h.2) ∧ CV (σ, h.2) (setB E (crowdI (sB E) c n t).2) ∧ K38 h σ) := by
  suffices key : ∀ P : Option Value → AHp → Prop, (∀ r h', (r = some (.int (crowdI (sB E) c n t).1) ∧ ∃ σ, h' = (σ, h.2) ∧ CV (σ, h.2) (setB E (crowdI (sB E) c n t).2) ∧ K38 h σ) → P r h') → CP G m_X11_crowd 4 0 0 [.ref 0, .int c, .int n, .int t] h P from key _ (fun _ _ z => z)
  intro P hP
  have hs := hc.sh
  have hru := hc.ru
  have hca := hc.ca
  have hbe := hc.be
  have hok := hc.ok
  obtain ⟨hrl, hrl5⟩ := hbe.rl hok.1
  rw [bv0 (by omega) (by omega)] at hrl5
  have hh3 := hbe.2.2.2.1
  rw [bv0 (by omega) (by omega)] at hh3
  refine CP.of (by decide +kernel) (Nat.le_of_ble_eq_true rfl) fun X hX hR hnm => ?_
  show V X G 6 0 0 _ 0 [some (.ref 0), some (.int c), some (.int n), some (.int t), none, none] [] h
  refine v_iload_n hX rfl qX11_crowd_0 ?_
  refine v_callSq hX hR k_X11_107 (c_isCell _) rfl (Nat.le_of_ble_eq_true rfl) rfl (Nat.le_of_ble_eq_true rfl) ⟨Nat.le_of_ble_eq_true rfl, Nat.le_of_ble_eq_true rfl⟩ qX11_crowd_1 ?_
  rintro _ _ ⟨rfl, rfl⟩
  first | refine v_if_eqB hX 27 qX11_crowd_4 rfl (fun q4 => ?_) (fun q4 => ?_) | refine v_if_eq hX 27 qX11_crowd_4 rfl (fun q4 => ?_) (fun q4 => ?_)
  · skip
    refine v_bipush hX lb_n2 qX11_crowd_27 ?_
    refine v_ireturn hX qX11_crowd_29 (hP _ _ ?_)
    first | (rw [crowdI, if_neg (fun z => q4 z.1)]; exact ⟨rfl, h.1, rfl, hc, fun a _ => rfl⟩) | (rw [crowdI, if_neg (fun z => q14 z.2.1)]; exact ⟨rfl, h.1, rfl, hc, fun a _ => rfl⟩) | (rw [crowdI, if_neg (fun z => q24 z.2.2)]; exact ⟨rfl, h.1, rfl, hc, fun a _ => rfl⟩)
  · obtain ⟨q, hq, rfl⟩ := isC_ex q4
    refine v_iload_n hX rfl qX11_crowd_7 ?_
    refine v_iconst hX li_1 qX11_crowd_8 ?_
    refine v_bipush hX lb_8 qX11_crowd_9 ?_
    refine v_callSq hX hR k_X11_110 (c_isWithin _ _ _) rfl (Nat.le_of_ble_eq_true rfl) rfl (Nat.le_of_ble_eq_true rfl) ⟨Nat.le_of_ble_eq_true rfl, Nat.le_of_ble_eq_true rfl⟩ qX11_crowd_11 ?_
    rintro _ _ ⟨rfl, rfl⟩
    first | refine v_if_eqB hX 27 qX11_crowd_14 rfl (fun q14 => ?_) (fun q14 => ?_) | refine v_if_eq hX 27 qX11_crowd_14 rfl (fun q14 => ?_) (fun q14 => ?_)
    · skip
      refine v_bipush hX lb_n2 qX11_crowd_27 ?_
      refine v_ireturn hX qX11_crowd_29 (hP _ _ ?_)
      first | (rw [crowdI, if_neg (fun z => q4 z.1)]; exact ⟨rfl, h.1, rfl, hc, fun a _ => rfl⟩) | (rw [crowdI, if_neg (fun z => q14 z.2.1)]; exact ⟨rfl, h.1, rfl, hc, fun a _ => rfl⟩) | (rw [crowdI, if_neg (fun z => q24 z.2.2)]; exact ⟨rfl, h.1, rfl, hc, fun a _ => rfl⟩)
    · skip
      refine v_iload_n hX rfl qX11_crowd_17 ?_
      refine v_iconst hX li_1 qX11_crowd_18 ?_
      refine v_bipush hX lb_99 qX11_crowd_19 ?_
      refine v_callSq hX hR k_X11_110 (c_isWithin _ _ _) rfl (Nat.le_of_ble_eq_true rfl) rfl (Nat.le_of_ble_eq_true rfl) ⟨Nat.le_of_ble_eq_true rfl, Nat.le_of_ble_eq_true rfl⟩ qX11_crowd_21 ?_
      rintro _ _ ⟨rfl, rfl⟩
      first | refine v_if_neB hX 30 qX11_crowd_24 rfl (fun q24 => ?_) (fun q24 => ?_) | refine v_if_ne hX 30 qX11_crowd_24 rfl (fun q24 => ?_) (fun q24 => ?_)
      · obtain ⟨nn, hnn, rfl⟩ := rng_ex 8 (by omega) ⟨leI.mpr (by have := leI.mp q14.1; have e1 : (1 : Int32).toInt = 1 := rfl; have e0 : (0 : Int32).toInt = 0 := rfl; omega), q14.2⟩
        refine v_iload_n hX rfl qX11_crowd_30 ?_
        refine v_bipush hX lb_8 qX11_crowd_31 ?_
        refine v_iload_n hX rfl qX11_crowd_33 ?_
        refine v_bipush hX lb_8 qX11_crowd_34 ?_
        refine v_irem hX (by decide) qX11_crowd_36 ?_
        refine v_eqI (show _ = nI (q % 8) from pk_rem (d := 8) (by omega) (by omega) (by omega)) ?_
        refine v_isub hX qX11_crowd_37 ?_
        refine v_eqI (show (8 : Int32) - nI (q % 8) = nI (8 - q % 8) from pk_sub (a := 8) (by omega)) ?_
        refine v_min hX hR (Nat.le_of_ble_eq_true rfl) k_X11_253 (Nat.le_of_ble_eq_true rfl) ⟨Nat.le_of_ble_eq_true rfl, Nat.le_of_ble_eq_true rfl⟩ qX11_crowd_38 ?_
        refine v_eqI (show (if nI (8 - q % 8) < nI nn then nI (8 - q % 8) else nI nn) = nI (min nn (8 - q % 8)) by
          by_cases z : 8 - q % 8 < nn
          · rw [if_pos (nI_lt z (by omega)), Nat.min_eq_right (by omega)]
          · rw [if_neg (nI_nlt (by omega) (by omega)), Nat.min_eq_left (by omega)]) ?_
        have hmn : (min nn (8 - q % 8)) ≤ 8 - q % 8 := Nat.min_le_right _ _
        refine v_istore hX (Nat.le_of_ble_eq_true rfl) rfl (ls' := [some _, some _, some _, some _, some _, none]) rfl qX11_crowd_41 ?_
        refine v_iconst hX li_0 qX11_crowd_43 ?_
        refine v_istore hX (Nat.le_of_ble_eq_true rfl) rfl (ls' := [some _, some _, some _, some _, some _, some _]) rfl qX11_crowd_44 ?_
        have L46 : ∀ (mz : Nat) (i : Nat) (σ : Nat → Nat → Int32), (min nn (8 - q % 8)) - i = mz → (i ≤ (min nn (8 - q % 8))) → (∀ a, a ≠ 3 → σ a = hpI h a) → (bv (σ, h.2) 1 = crB (sB E) q t i) → V X G 6 0 0 (QM X G P 0 0) 46 [some (.ref 0), some (.int (nI q)), some (.int (nI nn)), some (.int t), some (.int (nI (min nn (8 - q % 8)))), some (.int (nI i))] [] (σ, h.2) := by
          intro mz
          induction mz using Nat.strongRecOn with
          | _ mz ih =>
          intro i σ hm hi hf hbv
          refine v_iload hX rfl qX11_crowd_46 ?_
          refine v_iload hX rfl qX11_crowd_48 ?_
          refine v_icmp_geS hX 71 qX11_crowd_50 rfl (fun q50 => ?_) (fun q50 => ?_)
          · have e1 : i = (min nn (8 - q % 8)) := Nat.le_antisymm hi (nI_le' (by omega) (by omega) q50)
            refine v_iload hX rfl qX11_crowd_71 ?_
            refine v_ireturn hX qX11_crowd_73 (hP _ _ ?_)
            rw [crowdI, if_pos (show isC (nI q) ∧ ((1 ≤ nI nn ∧ nI nn ≤ 8) ∧ (1 ≤ t ∧ t ≤ 99)) from ⟨isCn hq, q14, q24⟩), tn_nI (show q < 2000000 by omega), tn_nI (show nn < 2000000 by omega), ← e1]
            exact ⟨rfl, σ, rfl, hc.q (fun a k a1 _ _ _ => congrFun (hf a (by omega)) k) (hca.eq (fun a a1 a2 k _ => congrFun (hf a (by omega)) k)) hbv (crB_ok hok.2.2.2.1 q24 i (by omega)), fun a ha => hf a (by omega)⟩
          · have hl := nI_lt' (by omega) (by omega) q50
            refine v_aload_n hX rfl qX11_crowd_53 ?_
            refine v_getR hX g_X11_10 (hs.kd 0 rfl) (hs.rf 0 rfl) qX11_crowd_54 ?_
            refine v_iload_n hX rfl qX11_crowd_57 ?_
            refine v_iload hX rfl qX11_crowd_58 ?_
            refine v_iadd hX qX11_crowd_60 ?_
            refine v_eqI (nI_add q i) ?_
            refine v_iload_n hX rfl qX11_crowd_61 ?_
            refine v_callVq hX hR k_X11_258 (hs.kd 1 rfl) (c_addTreads (by exact hs) (by exact (Or.inl rfl)) (by exact (isCn (q := q + i) (by omega))) _) rfl (Nat.le_of_ble_eq_true rfl) rfl (Nat.le_of_ble_eq_true rfl) ⟨Nat.le_of_ble_eq_true rfl, Nat.le_of_ble_eq_true rfl⟩ qX11_crowd_62 ?_
            rintro _ _ ⟨rfl, rfl⟩
            refine v_iinc hX rfl (by first | exact ii_nI _ | exact ii_1 _) (Nat.le_of_ble_eq_true rfl) rfl (ls' := [some _, some _, some _, some _, some _, some _]) rfl qX11_crowd_65 ?_
            refine v_goto hX 46 qX11_crowd_68 rfl ?_
            rw [tn_nI (show q + i < 2000000 by omega)]
            exact ih _ (by omega) (i + 1) (stI (σ, h.2) 3 (q + i) (mnI 99 (hpI (σ, h.2) 3 (q + i) + t))).1 rfl (by omega) (fun a ha => funext fun k => by show hpI (stI _ _ _ _) _ _ = _; rw [hpI_st, if_neg (fun z => ha z.1)]; exact congrFun (hf a ha) k) (by show bv (stI (σ, h.2) (1 + 2) (q + i) _) 1 = _; rw [bv_up (Or.inl rfl) (Or.inl ⟨Or.inr rfl, by omega⟩), hbv]; show _ = up2 _ 2 (q + i) (mnI 99 (crB (sB E) q t i 2 (q + i) + t)); rw [← hbv, bv2 (by omega)])
        exact L46 _ 0 h.1 rfl (by omega) (fun a _ => rfl) hc.b
      · skip
        refine v_bipush hX lb_n2 qX11_crowd_27 ?_
        refine v_ireturn hX qX11_crowd_29 (hP _ _ ?_)
        first | (rw [crowdI, if_neg (fun z => q4 z.1)]; exact ⟨rfl, h.1, rfl, hc, fun a _ => rfl⟩) | (rw [crowdI, if_neg (fun z => q14 z.2.1)]; exact ⟨rfl, h.1, rfl, hc, fun a _ => rfl⟩) | (rw [crowdI, if_neg (fun z => q24 z.2.2)]; exact ⟨rfl, h.1, rfl, hc, fun a _ => rfl⟩)
theorem qX11_judge_0 : Dq cX11_judge 0 (.aload_n 0) 1 1 := ⟨by decide +kernel, rfl⟩
theorem qX11_judge_1 : Dq cX11_judge 1 (.iload_n 1) 1 2 := ⟨by decide +kernel, rfl⟩
theorem qX11_judge_2 : Dq cX11_judge 2 (.invokevirtual 234) 3 5 := ⟨by decide +kernel, rfl⟩
theorem qX11_judge_5 : Dq cX11_judge 5 (.astore_n 2) 1 6 := ⟨by decide +kernel, rfl⟩
theorem qX11_judge_6 : Dq cX11_judge 6 (.aload_n 2) 1 7 := ⟨by decide +kernel, rfl⟩
theorem qX11_judge_7 : Dq cX11_judge 7 (.ifnonnull 6) 3 10 := ⟨by decide +kernel, rfl⟩
theorem qX11_judge_10 : Dq cX11_judge 10 (.bipush (-2)) 2 12 := ⟨by decide +kernel, rfl⟩
theorem qX11_judge_12 : Dq cX11_judge 12 (.ireturn) 1 13 := ⟨by decide +kernel, rfl⟩
theorem qX11_judge_13 : Dq cX11_judge 13 (.aload_n 2) 1 14 := ⟨by decide +kernel, rfl⟩
theorem qX11_judge_14 : Dq cX11_judge 14 (.invokevirtual 238) 3 17 := ⟨by decide +kernel, rfl⟩
theorem qX11_judge_17 : Dq cX11_judge 17 (.ifCond .eq 6) 3 20 := ⟨by decide +kernel, rfl⟩
theorem qX11_judge_20 : Dq cX11_judge 20 (.bipush (-11)) 2 22 := ⟨by decide +kernel, rfl⟩
theorem qX11_judge_22 : Dq cX11_judge 22 (.ireturn) 1 23 := ⟨by decide +kernel, rfl⟩
theorem qX11_judge_23 : Dq cX11_judge 23 (.aload_n 2) 1 24 := ⟨by decide +kernel, rfl⟩
theorem qX11_judge_24 : Dq cX11_judge 24 (.invokevirtual 261) 3 27 := ⟨by decide +kernel, rfl⟩
theorem qX11_judge_27 : Dq cX11_judge 27 (.ifCond .eq 8) 3 30 := ⟨by decide +kernel, rfl⟩
theorem qX11_judge_30 : Dq cX11_judge 30 (.bipush (-2)) 2 32 := ⟨by decide +kernel, rfl⟩
theorem qX11_judge_32 : Dq cX11_judge 32 (.goto 8) 3 35 := ⟨by decide +kernel, rfl⟩
theorem qX11_judge_35 : Dq cX11_judge 35 (.aload_n 0) 1 36 := ⟨by decide +kernel, rfl⟩
theorem qX11_judge_36 : Dq cX11_judge 36 (.aload_n 2) 1 37 := ⟨by decide +kernel, rfl⟩
theorem qX11_judge_37 : Dq cX11_judge 37 (.invokevirtual 264) 3 40 := ⟨by decide +kernel, rfl⟩
theorem qX11_judge_40 : Dq cX11_judge 40 (.ireturn) 1 41 := ⟨by decide +kernel, rfl⟩
set_option maxRecDepth 100000 in
set_option maxHeartbeats 4000000 in
theorem c_judge {G : Glb} {h : AHp} {E : Sst} (hc : CV h E) (s : Int32) : CP G m_X11_judge 8 0 0 [.ref 0, .int s] h (fun r h' => r = some (.int (judgeI E s)) ∧ ∃ σ, h' = (σ, h.2) ∧ CV (σ, h.2) E ∧ K38 h σ) := by
  suffices key : ∀ P : Option Value → AHp → Prop, (∀ r h', (r = some (.int (judgeI E s)) ∧ ∃ σ, h' = (σ, h.2) ∧ CV (σ, h.2) E ∧ K38 h σ) → P r h') → CP G m_X11_judge 8 0 0 [.ref 0, .int s] h P from key _ (fun _ _ z => z)
  intro P hP
  have hs := hc.sh
  have hru := hc.ru
  have hca := hc.ca
  have hbe := hc.be
  have hok := hc.ok
  obtain ⟨hrl, hrl5⟩ := hbe.rl hok.1
  rw [bv0 (by omega) (by omega)] at hrl5
  have hh3 := hbe.2.2.2.1
  rw [bv0 (by omega) (by omega)] at hh3
  obtain ⟨e, hp⟩ := hc.pt
  have hm6 := hp.2.1
  have hnu := hc.nu
  refine CP.of (by decide +kernel) (Nat.le_of_ble_eq_true rfl) fun X hX hR hnm => ?_
  show V X G 3 0 0 _ 0 [some (.ref 0), some (.int s), none] [] h
  refine v_aload_n hX rfl qX11_judge_0 ?_
  refine v_iload_n hX rfl qX11_judge_1 ?_
  refine v_callVq hX hR k_X11_234 (hs.kd 0 rfl) (c_sheetAt (by exact hs) _) rfl (Nat.le_of_ble_eq_true rfl) rfl (Nat.le_of_ble_eq_true rfl) ⟨Nat.le_of_ble_eq_true rfl, Nat.le_of_ble_eq_true rfl⟩ qX11_judge_2 ?_
  rintro _ _ ⟨⟨j, hj, rfl, rfl⟩ | ⟨hn, rfl⟩, rfl⟩
  · obtain ⟨g1, g2, g3⟩ := hc.st j hj
    have hr3 := r3 hj
    have hl40 := (hok.2.2.2.2.2.2.2 j hj).1
    refine v_astore_n hX (Nat.le_of_ble_eq_true rfl) rfl (ls' := [some _, some _, some _]) rfl qX11_judge_5 ?_
    refine v_aload_n hX rfl qX11_judge_6 ?_
    refine v_ifnonnull hX 13 qX11_judge_7 rfl ?_
    refine v_aload_n hX rfl qX11_judge_13 ?_
    refine v_callVq hX hR k_X11_238 (hs.sk (isS_j hj)) (c_isMissing (by exact hs) (by exact (isS_j hj))) rfl (Nat.le_of_ble_eq_true rfl) rfl (Nat.le_of_ble_eq_true rfl) ⟨Nat.le_of_ble_eq_true rfl, Nat.le_of_ble_eq_true rfl⟩ qX11_judge_14 ?_
    rintro _ _ ⟨rfl, rfl⟩
    first | refine v_if_eqB hX 23 qX11_judge_17 rfl (fun q17 => ?_) (fun q17 => ?_) | refine v_if_eq hX 23 qX11_judge_17 rfl (fun q17 => ?_) (fun q17 => ?_)
    · skip
      refine v_aload_n hX rfl qX11_judge_23 ?_
      refine v_callVq hX hR k_X11_261 (hs.sk (isS_j hj)) (c_isOdd (by exact hs) (by exact (isS_j hj))) rfl (Nat.le_of_ble_eq_true rfl) rfl (Nat.le_of_ble_eq_true rfl) ⟨Nat.le_of_ble_eq_true rfl, Nat.le_of_ble_eq_true rfl⟩ qX11_judge_24 ?_
      rintro _ _ ⟨rfl, rfl⟩
      rw [g2]
      first | refine v_if_eqB hX 35 qX11_judge_27 rfl (fun q27 => ?_) (fun q27 => ?_) | refine v_if_eq hX 35 qX11_judge_27 rfl (fun q27 => ?_) (fun q27 => ?_)
      · skip
        refine v_aload_n hX rfl qX11_judge_35 ?_
        refine v_aload_n hX rfl qX11_judge_36 ?_
        refine v_callVq hX hR k_X11_264 (hs.kd 0 rfl) (c_firstWrongRow (by exact hs) (by exact hru) (by exact hca) (by exact hbe) (by exact hp) (by exact hnu) (by exact (isS_j hj)) (by exact g2) (by exact hl40)) rfl (Nat.le_of_ble_eq_true rfl) rfl (Nat.le_of_ble_eq_true rfl) ⟨Nat.le_of_ble_eq_true rfl, Nat.le_of_ble_eq_true rfl⟩ qX11_judge_37 ?_
        rintro _ _ ⟨rfl, σ, rfl, hf, hca2, z13⟩
        have cg1 : ∀ i, i < sL E j / 2 → jBad (sT E) (sM E) (sK E) (sN E) (hpI h (30 + 2 * j + 1)) (bv h 1) i = jbE E j i := fun i hi => by rw [hc.b]; exact jBad_congr i (fun k hk => g3 k (by omega))
        refine v_ireturn hX qX11_judge_40 (hP _ _ ?_)
        first | (rw [judgeI, if_pos (show 0 ≤ nI j ∧ nI j ≤ 3 from hr3), tn_nI (show j < 2000000 by omega), if_neg (fun z => q17 (g1.trans z)), if_pos q27]; exact ⟨rfl, h.1, rfl, hc, fun a _ => rfl⟩) | (rw [judgeI, if_pos (show 0 ≤ nI j ∧ nI j ≤ 3 from hr3), tn_nI (show j < 2000000 by omega), if_neg (fun z => q17 (g1.trans z)), if_neg q27]; exact ⟨congrArg (fun z => some (Value.int z)) (fx_congr _ _ (fun k _ hk => cg1 k (by omega))), σ, rfl, hc.p hf hca2, hf.k⟩)
      · skip
        refine v_bipush hX lb_n2 qX11_judge_30 ?_
        refine v_goto hX 40 qX11_judge_32 rfl ?_
        refine v_ireturn hX qX11_judge_40 (hP _ _ ?_)
        first | (rw [judgeI, if_pos (show 0 ≤ nI j ∧ nI j ≤ 3 from hr3), tn_nI (show j < 2000000 by omega), if_neg (fun z => q17 (g1.trans z)), if_pos q27]; exact ⟨rfl, h.1, rfl, hc, fun a _ => rfl⟩) | (rw [judgeI, if_pos (show 0 ≤ nI j ∧ nI j ≤ 3 from hr3), tn_nI (show j < 2000000 by omega), if_neg (fun z => q17 (g1.trans z)), if_neg q27]; exact ⟨congrArg (fun z => some (Value.int z)) (fx_congr _ _ (fun k _ hk => cg1 k (by omega))), σ, rfl, hc.p hf hca2, hf.k⟩)
    · skip
      refine v_bipush hX lb_n11 qX11_judge_20 ?_
      refine v_ireturn hX qX11_judge_22 (hP _ _ ?_)
      rw [judgeI, if_pos (show 0 ≤ nI j ∧ nI j ≤ 3 from hr3), tn_nI (show j < 2000000 by omega), if_pos (g1.symm.trans q17)]
      exact ⟨rfl, h.1, rfl, hc, fun a _ => rfl⟩
  · skip
    refine v_astore_nN hX (Nat.le_of_ble_eq_true rfl) rfl (ls' := [some _, some _, some _]) rfl qX11_judge_5 ?_
    refine v_aload_nN hX rfl qX11_judge_6 ?_
    refine v_ifnonnullN hX qX11_judge_7 ?_
    refine v_bipush hX lb_n2 qX11_judge_10 ?_
    refine v_ireturn hX qX11_judge_12 (hP _ _ ?_)
    rw [judgeI, if_neg hn]
    exact ⟨rfl, h.1, rfl, hc, fun a _ => rfl⟩
theorem qX11_found_0 : Dq cX11_found 0 (.aload_n 0) 1 1 := ⟨by decide +kernel, rfl⟩
theorem qX11_found_1 : Dq cX11_found 1 (.iload_n 1) 1 2 := ⟨by decide +kernel, rfl⟩
theorem qX11_found_2 : Dq cX11_found 2 (.invokevirtual 234) 3 5 := ⟨by decide +kernel, rfl⟩
theorem qX11_found_5 : Dq cX11_found 5 (.astore_n 3) 1 6 := ⟨by decide +kernel, rfl⟩
theorem qX11_found_6 : Dq cX11_found 6 (.aload_n 3) 1 7 := ⟨by decide +kernel, rfl⟩
theorem qX11_found_7 : Dq cX11_found 7 (.ifnull 17) 3 10 := ⟨by decide +kernel, rfl⟩
theorem qX11_found_10 : Dq cX11_found 10 (.aload_n 3) 1 11 := ⟨by decide +kernel, rfl⟩
theorem qX11_found_11 : Dq cX11_found 11 (.invokevirtual 238) 3 14 := ⟨by decide +kernel, rfl⟩
theorem qX11_found_14 : Dq cX11_found 14 (.ifCond .ne 10) 3 17 := ⟨by decide +kernel, rfl⟩
theorem qX11_found_17 : Dq cX11_found 17 (.aload_n 3) 1 18 := ⟨by decide +kernel, rfl⟩
theorem qX11_found_18 : Dq cX11_found 18 (.invokevirtual 261) 3 21 := ⟨by decide +kernel, rfl⟩
theorem qX11_found_21 : Dq cX11_found 21 (.ifCond .eq 7) 3 24 := ⟨by decide +kernel, rfl⟩
theorem qX11_found_24 : Dq cX11_found 24 (.ldc2_w 206) 3 27 := ⟨by decide +kernel, rfl⟩
theorem qX11_found_27 : Dq cX11_found 27 (.lreturn) 1 28 := ⟨by decide +kernel, rfl⟩
theorem qX11_found_28 : Dq cX11_found 28 (.aload_n 0) 1 29 := ⟨by decide +kernel, rfl⟩
theorem qX11_found_29 : Dq cX11_found 29 (.aload_n 3) 1 30 := ⟨by decide +kernel, rfl⟩
theorem qX11_found_30 : Dq cX11_found 30 (.invokevirtual 264) 3 33 := ⟨by decide +kernel, rfl⟩
theorem qX11_found_33 : Dq cX11_found 33 (.pop) 1 34 := ⟨by decide +kernel, rfl⟩
theorem qX11_found_34 : Dq cX11_found 34 (.aload_n 0) 1 35 := ⟨by decide +kernel, rfl⟩
theorem qX11_found_35 : Dq cX11_found 35 (.getfield 268) 3 38 := ⟨by decide +kernel, rfl⟩
theorem qX11_found_38 : Dq cX11_found 38 (.i2l) 1 39 := ⟨by decide +kernel, rfl⟩
theorem qX11_found_39 : Dq cX11_found 39 (.aload_n 0) 1 40 := ⟨by decide +kernel, rfl⟩
theorem qX11_found_40 : Dq cX11_found 40 (.getfield 10) 3 43 := ⟨by decide +kernel, rfl⟩
theorem qX11_found_43 : Dq cX11_found 43 (.invokevirtual 208) 3 46 := ⟨by decide +kernel, rfl⟩
theorem qX11_found_46 : Dq cX11_found 46 (.i2l) 1 47 := ⟨by decide +kernel, rfl⟩
theorem qX11_found_47 : Dq cX11_found 47 (.iload_n 2) 1 48 := ⟨by decide +kernel, rfl⟩
theorem qX11_found_48 : Dq cX11_found 48 (.invokestatic 211) 3 51 := ⟨by decide +kernel, rfl⟩
theorem qX11_found_51 : Dq cX11_found 51 (.lreturn) 1 52 := ⟨by decide +kernel, rfl⟩
theorem fc_good {p : Nat → Bool} : ∀ n i k, i ≤ k → k < fc p n i → p k = false := by
  intro n
  induction n with
  | zero => intro i k h1 h2; unfold fc at h2; omega
  | succ n ih =>
    intro i k h1 h2
    unfold fc at h2
    by_cases hp : p i = true
    · rw [if_pos hp] at h2; omega
    · rw [if_neg hp] at h2
      by_cases e : k = i
      · subst e; simpa using hp
      · exact ih (i + 1) k (by omega) h2
theorem jSum_in {E : Sst} (hok : EOK E) {j : Nat} (hj : j < 4) : ∃ s, s ≤ 20 * 999999 ∧ jSum E j = nI s := by
  have h40 := (hok.2.2.2.2.2.2.2 j hj).1
  have hfc : fc (jbE E j) (sL E j / 2) 0 ≤ 0 + sL E j / 2 := fc_le _ _
  obtain ⟨s, h1, h2⟩ := sumN_in (f := jgE E j) (M := 999999) (by omega) (fc (jbE E j) (sL E j / 2) 0) (by omega) (fun k hk => by
    have hg : ∀ i, i < fc (jbE E j) (sL E j / 2) 0 → jbE E j i = false := fun i hi => fc_good _ _ i (Nat.zero_le _) hi
    have hb := jbs_ok (m := sM E) hok.2.1 (fun i hi => (hok.2.2.1 i hi).2) hok.2.2.2.1 k (fun i hi => hg i (by omega))
    have hk2 := hg k hk
    unfold jbE jBad jOK at hk2
    simp at hk2
    obtain ⟨q, hq, e⟩ := isC_ex hk2.2.1
    have := gainB_in (sT E) hb (sK E (tn (sI' E j (2 * k)))) (sN E (tn (sI' E j (2 * k)))) hq
    unfold jgE jGain
    rw [e, tn_nI (by omega)]
    exact this)
  refine ⟨s, Nat.le_trans h1 (Nat.mul_le_mul_right _ (by omega)), h2⟩
set_option maxRecDepth 100000 in
set_option maxHeartbeats 4000000 in
theorem c_found {G : Glb} {h : AHp} {E : Sst} (hc : CV h E) (s q : Int32) : CP G m_X11_found 8 0 0 [.ref 0, .int s, .int q] h (fun r h' => r = some (.long (foundI E s q)) ∧ ∃ σ, h' = (σ, h.2) ∧ CV (σ, h.2) E ∧ K38 h σ) := by
  suffices key : ∀ P : Option Value → AHp → Prop, (∀ r h', (r = some (.long (foundI E s q)) ∧ ∃ σ, h' = (σ, h.2) ∧ CV (σ, h.2) E ∧ K38 h σ) → P r h') → CP G m_X11_found 8 0 0 [.ref 0, .int s, .int q] h P from key _ (fun _ _ z => z)
  intro P hP
  have hs := hc.sh
  have hru := hc.ru
  have hca := hc.ca
  have hbe := hc.be
  have hok := hc.ok
  obtain ⟨hrl, hrl5⟩ := hbe.rl hok.1
  rw [bv0 (by omega) (by omega)] at hrl5
  have hh3 := hbe.2.2.2.1
  rw [bv0 (by omega) (by omega)] at hh3
  obtain ⟨e, hp⟩ := hc.pt
  have hm6 := hp.2.1
  have hnu := hc.nu
  obtain ⟨A, hA, eA⟩ := allI_in hc.ok.2.2.2.1
  have tA : tn (allI (sB E)) = A := by rw [eA]; exact nI_clamp (by omega)
  refine CP.of (by decide +kernel) (Nat.le_of_ble_eq_true rfl) fun X hX hR hnm => ?_
  show V X G 4 0 0 _ 0 [some (.ref 0), some (.int s), some (.int q), none] [] h
  refine v_aload_n hX rfl qX11_found_0 ?_
  refine v_iload_n hX rfl qX11_found_1 ?_
  refine v_callVq hX hR k_X11_234 (hs.kd 0 rfl) (c_sheetAt (by exact hs) _) rfl (Nat.le_of_ble_eq_true rfl) rfl (Nat.le_of_ble_eq_true rfl) ⟨Nat.le_of_ble_eq_true rfl, Nat.le_of_ble_eq_true rfl⟩ qX11_found_2 ?_
  rintro _ _ ⟨⟨j, hj, rfl, rfl⟩ | ⟨hn, rfl⟩, rfl⟩
  · obtain ⟨g1, g2, g3⟩ := hc.st j hj
    have hr3 := r3 hj
    have hl40 := (hok.2.2.2.2.2.2.2 j hj).1
    refine v_astore_n hX (Nat.le_of_ble_eq_true rfl) rfl (ls' := [some _, some _, some _, some _]) rfl qX11_found_5 ?_
    refine v_aload_n hX rfl qX11_found_6 ?_
    refine v_ifnull hX qX11_found_7 ?_
    refine v_aload_n hX rfl qX11_found_10 ?_
    refine v_callVq hX hR k_X11_238 (hs.sk (isS_j hj)) (c_isMissing (by exact hs) (by exact (isS_j hj))) rfl (Nat.le_of_ble_eq_true rfl) rfl (Nat.le_of_ble_eq_true rfl) ⟨Nat.le_of_ble_eq_true rfl, Nat.le_of_ble_eq_true rfl⟩ qX11_found_11 ?_
    rintro _ _ ⟨rfl, rfl⟩
    first | refine v_if_neB hX 24 qX11_found_14 rfl (fun q14 => ?_) (fun q14 => ?_) | refine v_if_ne hX 24 qX11_found_14 rfl (fun q14 => ?_) (fun q14 => ?_)
    · skip
      refine v_ldc2 hX c_X11_206 qX11_found_24 ?_
      refine v_lreturn hX qX11_found_27 (hP _ _ ?_)
      first | (rw [foundI, if_neg (fun z => hn z.1)]; exact ⟨rfl, h.1, rfl, hc, fun a _ => rfl⟩) | (rw [foundI, tn_nI (show j < 2000000 by omega), if_neg (fun z : (0 ≤ nI j ∧ nI j ≤ 3) ∧ ¬ sS E j = -1 ∧ rmI (nI (sL E j)) 2 = 0 => z.2.1 (g1.symm.trans q14))]; exact ⟨rfl, h.1, rfl, hc, fun a _ => rfl⟩) | (rw [foundI, tn_nI (show j < 2000000 by omega), if_neg (fun z : (0 ≤ nI j ∧ nI j ≤ 3) ∧ ¬ sS E j = -1 ∧ rmI (nI (sL E j)) 2 = 0 => q21 z.2.2)]; exact ⟨rfl, h.1, rfl, hc, fun a _ => rfl⟩)
    · skip
      refine v_aload_n hX rfl qX11_found_17 ?_
      refine v_callVq hX hR k_X11_261 (hs.sk (isS_j hj)) (c_isOdd (by exact hs) (by exact (isS_j hj))) rfl (Nat.le_of_ble_eq_true rfl) rfl (Nat.le_of_ble_eq_true rfl) ⟨Nat.le_of_ble_eq_true rfl, Nat.le_of_ble_eq_true rfl⟩ qX11_found_18 ?_
      rintro _ _ ⟨rfl, rfl⟩
      rw [g2]
      first | refine v_if_eqB hX 28 qX11_found_21 rfl (fun q21 => ?_) (fun q21 => ?_) | refine v_if_eq hX 28 qX11_found_21 rfl (fun q21 => ?_) (fun q21 => ?_)
      · skip
        refine v_aload_n hX rfl qX11_found_28 ?_
        refine v_aload_n hX rfl qX11_found_29 ?_
        refine v_callVq hX hR k_X11_264 (hs.kd 0 rfl) (c_firstWrongRow (by exact hs) (by exact hru) (by exact hca) (by exact hbe) (by exact hp) (by exact hnu) (by exact (isS_j hj)) (by exact g2) (by exact hl40)) rfl (Nat.le_of_ble_eq_true rfl) rfl (Nat.le_of_ble_eq_true rfl) ⟨Nat.le_of_ble_eq_true rfl, Nat.le_of_ble_eq_true rfl⟩ qX11_found_30 ?_
        rintro _ _ ⟨rfl, σ, rfl, hf, hca2, z13⟩
        have cg1 : ∀ i, i < sL E j / 2 → jBad (sT E) (sM E) (sK E) (sN E) (hpI h (30 + 2 * j + 1)) (bv h 1) i = jbE E j i := fun i hi => by rw [hc.b]; exact jBad_congr i (fun k hk => g3 k (by omega))
        have hcv := hc.p hf hca2
        have efc : fc (jBad (sT E) (sM E) (sK E) (sN E) (hpI h (30 + 2 * j + 1)) (bv h 1)) (sL E j / 2) 0 = fc (jbE E j) (sL E j / 2) 0 := fc_congr _ _ (fun k _ hk => cg1 k (by omega))
        have hfc : fc (jbE E j) (sL E j / 2) 0 ≤ sL E j / 2 := by have := fc_le (p := jbE E j) (sL E j / 2) 0; omega
        have e13 : σ 0 13 = jSum E j := by
          rw [z13, efc]
          exact sumN_congr _ (fun k hk => by rw [hc.b]; exact jGain_congr k (fun l hl => g3 l (by omega)))
        obtain ⟨JS, hJS, eJS⟩ := jSum_in hok hj
        refine v_pop hX rfl qX11_found_33 ?_
        refine v_aload_n hX rfl qX11_found_34 ?_
        refine v_getIv hX g_X11_268 (Or.inl rfl) (hs.kd 0 rfl) e13 qX11_found_35 ?_
        refine v_i2l hX qX11_found_38 ?_
        refine v_eqL (i2l_in eJS (by omega)) ?_
        refine v_aload_n hX rfl qX11_found_39 ?_
        refine v_getR hX g_X11_10 (hs.kd 0 rfl) (hs.rf 0 rfl) qX11_found_40 ?_
        refine v_callVq hX hR k_X11_208 (hs.kd 1 rfl) (c_allOdds (by exact hs) (by exact (Or.inl rfl))) rfl (Nat.le_of_ble_eq_true rfl) rfl (Nat.le_of_ble_eq_true rfl) ⟨Nat.le_of_ble_eq_true rfl, Nat.le_of_ble_eq_true rfl⟩ qX11_found_43 ?_
        rintro _ _ ⟨rfl, rfl⟩
        refine v_eqI (show _ = allI (sB E) from hcv.all) ?_
        refine v_i2l hX qX11_found_46 ?_
        refine v_eqL (i2l_in eA (by omega)) ?_
        refine v_iload_n hX rfl qX11_found_47 ?_
        refine v_callSq hX hR k_X11_211 (c_partOfQuotient (a := tn (jSum E j)) (b := tn (allI (sB E))) (by rw [eJS, show tn (nI JS) = JS from nI_clamp (by omega)]; omega) (by omega) _) rfl (Nat.le_of_ble_eq_true rfl) rfl (Nat.le_of_ble_eq_true rfl) ⟨Nat.le_of_ble_eq_true rfl, Nat.le_of_ble_eq_true rfl⟩ qX11_found_48 ?_
        rintro _ _ ⟨rfl, rfl⟩
        refine v_lreturn hX qX11_found_51 (hP _ _ ?_)
        rw [foundI, tn_nI (show j < 2000000 by omega), if_pos (show (0 ≤ nI j ∧ nI j ≤ 3) ∧ ¬ sS E j = -1 ∧ rmI (nI (sL E j)) 2 = 0 from ⟨hr3, fun z => q14 (g1.trans z), Classical.byContradiction q21⟩)]
        exact ⟨rfl, σ, rfl, hcv, hf.k⟩
      · skip
        refine v_ldc2 hX c_X11_206 qX11_found_24 ?_
        refine v_lreturn hX qX11_found_27 (hP _ _ ?_)
        first | (rw [foundI, if_neg (fun z => hn z.1)]; exact ⟨rfl, h.1, rfl, hc, fun a _ => rfl⟩) | (rw [foundI, tn_nI (show j < 2000000 by omega), if_neg (fun z : (0 ≤ nI j ∧ nI j ≤ 3) ∧ ¬ sS E j = -1 ∧ rmI (nI (sL E j)) 2 = 0 => z.2.1 (g1.symm.trans q14))]; exact ⟨rfl, h.1, rfl, hc, fun a _ => rfl⟩) | (rw [foundI, tn_nI (show j < 2000000 by omega), if_neg (fun z : (0 ≤ nI j ∧ nI j ≤ 3) ∧ ¬ sS E j = -1 ∧ rmI (nI (sL E j)) 2 = 0 => q21 z.2.2)]; exact ⟨rfl, h.1, rfl, hc, fun a _ => rfl⟩)
  · skip
    refine v_astore_nN hX (Nat.le_of_ble_eq_true rfl) rfl (ls' := [some _, some _, some _, some _]) rfl qX11_found_5 ?_
    refine v_aload_nN hX rfl qX11_found_6 ?_
    refine v_ifnullN hX 24 qX11_found_7 rfl ?_
    refine v_ldc2 hX c_X11_206 qX11_found_24 ?_
    refine v_lreturn hX qX11_found_27 (hP _ _ ?_)
    first | (rw [foundI, if_neg (fun z => hn z.1)]; exact ⟨rfl, h.1, rfl, hc, fun a _ => rfl⟩) | (rw [foundI, tn_nI (show j < 2000000 by omega), if_neg (fun z : (0 ≤ nI j ∧ nI j ≤ 3) ∧ ¬ sS E j = -1 ∧ rmI (nI (sL E j)) 2 = 0 => z.2.1 (g1.symm.trans q14))]; exact ⟨rfl, h.1, rfl, hc, fun a _ => rfl⟩) | (rw [foundI, tn_nI (show j < 2000000 by omega), if_neg (fun z : (0 ≤ nI j ∧ nI j ≤ 3) ∧ ¬ sS E j = -1 ∧ rmI (nI (sL E j)) 2 = 0 => q21 z.2.2)]; exact ⟨rfl, h.1, rfl, hc, fun a _ => rfl⟩)
theorem qX11_seen_0 : Dq cX11_seen 0 (.aload_n 0) 1 1 := ⟨by decide +kernel, rfl⟩
theorem qX11_seen_1 : Dq cX11_seen 1 (.iload_n 1) 1 2 := ⟨by decide +kernel, rfl⟩
theorem qX11_seen_2 : Dq cX11_seen 2 (.invokevirtual 234) 3 5 := ⟨by decide +kernel, rfl⟩
theorem qX11_seen_5 : Dq cX11_seen 5 (.astore_n 3) 1 6 := ⟨by decide +kernel, rfl⟩
theorem qX11_seen_6 : Dq cX11_seen 6 (.aload_n 3) 1 7 := ⟨by decide +kernel, rfl⟩
theorem qX11_seen_7 : Dq cX11_seen 7 (.ifnull 14) 3 10 := ⟨by decide +kernel, rfl⟩
theorem qX11_seen_10 : Dq cX11_seen 10 (.iload_n 2) 1 11 := ⟨by decide +kernel, rfl⟩
theorem qX11_seen_11 : Dq cX11_seen 11 (.iconst 0) 1 12 := ⟨by decide +kernel, rfl⟩
theorem qX11_seen_12 : Dq cX11_seen 12 (.sipush 9999) 3 15 := ⟨by decide +kernel, rfl⟩
theorem qX11_seen_15 : Dq cX11_seen 15 (.invokestatic 110) 3 18 := ⟨by decide +kernel, rfl⟩
theorem qX11_seen_18 : Dq cX11_seen 18 (.ifCond .ne 6) 3 21 := ⟨by decide +kernel, rfl⟩
theorem qX11_seen_21 : Dq cX11_seen 21 (.bipush (-2)) 2 23 := ⟨by decide +kernel, rfl⟩
theorem qX11_seen_23 : Dq cX11_seen 23 (.ireturn) 1 24 := ⟨by decide +kernel, rfl⟩
theorem qX11_seen_24 : Dq cX11_seen 24 (.aload_n 3) 1 25 := ⟨by decide +kernel, rfl⟩
theorem qX11_seen_25 : Dq cX11_seen 25 (.invokevirtual 238) 3 28 := ⟨by decide +kernel, rfl⟩
theorem qX11_seen_28 : Dq cX11_seen 28 (.ifCond .eq 6) 3 31 := ⟨by decide +kernel, rfl⟩
theorem qX11_seen_31 : Dq cX11_seen 31 (.bipush (-11)) 2 33 := ⟨by decide +kernel, rfl⟩
theorem qX11_seen_33 : Dq cX11_seen 33 (.ireturn) 1 34 := ⟨by decide +kernel, rfl⟩
theorem qX11_seen_34 : Dq cX11_seen 34 (.aload_n 3) 1 35 := ⟨by decide +kernel, rfl⟩
theorem qX11_seen_35 : Dq cX11_seen 35 (.invokestatic 241) 3 38 := ⟨by decide +kernel, rfl⟩
theorem qX11_seen_38 : Dq cX11_seen 38 (.ifCond .ne 6) 3 41 := ⟨by decide +kernel, rfl⟩
theorem qX11_seen_41 : Dq cX11_seen 41 (.bipush (-2)) 2 43 := ⟨by decide +kernel, rfl⟩
theorem qX11_seen_43 : Dq cX11_seen 43 (.ireturn) 1 44 := ⟨by decide +kernel, rfl⟩
theorem qX11_seen_44 : Dq cX11_seen 44 (.iconst 0) 1 45 := ⟨by decide +kernel, rfl⟩
theorem qX11_seen_45 : Dq cX11_seen 45 (.istore 4) 2 47 := ⟨by decide +kernel, rfl⟩
theorem qX11_seen_47 : Dq cX11_seen 47 (.iload 4) 2 49 := ⟨by decide +kernel, rfl⟩
theorem qX11_seen_49 : Dq cX11_seen 49 (.aload_n 3) 1 50 := ⟨by decide +kernel, rfl⟩
theorem qX11_seen_50 : Dq cX11_seen 50 (.getfield 245) 3 53 := ⟨by decide +kernel, rfl⟩
theorem qX11_seen_53 : Dq cX11_seen 53 (.if_icmp .ge 20) 3 56 := ⟨by decide +kernel, rfl⟩
theorem qX11_seen_56 : Dq cX11_seen 56 (.aload_n 0) 1 57 := ⟨by decide +kernel, rfl⟩
theorem qX11_seen_57 : Dq cX11_seen 57 (.aload_n 3) 1 58 := ⟨by decide +kernel, rfl⟩
theorem qX11_seen_58 : Dq cX11_seen 58 (.iload 4) 2 60 := ⟨by decide +kernel, rfl⟩
theorem qX11_seen_60 : Dq cX11_seen 60 (.invokevirtual 246) 3 63 := ⟨by decide +kernel, rfl⟩
theorem qX11_seen_63 : Dq cX11_seen 63 (.iload_n 2) 1 64 := ⟨by decide +kernel, rfl⟩
theorem qX11_seen_64 : Dq cX11_seen 64 (.invokevirtual 249) 3 67 := ⟨by decide +kernel, rfl⟩
theorem qX11_seen_67 : Dq cX11_seen 67 (.iinc 4 1) 3 70 := ⟨by decide +kernel, rfl⟩
theorem qX11_seen_70 : Dq cX11_seen 70 (.goto (-23)) 3 73 := ⟨by decide +kernel, rfl⟩
theorem qX11_seen_73 : Dq cX11_seen 73 (.aload_n 3) 1 74 := ⟨by decide +kernel, rfl⟩
theorem qX11_seen_74 : Dq cX11_seen 74 (.getfield 245) 3 77 := ⟨by decide +kernel, rfl⟩
theorem qX11_seen_77 : Dq cX11_seen 77 (.ireturn) 1 78 := ⟨by decide +kernel, rfl⟩
set_option maxRecDepth 100000 in
set_option maxHeartbeats 4000000 in
theorem c_seen {G : Glb} {h : AHp} {E : Sst} (hc : CV h E) (s w : Int32) : CP G m_X11_seen 5 0 0 [.ref 0, .int s, .int w] h (fun r h' => r = some (.int (seenI E s w).1) ∧ ∃ σ, h' = (σ, h.2) ∧ CV (σ, h.2) (setB E (seenI E s w).2) ∧ K38 h σ) := by
  suffices key : ∀ P : Option Value → AHp → Prop, (∀ r h', (r = some (.int (seenI E s w).1) ∧ ∃ σ, h' = (σ, h.2) ∧ CV (σ, h.2) (setB E (seenI E s w).2) ∧ K38 h σ) → P r h') → CP G m_X11_seen 5 0 0 [.ref 0, .int s, .int w] h P from key _ (fun _ _ z => z)
  intro P hP
  have hs := hc.sh
  have hru := hc.ru
  have hca := hc.ca
  have hbe := hc.be
  have hok := hc.ok
  obtain ⟨hrl, hrl5⟩ := hbe.rl hok.1
  rw [bv0 (by omega) (by omega)] at hrl5
  have hh3 := hbe.2.2.2.1
  rw [bv0 (by omega) (by omega)] at hh3
  refine CP.of (by decide +kernel) (Nat.le_of_ble_eq_true rfl) fun X hX hR hnm => ?_
  show V X G 5 0 0 _ 0 [some (.ref 0), some (.int s), some (.int w), none, none] [] h
  refine v_aload_n hX rfl qX11_seen_0 ?_
  refine v_iload_n hX rfl qX11_seen_1 ?_
  refine v_callVq hX hR k_X11_234 (hs.kd 0 rfl) (c_sheetAt (by exact hs) _) rfl (Nat.le_of_ble_eq_true rfl) rfl (Nat.le_of_ble_eq_true rfl) ⟨Nat.le_of_ble_eq_true rfl, Nat.le_of_ble_eq_true rfl⟩ qX11_seen_2 ?_
  rintro _ _ ⟨⟨j, hj, rfl, rfl⟩ | ⟨hn, rfl⟩, rfl⟩
  · obtain ⟨g1, g2, g3⟩ := hc.st j hj
    have hr3 := r3 hj
    have hl40 := (hok.2.2.2.2.2.2.2 j hj).1
    refine v_astore_n hX (Nat.le_of_ble_eq_true rfl) rfl (ls' := [some _, some _, some _, some _, none]) rfl qX11_seen_5 ?_
    refine v_aload_n hX rfl qX11_seen_6 ?_
    refine v_ifnull hX qX11_seen_7 ?_
    refine v_iload_n hX rfl qX11_seen_10 ?_
    refine v_iconst hX li_0 qX11_seen_11 ?_
    refine v_sipush hX ls_9999 qX11_seen_12 ?_
    refine v_callSq hX hR k_X11_110 (c_isWithin _ _ _) rfl (Nat.le_of_ble_eq_true rfl) rfl (Nat.le_of_ble_eq_true rfl) ⟨Nat.le_of_ble_eq_true rfl, Nat.le_of_ble_eq_true rfl⟩ qX11_seen_15 ?_
    rintro _ _ ⟨rfl, rfl⟩
    first | refine v_if_neB hX 24 qX11_seen_18 rfl (fun q18 => ?_) (fun q18 => ?_) | refine v_if_ne hX 24 qX11_seen_18 rfl (fun q18 => ?_) (fun q18 => ?_)
    · obtain ⟨ww, hww, rfl⟩ := rng_ex 9999 (by omega) q18
      have hcnd : (0 ≤ nI j ∧ nI j ≤ 3) ∧ (0 ≤ nI ww ∧ nI ww ≤ 9999) := ⟨hr3, q18⟩
      refine v_aload_n hX rfl qX11_seen_24 ?_
      refine v_callVq hX hR k_X11_238 (hs.sk (isS_j hj)) (c_isMissing (by exact hs) (by exact (isS_j hj))) rfl (Nat.le_of_ble_eq_true rfl) rfl (Nat.le_of_ble_eq_true rfl) ⟨Nat.le_of_ble_eq_true rfl, Nat.le_of_ble_eq_true rfl⟩ qX11_seen_25 ?_
      rintro _ _ ⟨rfl, rfl⟩
      first | refine v_if_eqB hX 34 qX11_seen_28 rfl (fun q28 => ?_) (fun q28 => ?_) | refine v_if_eq hX 34 qX11_seen_28 rfl (fun q28 => ?_) (fun q28 => ?_)
      · skip
        refine v_aload_n hX rfl qX11_seen_34 ?_
        refine v_callSq hX hR k_X11_241 (c_tellsCellsAlone (by exact hs) (by exact (isS_j hj)) (by exact g2) (by exact hl40)) rfl (Nat.le_of_ble_eq_true rfl) rfl (Nat.le_of_ble_eq_true rfl) ⟨Nat.le_of_ble_eq_true rfl, Nat.le_of_ble_eq_true rfl⟩ qX11_seen_35 ?_
        rintro _ _ ⟨rfl, rfl⟩
        rw [anyB_congr (sL E j) (fun k hk => by rw [g3 k hk])]
        first | refine v_if_neB hX 44 qX11_seen_38 rfl (fun q38 => ?_) (fun q38 => ?_) | refine v_if_ne hX 44 qX11_seen_38 rfl (fun q38 => ?_) (fun q38 => ?_)
        · have hcs : ∀ k, k < sL E j → isC (sI' E j k) := fun k hk => Classical.byContradiction fun z => by
                have := anyB_t (p := fun i => !decide (isC (sI' E j i))) hk (by simp [z])
                rw [q38] at this
                cases this
          refine v_iconst hX li_0 qX11_seen_44 ?_
          refine v_istore hX (Nat.le_of_ble_eq_true rfl) rfl (ls' := [some _, some _, some _, some _, some _]) rfl qX11_seen_45 ?_
          have L47 : ∀ (mz : Nat) (i : Nat) (σ : Nat → Nat → Int32), sL E j - i = mz → (i ≤ sL E j) → (∀ a, a ≠ 2 → σ a = hpI h a) → (bv (σ, h.2) 1 = snB (sB E) (sI' E j) (nI ww) i) → V X G 5 0 0 (QM X G P 0 0) 47 [some (.ref 0), some (.int (nI j)), some (.int (nI ww)), some (.ref (30 + 2 * j)), some (.int (nI i))] [] (σ, h.2) := by
            intro mz
            induction mz using Nat.strongRecOn with
            | _ mz ih =>
            intro i σ hm hi hf hbv
            refine v_iload hX rfl qX11_seen_47 ?_
            refine v_aload_n hX rfl qX11_seen_49 ?_
            refine v_getIv hX g_X11_245 (Or.inl rfl) (hs.sk (isS_j hj)) ((congrFun (hf (30 + 2 * j) (by omega)) 2).trans g2) qX11_seen_50 ?_
            refine v_icmp_geS hX 73 qX11_seen_53 rfl (fun q53 => ?_) (fun q53 => ?_)
            · have e1 : i = sL E j := Nat.le_antisymm hi (nI_le' (by omega) (by omega) q53)
              refine v_aload_n hX rfl qX11_seen_73 ?_
              refine v_getIv hX g_X11_245 (Or.inl rfl) (hs.sk (isS_j hj)) ((congrFun (hf (30 + 2 * j) (by omega)) 2).trans g2) qX11_seen_74 ?_
              refine v_ireturn hX qX11_seen_77 (hP _ _ ?_)
              rw [seenI, if_pos hcnd, tn_nI (show j < 2000000 by omega), if_neg (fun z => q28 (g1.trans z)), if_pos q38, ← e1]
              exact ⟨rfl, σ, rfl, hc.q (fun a k a1 _ _ _ => congrFun (hf a (by omega)) k) (hca.eq (fun a a1 a2 k _ => congrFun (hf a (by omega)) k)) hbv (snB_ok hok.2.2.2.1 hww i (fun k hk => hcs k (by omega))), fun a ha => hf a (by omega)⟩
            · have hl := nI_lt' (by omega) (by omega) q53
              obtain ⟨q, hq, ec⟩ := isC_ex (hcs i hl)
              refine v_aload_n hX rfl qX11_seen_56 ?_
              refine v_aload_n hX rfl qX11_seen_57 ?_
              refine v_iload hX rfl qX11_seen_58 ?_
              refine v_callVq hX hR k_X11_246 (hs.sk (isS_j hj)) (c_itemAt (by exact hs) (by exact (isS_j hj)) (by exact ((congrFun (hf (30 + 2 * j) (by omega)) 2).trans g2)) (by exact hl40) _) rfl (Nat.le_of_ble_eq_true rfl) rfl (Nat.le_of_ble_eq_true rfl) ⟨Nat.le_of_ble_eq_true rfl, Nat.le_of_ble_eq_true rfl⟩ qX11_seen_60 ?_
              rintro _ _ ⟨rfl, rfl⟩
              refine v_eqI (show _ = nI q by rw [if_pos ⟨nI_pos' (by omega), nI_lt hl (by omega)⟩, tn_nI (by omega), ← ec, ← g3 i hl]; exact congrFun (hf (30 + 2 * j + 1) (by omega)) i) ?_
              refine v_iload_n hX rfl qX11_seen_63 ?_
              refine v_callVq hX hR k_X11_249 (hs.kd 0 rfl) (c_addPicture (by exact hs) (by exact hq) _) rfl (Nat.le_of_ble_eq_true rfl) rfl (Nat.le_of_ble_eq_true rfl) ⟨Nat.le_of_ble_eq_true rfl, Nat.le_of_ble_eq_true rfl⟩ qX11_seen_64 ?_
              rintro _ _ ⟨rfl, σ2, rfl, hb2, ho2⟩
              refine v_iinc hX rfl (by first | exact ii_nI _ | exact ii_1 _) (Nat.le_of_ble_eq_true rfl) rfl (ls' := [some _, some _, some _, some _, some _]) rfl qX11_seen_67 ?_
              refine v_goto hX 47 qX11_seen_70 rfl ?_
              exact ih _ (by omega) (i + 1) σ2 rfl (by omega) (fun a ha => (ho2 a ha).trans (hf a ha)) (by rw [hb2, hbv]; show _ = picB _ (tn (sI' E j i)) (nI ww); rw [ec, tn_nI (by omega)])
          exact L47 _ 0 h.1 rfl (by omega) (fun a _ => rfl) hc.b
        · skip
          refine v_bipush hX lb_n2 qX11_seen_41 ?_
          refine v_ireturn hX qX11_seen_43 (hP _ _ ?_)
          rw [seenI, if_pos hcnd, tn_nI (show j < 2000000 by omega), if_neg (fun z => q28 (g1.trans z)), if_neg q38]
          exact ⟨rfl, h.1, rfl, hc, fun a _ => rfl⟩
      · skip
        refine v_bipush hX lb_n11 qX11_seen_31 ?_
        refine v_ireturn hX qX11_seen_33 (hP _ _ ?_)
        rw [seenI, if_pos hcnd, tn_nI (show j < 2000000 by omega), if_pos (g1.symm.trans q28)]
        exact ⟨rfl, h.1, rfl, hc, fun a _ => rfl⟩
    · skip
      refine v_bipush hX lb_n2 qX11_seen_21 ?_
      refine v_ireturn hX qX11_seen_23 (hP _ _ ?_)
      first | (rw [seenI, if_neg (fun z : (0 ≤ s ∧ s ≤ 3) ∧ (0 ≤ w ∧ w ≤ 9999) => hn z.1)]; exact ⟨rfl, h.1, rfl, hc, fun a _ => rfl⟩) | (rw [seenI, if_neg (fun z : (0 ≤ nI j ∧ nI j ≤ 3) ∧ (0 ≤ w ∧ w ≤ 9999) => q18 z.2)]; exact ⟨rfl, h.1, rfl, hc, fun a _ => rfl⟩)
  · skip
    refine v_astore_nN hX (Nat.le_of_ble_eq_true rfl) rfl (ls' := [some _, some _, some _, some _, none]) rfl qX11_seen_5 ?_
    refine v_aload_nN hX rfl qX11_seen_6 ?_
    refine v_ifnullN hX 21 qX11_seen_7 rfl ?_
    refine v_bipush hX lb_n2 qX11_seen_21 ?_
    refine v_ireturn hX qX11_seen_23 (hP _ _ ?_)
    first | (rw [seenI, if_neg (fun z : (0 ≤ s ∧ s ≤ 3) ∧ (0 ≤ w ∧ w ≤ 9999) => hn z.1)]; exact ⟨rfl, h.1, rfl, hc, fun a _ => rfl⟩) | (rw [seenI, if_neg (fun z : (0 ≤ nI j ∧ nI j ≤ 3) ∧ (0 ≤ w ∧ w ≤ 9999) => q18 z.2)]; exact ⟨rfl, h.1, rfl, hc, fun a _ => rfl⟩)
