/-! the small methods of the class: numbers, beaches, lookers, steps, sheets -/
abbrev tn (i : Int32) : Nat := i.toNatClampNeg
def bnd (v a b : Int32) : Int32 := if a < (if v < b then v else b) then (if v < b then v else b) else a
def mxI (x y : Int32) : Int32 := if x < y then y else x
def mnI (x y : Int32) : Int32 := if y < x then y else x
def sumN (f : Nat → Int32) : Nat → Int32
  | 0 => 0
  | n + 1 => sumN f n + f n
def fx (p : Nat → Bool) : Nat → Nat → Int32
  | 0, _ => -1
  | n + 1, i => if p i then nI i else fx p n (i + 1)
theorem fx_hit {p : Nat → Bool} {k : Nat} (hk : p k = true) : ∀ (n i : Nat), i ≤ k → k < i + n → (∀ j, i ≤ j → j < k → p j = false) → fx p n i = nI k := by
  intro n
  induction n with
  | zero => intro i h1 h2; omega
  | succ n ih =>
    intro i h1 h2 h3
    by_cases e : i = k
    · subst e; simp [fx, hk]
    · have h4 : p i = false := h3 i (Nat.le_refl _) (by omega)
      simp only [fx, h4]
      exact ih (i + 1) (by omega) (by omega) (fun j hj => h3 j (by omega))
theorem fx_no {p : Nat → Bool} : ∀ (n i : Nat), (∀ j, i ≤ j → j < i + n → p j = false) → fx p n i = -1 := by
  intro n
  induction n with
  | zero => intro i _; rfl
  | succ n ih =>
    intro i h3
    have h4 : p i = false := h3 i (Nat.le_refl _) (by omega)
    simp only [fx, h4]
    exact ih (i + 1) (fun j hj hj2 => h3 j (by omega) (by omega))
theorem ixk (j : Nat) {i : Int32} {L : Nat} (h1 : i.toNatClampNeg = j) (h2 : ¬ i < 0) (h3 : Nat.ble (j + 1) L = true) : IX i j L := ⟨h1, h2, Nat.le_of_ble_eq_true h3⟩
theorem nI48 : (48 : Int32) = nI 48 := rfl
theorem nI_ne1 {i : Nat} (h : i < 2 ^ 31) : ¬ nI i = -1 := by
  intro e
  have h1 := congrArg Int32.toInt e
  rw [nI_toInt h] at h1
  have h2 : (-1 : Int32).toInt = -1 := rfl
  omega
theorem qX11_isWithin_0 : Dq cX11_isWithin 0 (.iload_n 1) 1 1 := ⟨by decide +kernel, rfl⟩
theorem qX11_isWithin_1 : Dq cX11_isWithin 1 (.iload_n 0) 1 2 := ⟨by decide +kernel, rfl⟩
theorem qX11_isWithin_2 : Dq cX11_isWithin 2 (.if_icmp .gt 12) 3 5 := ⟨by decide +kernel, rfl⟩
theorem qX11_isWithin_5 : Dq cX11_isWithin 5 (.iload_n 0) 1 6 := ⟨by decide +kernel, rfl⟩
theorem qX11_isWithin_6 : Dq cX11_isWithin 6 (.iload_n 2) 1 7 := ⟨by decide +kernel, rfl⟩
theorem qX11_isWithin_7 : Dq cX11_isWithin 7 (.if_icmp .gt 7) 3 10 := ⟨by decide +kernel, rfl⟩
theorem qX11_isWithin_10 : Dq cX11_isWithin 10 (.iconst 1) 1 11 := ⟨by decide +kernel, rfl⟩
theorem qX11_isWithin_11 : Dq cX11_isWithin 11 (.goto 4) 3 14 := ⟨by decide +kernel, rfl⟩
theorem qX11_isWithin_14 : Dq cX11_isWithin 14 (.iconst 0) 1 15 := ⟨by decide +kernel, rfl⟩
theorem qX11_isWithin_15 : Dq cX11_isWithin 15 (.ireturn) 1 16 := ⟨by decide +kernel, rfl⟩
set_option maxRecDepth 100000 in
set_option maxHeartbeats 4000000 in
theorem c_isWithin {G : Glb} {h : AHp} (v a b : Int32) : CP G m_X11_isWithin 1 0 0 [.int v, .int a, .int b] h (fun r h' => r = some (.int (bz (a ≤ v ∧ v ≤ b))) ∧ h' = h) := by
  suffices key : ∀ P : Option Value → AHp → Prop, (∀ r h', (r = some (.int (bz (a ≤ v ∧ v ≤ b))) ∧ h' = h) → P r h') → CP G m_X11_isWithin 1 0 0 [.int v, .int a, .int b] h P from key _ (fun _ _ z => z)
  intro P hP
  refine CP.of (by decide +kernel) (Nat.le_of_ble_eq_true rfl) fun X hX hR hnm => ?_
  show V X G 3 0 0 _ 0 [some (.int v), some (.int a), some (.int b)] [] h
  refine v_iload_n hX rfl qX11_isWithin_0 ?_
  refine v_iload_n hX rfl qX11_isWithin_1 ?_
  refine v_icmp_gtS hX 14 qX11_isWithin_2 rfl (fun q2 => ?_) (fun q2 => ?_)
  · skip
    refine v_iconst hX li_0 qX11_isWithin_14 ?_
    refine v_zreturn hX (by first | exact Or.inl rfl | exact Or.inr rfl | exact bz01 _) qX11_isWithin_15 (hP _ _ ?_)
    first | exact ⟨congrArg (fun z => some (Value.int z)) (bz_t ⟨by assumption, by assumption⟩).symm, rfl⟩ | exact ⟨congrArg (fun z => some (Value.int z)) (bz_f (fun z => by first | exact absurd z.1 (Int32.not_le.mpr (by assumption)) | exact absurd z.2 (Int32.not_le.mpr (by assumption)))).symm, rfl⟩
  · skip
    refine v_iload_n hX rfl qX11_isWithin_5 ?_
    refine v_iload_n hX rfl qX11_isWithin_6 ?_
    refine v_icmp_gtS hX 14 qX11_isWithin_7 rfl (fun q7 => ?_) (fun q7 => ?_)
    · skip
      refine v_iconst hX li_0 qX11_isWithin_14 ?_
      refine v_zreturn hX (by first | exact Or.inl rfl | exact Or.inr rfl | exact bz01 _) qX11_isWithin_15 (hP _ _ ?_)
      first | exact ⟨congrArg (fun z => some (Value.int z)) (bz_t ⟨by assumption, by assumption⟩).symm, rfl⟩ | exact ⟨congrArg (fun z => some (Value.int z)) (bz_f (fun z => by first | exact absurd z.1 (Int32.not_le.mpr (by assumption)) | exact absurd z.2 (Int32.not_le.mpr (by assumption)))).symm, rfl⟩
    · skip
      refine v_iconst hX li_1 qX11_isWithin_10 ?_
      refine v_goto hX 15 qX11_isWithin_11 rfl ?_
      refine v_zreturn hX (by first | exact Or.inl rfl | exact Or.inr rfl | exact bz01 _) qX11_isWithin_15 (hP _ _ ?_)
      first | exact ⟨congrArg (fun z => some (Value.int z)) (bz_t ⟨by assumption, by assumption⟩).symm, rfl⟩ | exact ⟨congrArg (fun z => some (Value.int z)) (bz_f (fun z => by first | exact absurd z.1 (Int32.not_le.mpr (by assumption)) | exact absurd z.2 (Int32.not_le.mpr (by assumption)))).symm, rfl⟩
theorem qX11_isCell_0 : Dq cX11_isCell 0 (.iload_n 0) 1 1 := ⟨by decide +kernel, rfl⟩
theorem qX11_isCell_1 : Dq cX11_isCell 1 (.iconst 0) 1 2 := ⟨by decide +kernel, rfl⟩
theorem qX11_isCell_2 : Dq cX11_isCell 2 (.bipush 47) 2 4 := ⟨by decide +kernel, rfl⟩
theorem qX11_isCell_4 : Dq cX11_isCell 4 (.invokestatic 110) 3 7 := ⟨by decide +kernel, rfl⟩
theorem qX11_isCell_7 : Dq cX11_isCell 7 (.ireturn) 1 8 := ⟨by decide +kernel, rfl⟩
set_option maxRecDepth 100000 in
set_option maxHeartbeats 4000000 in
theorem c_isCell {G : Glb} {h : AHp} (v : Int32) : CP G m_X11_isCell 2 0 0 [.int v] h (fun r h' => r = some (.int (bz (isC v))) ∧ h' = h) := by
  suffices key : ∀ P : Option Value → AHp → Prop, (∀ r h', (r = some (.int (bz (isC v))) ∧ h' = h) → P r h') → CP G m_X11_isCell 2 0 0 [.int v] h P from key _ (fun _ _ z => z)
  intro P hP
  refine CP.of (by decide +kernel) (Nat.le_of_ble_eq_true rfl) fun X hX hR hnm => ?_
  show V X G 1 0 0 _ 0 [some (.int v)] [] h
  refine v_iload_n hX rfl qX11_isCell_0 ?_
  refine v_iconst hX li_0 qX11_isCell_1 ?_
  refine v_bipush hX lb_47 qX11_isCell_2 ?_
  refine v_callS hX hR k_X11_110 (c_isWithin _ _ _) (Nat.le_of_ble_eq_true rfl) rfl (Nat.le_of_ble_eq_true rfl) ⟨Nat.le_of_ble_eq_true rfl, Nat.le_of_ble_eq_true rfl⟩ qX11_isCell_4 ?_
  rintro _ _ ⟨rfl, rfl⟩
  refine v_zreturn hX (by first | exact Or.inl rfl | exact Or.inr rfl | exact bz01 _) qX11_isCell_7 (hP _ _ ?_)
  exact ⟨rfl, rfl⟩
theorem qX11_bounded_0 : Dq cX11_bounded 0 (.iload_n 1) 1 1 := ⟨by decide +kernel, rfl⟩
theorem qX11_bounded_1 : Dq cX11_bounded 1 (.iload_n 2) 1 2 := ⟨by decide +kernel, rfl⟩
theorem qX11_bounded_2 : Dq cX11_bounded 2 (.iload_n 0) 1 3 := ⟨by decide +kernel, rfl⟩
theorem qX11_bounded_3 : Dq cX11_bounded 3 (.invokestatic 253) 3 6 := ⟨by decide +kernel, rfl⟩
theorem qX11_bounded_6 : Dq cX11_bounded 6 (.invokestatic 335) 3 9 := ⟨by decide +kernel, rfl⟩
theorem qX11_bounded_9 : Dq cX11_bounded 9 (.ireturn) 1 10 := ⟨by decide +kernel, rfl⟩
set_option maxRecDepth 100000 in
set_option maxHeartbeats 4000000 in
theorem c_bounded {G : Glb} {h : AHp} (v a b : Int32) : CP G m_X11_bounded 2 0 0 [.int v, .int a, .int b] h (fun r h' => r = some (.int (bnd v a b)) ∧ h' = h) := by
  suffices key : ∀ P : Option Value → AHp → Prop, (∀ r h', (r = some (.int (bnd v a b)) ∧ h' = h) → P r h') → CP G m_X11_bounded 2 0 0 [.int v, .int a, .int b] h P from key _ (fun _ _ z => z)
  intro P hP
  refine CP.of (by decide +kernel) (Nat.le_of_ble_eq_true rfl) fun X hX hR hnm => ?_
  show V X G 3 0 0 _ 0 [some (.int v), some (.int a), some (.int b)] [] h
  refine v_iload_n hX rfl qX11_bounded_0 ?_
  refine v_iload_n hX rfl qX11_bounded_1 ?_
  refine v_iload_n hX rfl qX11_bounded_2 ?_
  refine v_min hX hR (Nat.le_of_ble_eq_true rfl) k_X11_253 (Nat.le_of_ble_eq_true rfl) ⟨Nat.le_of_ble_eq_true rfl, Nat.le_of_ble_eq_true rfl⟩ qX11_bounded_3 ?_
  refine v_max hX hR (Nat.le_of_ble_eq_true rfl) k_X11_335 (Nat.le_of_ble_eq_true rfl) ⟨Nat.le_of_ble_eq_true rfl, Nat.le_of_ble_eq_true rfl⟩ qX11_bounded_6 ?_
  refine v_ireturn hX qX11_bounded_9 (hP _ _ ?_)
  exact ⟨rfl, rfl⟩
theorem qX11_gainOf_0 : Dq cX11_gainOf 0 (.iload_n 0) 1 1 := ⟨by decide +kernel, rfl⟩
theorem qX11_gainOf_1 : Dq cX11_gainOf 1 (.iload_n 1) 1 2 := ⟨by decide +kernel, rfl⟩
theorem qX11_gainOf_2 : Dq cX11_gainOf 2 (.imul) 1 3 := ⟨by decide +kernel, rfl⟩
theorem qX11_gainOf_3 : Dq cX11_gainOf 3 (.bipush 100) 2 5 := ⟨by decide +kernel, rfl⟩
theorem qX11_gainOf_5 : Dq cX11_gainOf 5 (.idiv) 1 6 := ⟨by decide +kernel, rfl⟩
theorem qX11_gainOf_6 : Dq cX11_gainOf 6 (.ireturn) 1 7 := ⟨by decide +kernel, rfl⟩
set_option maxRecDepth 100000 in
set_option maxHeartbeats 4000000 in
theorem c_gainOf {G : Glb} {h : AHp} (v a : Int32) : CP G m_X11_gainOf 1 0 0 [.int v, .int a] h (fun r h' => r = some (.int (v * a / 100)) ∧ h' = h) := by
  suffices key : ∀ P : Option Value → AHp → Prop, (∀ r h', (r = some (.int (v * a / 100)) ∧ h' = h) → P r h') → CP G m_X11_gainOf 1 0 0 [.int v, .int a] h P from key _ (fun _ _ z => z)
  intro P hP
  refine CP.of (by decide +kernel) (Nat.le_of_ble_eq_true rfl) fun X hX hR hnm => ?_
  show V X G 2 0 0 _ 0 [some (.int v), some (.int a)] [] h
  refine v_iload_n hX rfl qX11_gainOf_0 ?_
  refine v_iload_n hX rfl qX11_gainOf_1 ?_
  refine v_imul hX qX11_gainOf_2 ?_
  refine v_bipush hX lb_100 qX11_gainOf_3 ?_
  refine v_idiv hX (by decide) qX11_gainOf_5 ?_
  refine v_ireturn hX qX11_gainOf_6 (hP _ _ ?_)
  exact ⟨rfl, rfl⟩
theorem qX11_rateOf_0 : Dq cX11_rateOf 0 (.iload_n 1) 1 1 := ⟨by decide +kernel, rfl⟩
theorem qX11_rateOf_1 : Dq cX11_rateOf 1 (.ifCond .le 9) 3 4 := ⟨by decide +kernel, rfl⟩
theorem qX11_rateOf_4 : Dq cX11_rateOf 4 (.iload_n 0) 1 5 := ⟨by decide +kernel, rfl⟩
theorem qX11_rateOf_5 : Dq cX11_rateOf 5 (.iload_n 1) 1 6 := ⟨by decide +kernel, rfl⟩
theorem qX11_rateOf_6 : Dq cX11_rateOf 6 (.idiv) 1 7 := ⟨by decide +kernel, rfl⟩
theorem qX11_rateOf_7 : Dq cX11_rateOf 7 (.goto 4) 3 10 := ⟨by decide +kernel, rfl⟩
theorem qX11_rateOf_10 : Dq cX11_rateOf 10 (.iconst 0) 1 11 := ⟨by decide +kernel, rfl⟩
theorem qX11_rateOf_11 : Dq cX11_rateOf 11 (.ireturn) 1 12 := ⟨by decide +kernel, rfl⟩
set_option maxRecDepth 100000 in
set_option maxHeartbeats 4000000 in
theorem c_rateOf {G : Glb} {h : AHp} (v a : Int32) : CP G m_X11_rateOf 1 0 0 [.int v, .int a] h (fun r h' => r = some (.int (if 0 < a then v / a else 0)) ∧ h' = h) := by
  suffices key : ∀ P : Option Value → AHp → Prop, (∀ r h', (r = some (.int (if 0 < a then v / a else 0)) ∧ h' = h) → P r h') → CP G m_X11_rateOf 1 0 0 [.int v, .int a] h P from key _ (fun _ _ z => z)
  intro P hP
  refine CP.of (by decide +kernel) (Nat.le_of_ble_eq_true rfl) fun X hX hR hnm => ?_
  show V X G 2 0 0 _ 0 [some (.int v), some (.int a)] [] h
  refine v_iload_n hX rfl qX11_rateOf_0 ?_
  refine v_if_leS hX 10 qX11_rateOf_1 rfl (fun q1 => ?_) (fun q1 => ?_)
  · skip
    refine v_iconst hX li_0 qX11_rateOf_10 ?_
    refine v_ireturn hX qX11_rateOf_11 (hP _ _ ?_)
    first | exact ⟨by rw [if_pos (by assumption)], rfl⟩ | exact ⟨by rw [if_neg (Int32.not_lt.mpr (by assumption))], rfl⟩
  · skip
    refine v_iload_n hX rfl qX11_rateOf_4 ?_
    refine v_iload_n hX rfl qX11_rateOf_5 ?_
    refine v_idiv hX (fun e => absurd (e ▸ q1) (Int32.lt_irrefl 0)) qX11_rateOf_6 ?_
    refine v_goto hX 11 qX11_rateOf_7 rfl ?_
    refine v_ireturn hX qX11_rateOf_11 (hP _ _ ?_)
    first | exact ⟨by rw [if_pos (by assumption)], rfl⟩ | exact ⟨by rw [if_neg (Int32.not_lt.mpr (by assumption))], rfl⟩
/-- the treads or odds of a beach -/
def oddsA (h : AHp) (B : Nat) (i : Int32) : Int32 := if isC i then hpI h (B + 1) (tn i) else 0
def trdA (h : AHp) (B : Nat) (i : Int32) : Int32 := if isC i then hpI h (B + 2) (tn i) else 0
theorem qX0_oddsAt_0 : Dq cX0_oddsAt 0 (.iload_n 1) 1 1 := ⟨by decide +kernel, rfl⟩
theorem qX0_oddsAt_1 : Dq cX0_oddsAt 1 (.invokestatic 37) 3 4 := ⟨by decide +kernel, rfl⟩
theorem qX0_oddsAt_4 : Dq cX0_oddsAt 4 (.ifCond .eq 12) 3 7 := ⟨by decide +kernel, rfl⟩
theorem qX0_oddsAt_7 : Dq cX0_oddsAt 7 (.aload_n 0) 1 8 := ⟨by decide +kernel, rfl⟩
theorem qX0_oddsAt_8 : Dq cX0_oddsAt 8 (.getfield 9) 3 11 := ⟨by decide +kernel, rfl⟩
theorem qX0_oddsAt_11 : Dq cX0_oddsAt 11 (.iload_n 1) 1 12 := ⟨by decide +kernel, rfl⟩
theorem qX0_oddsAt_12 : Dq cX0_oddsAt 12 (.iaload) 1 13 := ⟨by decide +kernel, rfl⟩
theorem qX0_oddsAt_13 : Dq cX0_oddsAt 13 (.goto 4) 3 16 := ⟨by decide +kernel, rfl⟩
theorem qX0_oddsAt_16 : Dq cX0_oddsAt 16 (.iconst 0) 1 17 := ⟨by decide +kernel, rfl⟩
theorem qX0_oddsAt_17 : Dq cX0_oddsAt 17 (.ireturn) 1 18 := ⟨by decide +kernel, rfl⟩
set_option maxRecDepth 100000 in
set_option maxHeartbeats 4000000 in
theorem c_oddsAt {G : Glb} {h : AHp} (hs : ShC h) {B : Nat} (hB : isB B) (i : Int32) : CP G m_X0_oddsAt 3 0 0 [.ref B, .int i] h (fun r h' => r = some (.int (oddsA h B i)) ∧ h' = h) := by
  suffices key : ∀ P : Option Value → AHp → Prop, (∀ r h', (r = some (.int (oddsA h B i)) ∧ h' = h) → P r h') → CP G m_X0_oddsAt 3 0 0 [.ref B, .int i] h P from key _ (fun _ _ z => z)
  intro P hP
  refine CP.of (by decide +kernel) (Nat.le_of_ble_eq_true rfl) fun X hX hR hnm => ?_
  show V X G 2 0 0 _ 0 [some (.ref B), some (.int i)] [] h
  refine v_iload_n hX rfl qX0_oddsAt_0 ?_
  refine v_callN hX hR k_X0_37 (c_isCell _) (Nat.le_of_ble_eq_true rfl) rfl (Nat.le_of_ble_eq_true rfl) ⟨Nat.le_of_ble_eq_true rfl, Nat.le_of_ble_eq_true rfl⟩ qX0_oddsAt_1 ?_
  rintro _ _ ⟨rfl, rfl⟩
  first | refine v_if_eqB hX 16 qX0_oddsAt_4 rfl (fun q4 => ?_) (fun q4 => ?_) | refine v_if_eq hX 16 qX0_oddsAt_4 rfl (fun q4 => ?_) (fun q4 => ?_)
  · skip
    refine v_iconst hX li_0 qX0_oddsAt_16 ?_
    refine v_ireturn hX qX0_oddsAt_17 (hP _ _ ?_)
    unfold oddsA
    first | exact ⟨by rw [if_pos (by assumption)], rfl⟩ | exact ⟨by rw [if_neg (by assumption)], rfl⟩
  · skip
    refine v_aload_n hX rfl qX0_oddsAt_7 ?_
    refine v_getR hX g_X0_9 (hs.bk hB) (hs.bo hB) qX0_oddsAt_8 ?_
    refine v_iload_n hX rfl qX0_oddsAt_11 ?_
    refine v_ialdJ hX (hs.bok hB) (hs.bol hB) ?_ qX0_oddsAt_12 ?_
    · exact isC.ix (by assumption)
    refine v_goto hX 17 qX0_oddsAt_13 rfl ?_
    refine v_ireturn hX qX0_oddsAt_17 (hP _ _ ?_)
    unfold oddsA
    first | exact ⟨by rw [if_pos (by assumption)], rfl⟩ | exact ⟨by rw [if_neg (by assumption)], rfl⟩
theorem qX0_treadsAt_0 : Dq cX0_treadsAt 0 (.iload_n 1) 1 1 := ⟨by decide +kernel, rfl⟩
theorem qX0_treadsAt_1 : Dq cX0_treadsAt 1 (.invokestatic 37) 3 4 := ⟨by decide +kernel, rfl⟩
theorem qX0_treadsAt_4 : Dq cX0_treadsAt 4 (.ifCond .eq 12) 3 7 := ⟨by decide +kernel, rfl⟩
theorem qX0_treadsAt_7 : Dq cX0_treadsAt 7 (.aload_n 0) 1 8 := ⟨by decide +kernel, rfl⟩
theorem qX0_treadsAt_8 : Dq cX0_treadsAt 8 (.getfield 15) 3 11 := ⟨by decide +kernel, rfl⟩
theorem qX0_treadsAt_11 : Dq cX0_treadsAt 11 (.iload_n 1) 1 12 := ⟨by decide +kernel, rfl⟩
theorem qX0_treadsAt_12 : Dq cX0_treadsAt 12 (.iaload) 1 13 := ⟨by decide +kernel, rfl⟩
theorem qX0_treadsAt_13 : Dq cX0_treadsAt 13 (.goto 4) 3 16 := ⟨by decide +kernel, rfl⟩
theorem qX0_treadsAt_16 : Dq cX0_treadsAt 16 (.iconst 0) 1 17 := ⟨by decide +kernel, rfl⟩
theorem qX0_treadsAt_17 : Dq cX0_treadsAt 17 (.ireturn) 1 18 := ⟨by decide +kernel, rfl⟩
set_option maxRecDepth 100000 in
set_option maxHeartbeats 4000000 in
theorem c_treadsAt {G : Glb} {h : AHp} (hs : ShC h) {B : Nat} (hB : isB B) (i : Int32) : CP G m_X0_treadsAt 3 0 0 [.ref B, .int i] h (fun r h' => r = some (.int (trdA h B i)) ∧ h' = h) := by
  suffices key : ∀ P : Option Value → AHp → Prop, (∀ r h', (r = some (.int (trdA h B i)) ∧ h' = h) → P r h') → CP G m_X0_treadsAt 3 0 0 [.ref B, .int i] h P from key _ (fun _ _ z => z)
  intro P hP
  refine CP.of (by decide +kernel) (Nat.le_of_ble_eq_true rfl) fun X hX hR hnm => ?_
  show V X G 2 0 0 _ 0 [some (.ref B), some (.int i)] [] h
  refine v_iload_n hX rfl qX0_treadsAt_0 ?_
  refine v_callN hX hR k_X0_37 (c_isCell _) (Nat.le_of_ble_eq_true rfl) rfl (Nat.le_of_ble_eq_true rfl) ⟨Nat.le_of_ble_eq_true rfl, Nat.le_of_ble_eq_true rfl⟩ qX0_treadsAt_1 ?_
  rintro _ _ ⟨rfl, rfl⟩
  first | refine v_if_eqB hX 16 qX0_treadsAt_4 rfl (fun q4 => ?_) (fun q4 => ?_) | refine v_if_eq hX 16 qX0_treadsAt_4 rfl (fun q4 => ?_) (fun q4 => ?_)
  · skip
    refine v_iconst hX li_0 qX0_treadsAt_16 ?_
    refine v_ireturn hX qX0_treadsAt_17 (hP _ _ ?_)
    unfold trdA
    first | exact ⟨by rw [if_pos (by assumption)], rfl⟩ | exact ⟨by rw [if_neg (by assumption)], rfl⟩
  · skip
    refine v_aload_n hX rfl qX0_treadsAt_7 ?_
    refine v_getR hX g_X0_15 (hs.bk hB) (hs.bt hB) qX0_treadsAt_8 ?_
    refine v_iload_n hX rfl qX0_treadsAt_11 ?_
    refine v_ialdJ hX (hs.btk hB) (hs.btl hB) ?_ qX0_treadsAt_12 ?_
    · exact isC.ix (by assumption)
    refine v_goto hX 17 qX0_treadsAt_13 rfl ?_
    refine v_ireturn hX qX0_treadsAt_17 (hP _ _ ?_)
    unfold trdA
    first | exact ⟨by rw [if_pos (by assumption)], rfl⟩ | exact ⟨by rw [if_neg (by assumption)], rfl⟩
theorem qX0_addOdds_0 : Dq cX0_addOdds 0 (.iload_n 1) 1 1 := ⟨by decide +kernel, rfl⟩
theorem qX0_addOdds_1 : Dq cX0_addOdds 1 (.invokestatic 37) 3 4 := ⟨by decide +kernel, rfl⟩
theorem qX0_addOdds_4 : Dq cX0_addOdds 4 (.ifCond .eq 22) 3 7 := ⟨by decide +kernel, rfl⟩
theorem qX0_addOdds_7 : Dq cX0_addOdds 7 (.aload_n 0) 1 8 := ⟨by decide +kernel, rfl⟩
theorem qX0_addOdds_8 : Dq cX0_addOdds 8 (.getfield 9) 3 11 := ⟨by decide +kernel, rfl⟩
theorem qX0_addOdds_11 : Dq cX0_addOdds 11 (.iload_n 1) 1 12 := ⟨by decide +kernel, rfl⟩
theorem qX0_addOdds_12 : Dq cX0_addOdds 12 (.ldc 41) 2 14 := ⟨by decide +kernel, rfl⟩
theorem qX0_addOdds_14 : Dq cX0_addOdds 14 (.aload_n 0) 1 15 := ⟨by decide +kernel, rfl⟩
theorem qX0_addOdds_15 : Dq cX0_addOdds 15 (.getfield 9) 3 18 := ⟨by decide +kernel, rfl⟩
theorem qX0_addOdds_18 : Dq cX0_addOdds 18 (.iload_n 1) 1 19 := ⟨by decide +kernel, rfl⟩
theorem qX0_addOdds_19 : Dq cX0_addOdds 19 (.iaload) 1 20 := ⟨by decide +kernel, rfl⟩
theorem qX0_addOdds_20 : Dq cX0_addOdds 20 (.iload_n 2) 1 21 := ⟨by decide +kernel, rfl⟩
theorem qX0_addOdds_21 : Dq cX0_addOdds 21 (.iadd) 1 22 := ⟨by decide +kernel, rfl⟩
theorem qX0_addOdds_22 : Dq cX0_addOdds 22 (.invokestatic 42) 3 25 := ⟨by decide +kernel, rfl⟩
theorem qX0_addOdds_25 : Dq cX0_addOdds 25 (.iastore) 1 26 := ⟨by decide +kernel, rfl⟩
theorem qX0_addOdds_26 : Dq cX0_addOdds 26 (.return_) 1 27 := ⟨by decide +kernel, rfl⟩
set_option maxRecDepth 100000 in
set_option maxHeartbeats 4000000 in
theorem c_addOdds {G : Glb} {h : AHp} (hs : ShC h) {B : Nat} (hB : isB B) {i : Int32} (hp : isC i) (v : Int32) : CP G m_X0_addOdds 3 0 0 [.ref B, .int i, .int v] h (fun r h' => r = none ∧ h' = stI h (B + 1) (tn i) (mnI 999999 (hpI h (B + 1) (tn i) + v))) := by
  suffices key : ∀ P : Option Value → AHp → Prop, (∀ r h', (r = none ∧ h' = stI h (B + 1) (tn i) (mnI 999999 (hpI h (B + 1) (tn i) + v))) → P r h') → CP G m_X0_addOdds 3 0 0 [.ref B, .int i, .int v] h P from key _ (fun _ _ z => z)
  intro P hP
  refine CP.of (by decide +kernel) (Nat.le_of_ble_eq_true rfl) fun X hX hR hnm => ?_
  show V X G 3 0 0 _ 0 [some (.ref B), some (.int i), some (.int v)] [] h
  refine v_iload_n hX rfl qX0_addOdds_0 ?_
  refine v_callN hX hR k_X0_37 (c_isCell _) (Nat.le_of_ble_eq_true rfl) rfl (Nat.le_of_ble_eq_true rfl) ⟨Nat.le_of_ble_eq_true rfl, Nat.le_of_ble_eq_true rfl⟩ qX0_addOdds_1 ?_
  rintro _ _ ⟨rfl, rfl⟩
  first | refine v_if_eqB hX 26 qX0_addOdds_4 rfl (fun q4 => ?_) (fun q4 => ?_) | refine v_if_eq hX 26 qX0_addOdds_4 rfl (fun q4 => ?_) (fun q4 => ?_)
  · exact absurd hp (by assumption)
  · skip
    refine v_aload_n hX rfl qX0_addOdds_7 ?_
    refine v_getR hX g_X0_9 (hs.bk hB) (hs.bo hB) qX0_addOdds_8 ?_
    refine v_iload_n hX rfl qX0_addOdds_11 ?_
    refine v_ldc hX c_X0_41 qX0_addOdds_12 ?_
    refine v_aload_n hX rfl qX0_addOdds_14 ?_
    refine v_getR hX g_X0_9 (hs.bk hB) (hs.bo hB) qX0_addOdds_15 ?_
    refine v_iload_n hX rfl qX0_addOdds_18 ?_
    refine v_ialdJ hX (hs.bok hB) (hs.bol hB) ?_ qX0_addOdds_19 ?_
    · exact hp.ix
    refine v_iload_n hX rfl qX0_addOdds_20 ?_
    refine v_iadd hX qX0_addOdds_21 ?_
    refine v_min hX hR (Nat.le_of_ble_eq_true rfl) k_X0_42 (Nat.le_of_ble_eq_true rfl) ⟨Nat.le_of_ble_eq_true rfl, Nat.le_of_ble_eq_true rfl⟩ qX0_addOdds_22 ?_
    refine v_iastJ hX (hs.bok hB) (hs.bol hB) ?_ qX0_addOdds_25 ?_
    · exact hp.ix
    refine v_return hX qX0_addOdds_26 (hP _ _ ?_)
    exact ⟨rfl, rfl⟩
set_option maxRecDepth 100000 in
set_option maxHeartbeats 4000000 in
theorem c_addOddsN {G : Glb} {h : AHp} (hs : ShC h) {B : Nat} (hB : isB B) {i : Int32} (hp : ¬ isC i) (v : Int32) : CP G m_X0_addOdds 3 0 0 [.ref B, .int i, .int v] h (fun r h' => r = none ∧ h' = h) := by
  suffices key : ∀ P : Option Value → AHp → Prop, (∀ r h', (r = none ∧ h' = h) → P r h') → CP G m_X0_addOdds 3 0 0 [.ref B, .int i, .int v] h P from key _ (fun _ _ z => z)
  intro P hP
  refine CP.of (by decide +kernel) (Nat.le_of_ble_eq_true rfl) fun X hX hR hnm => ?_
  show V X G 3 0 0 _ 0 [some (.ref B), some (.int i), some (.int v)] [] h
  refine v_iload_n hX rfl qX0_addOdds_0 ?_
  refine v_callN hX hR k_X0_37 (c_isCell _) (Nat.le_of_ble_eq_true rfl) rfl (Nat.le_of_ble_eq_true rfl) ⟨Nat.le_of_ble_eq_true rfl, Nat.le_of_ble_eq_true rfl⟩ qX0_addOdds_1 ?_
  rintro _ _ ⟨rfl, rfl⟩
  first | refine v_if_eqB hX 26 qX0_addOdds_4 rfl (fun q4 => ?_) (fun q4 => ?_) | refine v_if_eq hX 26 qX0_addOdds_4 rfl (fun q4 => ?_) (fun q4 => ?_)
  · skip
    refine v_return hX qX0_addOdds_26 (hP _ _ ?_)
    exact ⟨rfl, rfl⟩
  · exact absurd (by assumption) hp
theorem qX0_addTreads_0 : Dq cX0_addTreads 0 (.iload_n 1) 1 1 := ⟨by decide +kernel, rfl⟩
theorem qX0_addTreads_1 : Dq cX0_addTreads 1 (.invokestatic 37) 3 4 := ⟨by decide +kernel, rfl⟩
theorem qX0_addTreads_4 : Dq cX0_addTreads 4 (.ifCond .eq 22) 3 7 := ⟨by decide +kernel, rfl⟩
theorem qX0_addTreads_7 : Dq cX0_addTreads 7 (.aload_n 0) 1 8 := ⟨by decide +kernel, rfl⟩
theorem qX0_addTreads_8 : Dq cX0_addTreads 8 (.getfield 15) 3 11 := ⟨by decide +kernel, rfl⟩
theorem qX0_addTreads_11 : Dq cX0_addTreads 11 (.iload_n 1) 1 12 := ⟨by decide +kernel, rfl⟩
theorem qX0_addTreads_12 : Dq cX0_addTreads 12 (.bipush 99) 2 14 := ⟨by decide +kernel, rfl⟩
theorem qX0_addTreads_14 : Dq cX0_addTreads 14 (.aload_n 0) 1 15 := ⟨by decide +kernel, rfl⟩
theorem qX0_addTreads_15 : Dq cX0_addTreads 15 (.getfield 15) 3 18 := ⟨by decide +kernel, rfl⟩
theorem qX0_addTreads_18 : Dq cX0_addTreads 18 (.iload_n 1) 1 19 := ⟨by decide +kernel, rfl⟩
theorem qX0_addTreads_19 : Dq cX0_addTreads 19 (.iaload) 1 20 := ⟨by decide +kernel, rfl⟩
theorem qX0_addTreads_20 : Dq cX0_addTreads 20 (.iload_n 2) 1 21 := ⟨by decide +kernel, rfl⟩
theorem qX0_addTreads_21 : Dq cX0_addTreads 21 (.iadd) 1 22 := ⟨by decide +kernel, rfl⟩
theorem qX0_addTreads_22 : Dq cX0_addTreads 22 (.invokestatic 42) 3 25 := ⟨by decide +kernel, rfl⟩
theorem qX0_addTreads_25 : Dq cX0_addTreads 25 (.iastore) 1 26 := ⟨by decide +kernel, rfl⟩
theorem qX0_addTreads_26 : Dq cX0_addTreads 26 (.return_) 1 27 := ⟨by decide +kernel, rfl⟩
set_option maxRecDepth 100000 in
set_option maxHeartbeats 4000000 in
theorem c_addTreads {G : Glb} {h : AHp} (hs : ShC h) {B : Nat} (hB : isB B) {i : Int32} (hp : isC i) (v : Int32) : CP G m_X0_addTreads 3 0 0 [.ref B, .int i, .int v] h (fun r h' => r = none ∧ h' = stI h (B + 2) (tn i) (mnI 99 (hpI h (B + 2) (tn i) + v))) := by
  suffices key : ∀ P : Option Value → AHp → Prop, (∀ r h', (r = none ∧ h' = stI h (B + 2) (tn i) (mnI 99 (hpI h (B + 2) (tn i) + v))) → P r h') → CP G m_X0_addTreads 3 0 0 [.ref B, .int i, .int v] h P from key _ (fun _ _ z => z)
  intro P hP
  refine CP.of (by decide +kernel) (Nat.le_of_ble_eq_true rfl) fun X hX hR hnm => ?_
  show V X G 3 0 0 _ 0 [some (.ref B), some (.int i), some (.int v)] [] h
  refine v_iload_n hX rfl qX0_addTreads_0 ?_
  refine v_callN hX hR k_X0_37 (c_isCell _) (Nat.le_of_ble_eq_true rfl) rfl (Nat.le_of_ble_eq_true rfl) ⟨Nat.le_of_ble_eq_true rfl, Nat.le_of_ble_eq_true rfl⟩ qX0_addTreads_1 ?_
  rintro _ _ ⟨rfl, rfl⟩
  first | refine v_if_eqB hX 26 qX0_addTreads_4 rfl (fun q4 => ?_) (fun q4 => ?_) | refine v_if_eq hX 26 qX0_addTreads_4 rfl (fun q4 => ?_) (fun q4 => ?_)
  · exact absurd hp (by assumption)
  · skip
    refine v_aload_n hX rfl qX0_addTreads_7 ?_
    refine v_getR hX g_X0_15 (hs.bk hB) (hs.bt hB) qX0_addTreads_8 ?_
    refine v_iload_n hX rfl qX0_addTreads_11 ?_
    refine v_bipush hX lb_99 qX0_addTreads_12 ?_
    refine v_aload_n hX rfl qX0_addTreads_14 ?_
    refine v_getR hX g_X0_15 (hs.bk hB) (hs.bt hB) qX0_addTreads_15 ?_
    refine v_iload_n hX rfl qX0_addTreads_18 ?_
    refine v_ialdJ hX (hs.btk hB) (hs.btl hB) ?_ qX0_addTreads_19 ?_
    · exact hp.ix
    refine v_iload_n hX rfl qX0_addTreads_20 ?_
    refine v_iadd hX qX0_addTreads_21 ?_
    refine v_min hX hR (Nat.le_of_ble_eq_true rfl) k_X0_42 (Nat.le_of_ble_eq_true rfl) ⟨Nat.le_of_ble_eq_true rfl, Nat.le_of_ble_eq_true rfl⟩ qX0_addTreads_22 ?_
    refine v_iastJ hX (hs.btk hB) (hs.btl hB) ?_ qX0_addTreads_25 ?_
    · exact hp.ix
    refine v_return hX qX0_addTreads_26 (hP _ _ ?_)
    exact ⟨rfl, rfl⟩
theorem qX0_thinOdds_0 : Dq cX0_thinOdds 0 (.iload_n 1) 1 1 := ⟨by decide +kernel, rfl⟩
theorem qX0_thinOdds_1 : Dq cX0_thinOdds 1 (.invokestatic 37) 3 4 := ⟨by decide +kernel, rfl⟩
theorem qX0_thinOdds_4 : Dq cX0_thinOdds 4 (.ifCond .eq 23) 3 7 := ⟨by decide +kernel, rfl⟩
theorem qX0_thinOdds_7 : Dq cX0_thinOdds 7 (.aload_n 0) 1 8 := ⟨by decide +kernel, rfl⟩
theorem qX0_thinOdds_8 : Dq cX0_thinOdds 8 (.getfield 9) 3 11 := ⟨by decide +kernel, rfl⟩
theorem qX0_thinOdds_11 : Dq cX0_thinOdds 11 (.iload_n 1) 1 12 := ⟨by decide +kernel, rfl⟩
theorem qX0_thinOdds_12 : Dq cX0_thinOdds 12 (.aload_n 0) 1 13 := ⟨by decide +kernel, rfl⟩
theorem qX0_thinOdds_13 : Dq cX0_thinOdds 13 (.getfield 9) 3 16 := ⟨by decide +kernel, rfl⟩
theorem qX0_thinOdds_16 : Dq cX0_thinOdds 16 (.iload_n 1) 1 17 := ⟨by decide +kernel, rfl⟩
theorem qX0_thinOdds_17 : Dq cX0_thinOdds 17 (.iaload) 1 18 := ⟨by decide +kernel, rfl⟩
theorem qX0_thinOdds_18 : Dq cX0_thinOdds 18 (.bipush 100) 2 20 := ⟨by decide +kernel, rfl⟩
theorem qX0_thinOdds_20 : Dq cX0_thinOdds 20 (.iload_n 2) 1 21 := ⟨by decide +kernel, rfl⟩
theorem qX0_thinOdds_21 : Dq cX0_thinOdds 21 (.isub) 1 22 := ⟨by decide +kernel, rfl⟩
theorem qX0_thinOdds_22 : Dq cX0_thinOdds 22 (.imul) 1 23 := ⟨by decide +kernel, rfl⟩
theorem qX0_thinOdds_23 : Dq cX0_thinOdds 23 (.bipush 100) 2 25 := ⟨by decide +kernel, rfl⟩
theorem qX0_thinOdds_25 : Dq cX0_thinOdds 25 (.idiv) 1 26 := ⟨by decide +kernel, rfl⟩
theorem qX0_thinOdds_26 : Dq cX0_thinOdds 26 (.iastore) 1 27 := ⟨by decide +kernel, rfl⟩
theorem qX0_thinOdds_27 : Dq cX0_thinOdds 27 (.return_) 1 28 := ⟨by decide +kernel, rfl⟩
set_option maxRecDepth 100000 in
set_option maxHeartbeats 4000000 in
theorem c_thinOdds {G : Glb} {h : AHp} (hs : ShC h) {B : Nat} (hB : isB B) {i : Int32} (hp : isC i) (v : Int32) : CP G m_X0_thinOdds 3 0 0 [.ref B, .int i, .int v] h (fun r h' => r = none ∧ h' = stI h (B + 1) (tn i) (hpI h (B + 1) (tn i) * (100 - v) / 100)) := by
  suffices key : ∀ P : Option Value → AHp → Prop, (∀ r h', (r = none ∧ h' = stI h (B + 1) (tn i) (hpI h (B + 1) (tn i) * (100 - v) / 100)) → P r h') → CP G m_X0_thinOdds 3 0 0 [.ref B, .int i, .int v] h P from key _ (fun _ _ z => z)
  intro P hP
  refine CP.of (by decide +kernel) (Nat.le_of_ble_eq_true rfl) fun X hX hR hnm => ?_
  show V X G 3 0 0 _ 0 [some (.ref B), some (.int i), some (.int v)] [] h
  refine v_iload_n hX rfl qX0_thinOdds_0 ?_
  refine v_callN hX hR k_X0_37 (c_isCell _) (Nat.le_of_ble_eq_true rfl) rfl (Nat.le_of_ble_eq_true rfl) ⟨Nat.le_of_ble_eq_true rfl, Nat.le_of_ble_eq_true rfl⟩ qX0_thinOdds_1 ?_
  rintro _ _ ⟨rfl, rfl⟩
  first | refine v_if_eqB hX 27 qX0_thinOdds_4 rfl (fun q4 => ?_) (fun q4 => ?_) | refine v_if_eq hX 27 qX0_thinOdds_4 rfl (fun q4 => ?_) (fun q4 => ?_)
  · exact absurd hp (by assumption)
  · skip
    refine v_aload_n hX rfl qX0_thinOdds_7 ?_
    refine v_getR hX g_X0_9 (hs.bk hB) (hs.bo hB) qX0_thinOdds_8 ?_
    refine v_iload_n hX rfl qX0_thinOdds_11 ?_
    refine v_aload_n hX rfl qX0_thinOdds_12 ?_
    refine v_getR hX g_X0_9 (hs.bk hB) (hs.bo hB) qX0_thinOdds_13 ?_
    refine v_iload_n hX rfl qX0_thinOdds_16 ?_
    refine v_ialdJ hX (hs.bok hB) (hs.bol hB) ?_ qX0_thinOdds_17 ?_
    · exact hp.ix
    refine v_bipush hX lb_100 qX0_thinOdds_18 ?_
    refine v_iload_n hX rfl qX0_thinOdds_20 ?_
    refine v_isub hX qX0_thinOdds_21 ?_
    refine v_imul hX qX0_thinOdds_22 ?_
    refine v_bipush hX lb_100 qX0_thinOdds_23 ?_
    refine v_idiv hX (by decide) qX0_thinOdds_25 ?_
    refine v_iastJ hX (hs.bok hB) (hs.bol hB) ?_ qX0_thinOdds_26 ?_
    · exact hp.ix
    refine v_return hX qX0_thinOdds_27 (hP _ _ ?_)
    exact ⟨rfl, rfl⟩
def rmI (x y : Int32) : Int32 := x - x / y * y
def psH (h : AHp) (B : Nat) (v : Int32) : Int32 := rmI (hpI h B 3 + (hpI h B 4 + v) / 60) 24
def psM (h : AHp) (B : Nat) (v : Int32) : Int32 := rmI (hpI h B 4 + v) 60
theorem qX0_pass_0 : Dq cX0_pass 0 (.aload_n 0) 1 1 := ⟨by decide +kernel, rfl⟩
theorem qX0_pass_1 : Dq cX0_pass 1 (.getfield 31) 3 4 := ⟨by decide +kernel, rfl⟩
theorem qX0_pass_4 : Dq cX0_pass 4 (.iload_n 1) 1 5 := ⟨by decide +kernel, rfl⟩
theorem qX0_pass_5 : Dq cX0_pass 5 (.iadd) 1 6 := ⟨by decide +kernel, rfl⟩
theorem qX0_pass_6 : Dq cX0_pass 6 (.istore_n 2) 1 7 := ⟨by decide +kernel, rfl⟩
theorem qX0_pass_7 : Dq cX0_pass 7 (.aload_n 0) 1 8 := ⟨by decide +kernel, rfl⟩
theorem qX0_pass_8 : Dq cX0_pass 8 (.aload_n 0) 1 9 := ⟨by decide +kernel, rfl⟩
theorem qX0_pass_9 : Dq cX0_pass 9 (.getfield 18) 3 12 := ⟨by decide +kernel, rfl⟩
theorem qX0_pass_12 : Dq cX0_pass 12 (.iload_n 2) 1 13 := ⟨by decide +kernel, rfl⟩
theorem qX0_pass_13 : Dq cX0_pass 13 (.bipush 60) 2 15 := ⟨by decide +kernel, rfl⟩
theorem qX0_pass_15 : Dq cX0_pass 15 (.idiv) 1 16 := ⟨by decide +kernel, rfl⟩
theorem qX0_pass_16 : Dq cX0_pass 16 (.iadd) 1 17 := ⟨by decide +kernel, rfl⟩
theorem qX0_pass_17 : Dq cX0_pass 17 (.bipush 24) 2 19 := ⟨by decide +kernel, rfl⟩
theorem qX0_pass_19 : Dq cX0_pass 19 (.irem) 1 20 := ⟨by decide +kernel, rfl⟩
theorem qX0_pass_20 : Dq cX0_pass 20 (.putfield 18) 3 23 := ⟨by decide +kernel, rfl⟩
theorem qX0_pass_23 : Dq cX0_pass 23 (.aload_n 0) 1 24 := ⟨by decide +kernel, rfl⟩
theorem qX0_pass_24 : Dq cX0_pass 24 (.iload_n 2) 1 25 := ⟨by decide +kernel, rfl⟩
theorem qX0_pass_25 : Dq cX0_pass 25 (.bipush 60) 2 27 := ⟨by decide +kernel, rfl⟩
theorem qX0_pass_27 : Dq cX0_pass 27 (.irem) 1 28 := ⟨by decide +kernel, rfl⟩
theorem qX0_pass_28 : Dq cX0_pass 28 (.putfield 31) 3 31 := ⟨by decide +kernel, rfl⟩
theorem qX0_pass_31 : Dq cX0_pass 31 (.return_) 1 32 := ⟨by decide +kernel, rfl⟩
set_option maxRecDepth 100000 in
set_option maxHeartbeats 4000000 in
theorem c_pass {G : Glb} {h : AHp} (hs : ShC h) {B : Nat} (hB : isB B) (v : Int32) : CP G m_X0_pass 1 0 0 [.ref B, .int v] h (fun r h' => r = none ∧ h' = stI (stI h B 3 (psH h B v)) B 4 (psM h B v)) := by
  suffices key : ∀ P : Option Value → AHp → Prop, (∀ r h', (r = none ∧ h' = stI (stI h B 3 (psH h B v)) B 4 (psM h B v)) → P r h') → CP G m_X0_pass 1 0 0 [.ref B, .int v] h P from key _ (fun _ _ z => z)
  intro P hP
  refine CP.of (by decide +kernel) (Nat.le_of_ble_eq_true rfl) fun X hX hR hnm => ?_
  show V X G 3 0 0 _ 0 [some (.ref B), some (.int v), none] [] h
  refine v_aload_n hX rfl qX0_pass_0 ?_
  refine v_getI hX g_X0_31 (Or.inl rfl) (hs.bk hB) qX0_pass_1 ?_
  refine v_iload_n hX rfl qX0_pass_4 ?_
  refine v_iadd hX qX0_pass_5 ?_
  refine v_istore_n hX (Nat.le_of_ble_eq_true rfl) rfl (ls' := [some _, some _, some _]) rfl qX0_pass_6 ?_
  refine v_aload_n hX rfl qX0_pass_7 ?_
  refine v_aload_n hX rfl qX0_pass_8 ?_
  refine v_getI hX g_X0_18 (Or.inl rfl) (hs.bk hB) qX0_pass_9 ?_
  refine v_iload_n hX rfl qX0_pass_12 ?_
  refine v_bipush hX lb_60 qX0_pass_13 ?_
  refine v_idiv hX (by decide) qX0_pass_15 ?_
  refine v_iadd hX qX0_pass_16 ?_
  refine v_bipush hX lb_24 qX0_pass_17 ?_
  refine v_irem hX (by decide) qX0_pass_19 ?_
  refine v_putI hX p_X0_18 (hs.bk hB) (Or.inl rfl) qX0_pass_20 ?_
  refine v_aload_n hX rfl qX0_pass_23 ?_
  refine v_iload_n hX rfl qX0_pass_24 ?_
  refine v_bipush hX lb_60 qX0_pass_25 ?_
  refine v_irem hX (by decide) qX0_pass_27 ?_
  refine v_putI hX p_X0_31 (hs.bk hB) (Or.inl rfl) qX0_pass_28 ?_
  refine v_return hX qX0_pass_31 (hP _ _ ?_)
  exact ⟨rfl, rfl⟩
theorem qX0_oddsOnCells_0 : Dq cX0_oddsOnCells 0 (.iconst 0) 1 1 := ⟨by decide +kernel, rfl⟩
theorem qX0_oddsOnCells_1 : Dq cX0_oddsOnCells 1 (.istore_n 1) 1 2 := ⟨by decide +kernel, rfl⟩
theorem qX0_oddsOnCells_2 : Dq cX0_oddsOnCells 2 (.iconst 0) 1 3 := ⟨by decide +kernel, rfl⟩
theorem qX0_oddsOnCells_3 : Dq cX0_oddsOnCells 3 (.istore_n 2) 1 4 := ⟨by decide +kernel, rfl⟩
theorem qX0_oddsOnCells_4 : Dq cX0_oddsOnCells 4 (.iload_n 2) 1 5 := ⟨by decide +kernel, rfl⟩
theorem qX0_oddsOnCells_5 : Dq cX0_oddsOnCells 5 (.bipush 48) 2 7 := ⟨by decide +kernel, rfl⟩
theorem qX0_oddsOnCells_7 : Dq cX0_oddsOnCells 7 (.if_icmp .ge 18) 3 10 := ⟨by decide +kernel, rfl⟩
theorem qX0_oddsOnCells_10 : Dq cX0_oddsOnCells 10 (.iload_n 1) 1 11 := ⟨by decide +kernel, rfl⟩
theorem qX0_oddsOnCells_11 : Dq cX0_oddsOnCells 11 (.aload_n 0) 1 12 := ⟨by decide +kernel, rfl⟩
theorem qX0_oddsOnCells_12 : Dq cX0_oddsOnCells 12 (.getfield 9) 3 15 := ⟨by decide +kernel, rfl⟩
theorem qX0_oddsOnCells_15 : Dq cX0_oddsOnCells 15 (.iload_n 2) 1 16 := ⟨by decide +kernel, rfl⟩
theorem qX0_oddsOnCells_16 : Dq cX0_oddsOnCells 16 (.iaload) 1 17 := ⟨by decide +kernel, rfl⟩
theorem qX0_oddsOnCells_17 : Dq cX0_oddsOnCells 17 (.iadd) 1 18 := ⟨by decide +kernel, rfl⟩
theorem qX0_oddsOnCells_18 : Dq cX0_oddsOnCells 18 (.istore_n 1) 1 19 := ⟨by decide +kernel, rfl⟩
theorem qX0_oddsOnCells_19 : Dq cX0_oddsOnCells 19 (.iinc 2 1) 3 22 := ⟨by decide +kernel, rfl⟩
theorem qX0_oddsOnCells_22 : Dq cX0_oddsOnCells 22 (.goto (-18)) 3 25 := ⟨by decide +kernel, rfl⟩
theorem qX0_oddsOnCells_25 : Dq cX0_oddsOnCells 25 (.iload_n 1) 1 26 := ⟨by decide +kernel, rfl⟩
theorem qX0_oddsOnCells_26 : Dq cX0_oddsOnCells 26 (.ireturn) 1 27 := ⟨by decide +kernel, rfl⟩
set_option maxRecDepth 100000 in
set_option maxHeartbeats 4000000 in
theorem c_oddsOnCells {G : Glb} {h : AHp} (hs : ShC h) {B : Nat} (hB : isB B)  : CP G m_X0_oddsOnCells 1 0 0 [.ref B] h (fun r h' => r = some (.int (sumN (hpI h (B + 1)) 48)) ∧ h' = h) := by
  suffices key : ∀ P : Option Value → AHp → Prop, (∀ r h', (r = some (.int (sumN (hpI h (B + 1)) 48)) ∧ h' = h) → P r h') → CP G m_X0_oddsOnCells 1 0 0 [.ref B] h P from key _ (fun _ _ z => z)
  intro P hP
  refine CP.of (by decide +kernel) (Nat.le_of_ble_eq_true rfl) fun X hX hR hnm => ?_
  show V X G 3 0 0 _ 0 [some (.ref B), none, none] [] h
  refine v_iconst hX li_0 qX0_oddsOnCells_0 ?_
  refine v_istore_n hX (Nat.le_of_ble_eq_true rfl) rfl (ls' := [some _, some _, none]) rfl qX0_oddsOnCells_1 ?_
  refine v_iconst hX li_0 qX0_oddsOnCells_2 ?_
  refine v_istore_n hX (Nat.le_of_ble_eq_true rfl) rfl (ls' := [some _, some _, some _]) rfl qX0_oddsOnCells_3 ?_
  have L4 : ∀ (m : Nat) (i : Nat), 48 - i = m → (i ≤ 48) → V X G 3 0 0 (QM X G P 0 0) 4 [some (.ref B), some (.int (sumN (hpI h (B + 1)) i)), some (.int (nI i))] [] h := by
    intro m
    induction m using Nat.strongRecOn with
    | _ m ih =>
    intro i hm hi
    refine v_iload_n hX rfl qX0_oddsOnCells_4 ?_
    refine v_bipush hX lb_48 qX0_oddsOnCells_5 ?_
    refine v_icmp_geS hX 25 qX0_oddsOnCells_7 rfl (fun q7 => ?_) (fun q7 => ?_)
    · have e := geN (N := 48) rfl hi q7; subst e
      refine v_iload_n hX rfl qX0_oddsOnCells_25 ?_
      refine v_ireturn hX qX0_oddsOnCells_26 (hP _ _ ?_)
      exact ⟨rfl, rfl⟩
    · have hl := ltN (N := 48) rfl hi q7
      refine v_iload_n hX rfl qX0_oddsOnCells_10 ?_
      refine v_aload_n hX rfl qX0_oddsOnCells_11 ?_
      refine v_getR hX g_X0_9 (hs.bk hB) (hs.bo hB) qX0_oddsOnCells_12 ?_
      refine v_iload_n hX rfl qX0_oddsOnCells_15 ?_
      refine v_ialdJ hX (hs.bok hB) (hs.bol hB) ?_ qX0_oddsOnCells_16 ?_
      · first | exact ix_lit rfl (Nat.le_of_ble_eq_true rfl) | exact ix_c (by assumption) | exact ix_n (by omega) (Nat.le_of_ble_eq_true rfl)
      refine v_iadd hX qX0_oddsOnCells_17 ?_
      refine v_istore_n hX (Nat.le_of_ble_eq_true rfl) rfl (ls' := [some _, some _, some _]) rfl qX0_oddsOnCells_18 ?_
      refine v_iinc hX rfl (by first | exact ii_nI _ | exact ii_1 _) (Nat.le_of_ble_eq_true rfl) rfl (ls' := [some _, some _, some _]) rfl qX0_oddsOnCells_19 ?_
      refine v_goto hX 4 qX0_oddsOnCells_22 rfl ?_
      exact ih _ (by omega) (i + 1) rfl (by omega)
  exact L4 _ 0 rfl (by omega)
theorem qX0_allTreads_0 : Dq cX0_allTreads 0 (.iconst 0) 1 1 := ⟨by decide +kernel, rfl⟩
theorem qX0_allTreads_1 : Dq cX0_allTreads 1 (.istore_n 1) 1 2 := ⟨by decide +kernel, rfl⟩
theorem qX0_allTreads_2 : Dq cX0_allTreads 2 (.iconst 0) 1 3 := ⟨by decide +kernel, rfl⟩
theorem qX0_allTreads_3 : Dq cX0_allTreads 3 (.istore_n 2) 1 4 := ⟨by decide +kernel, rfl⟩
theorem qX0_allTreads_4 : Dq cX0_allTreads 4 (.iload_n 2) 1 5 := ⟨by decide +kernel, rfl⟩
theorem qX0_allTreads_5 : Dq cX0_allTreads 5 (.bipush 48) 2 7 := ⟨by decide +kernel, rfl⟩
theorem qX0_allTreads_7 : Dq cX0_allTreads 7 (.if_icmp .ge 18) 3 10 := ⟨by decide +kernel, rfl⟩
theorem qX0_allTreads_10 : Dq cX0_allTreads 10 (.iload_n 1) 1 11 := ⟨by decide +kernel, rfl⟩
theorem qX0_allTreads_11 : Dq cX0_allTreads 11 (.aload_n 0) 1 12 := ⟨by decide +kernel, rfl⟩
theorem qX0_allTreads_12 : Dq cX0_allTreads 12 (.getfield 15) 3 15 := ⟨by decide +kernel, rfl⟩
theorem qX0_allTreads_15 : Dq cX0_allTreads 15 (.iload_n 2) 1 16 := ⟨by decide +kernel, rfl⟩
theorem qX0_allTreads_16 : Dq cX0_allTreads 16 (.iaload) 1 17 := ⟨by decide +kernel, rfl⟩
theorem qX0_allTreads_17 : Dq cX0_allTreads 17 (.iadd) 1 18 := ⟨by decide +kernel, rfl⟩
theorem qX0_allTreads_18 : Dq cX0_allTreads 18 (.istore_n 1) 1 19 := ⟨by decide +kernel, rfl⟩
theorem qX0_allTreads_19 : Dq cX0_allTreads 19 (.iinc 2 1) 3 22 := ⟨by decide +kernel, rfl⟩
theorem qX0_allTreads_22 : Dq cX0_allTreads 22 (.goto (-18)) 3 25 := ⟨by decide +kernel, rfl⟩
theorem qX0_allTreads_25 : Dq cX0_allTreads 25 (.iload_n 1) 1 26 := ⟨by decide +kernel, rfl⟩
theorem qX0_allTreads_26 : Dq cX0_allTreads 26 (.ireturn) 1 27 := ⟨by decide +kernel, rfl⟩
set_option maxRecDepth 100000 in
set_option maxHeartbeats 4000000 in
theorem c_allTreads {G : Glb} {h : AHp} (hs : ShC h) {B : Nat} (hB : isB B)  : CP G m_X0_allTreads 1 0 0 [.ref B] h (fun r h' => r = some (.int (sumN (hpI h (B + 2)) 48)) ∧ h' = h) := by
  suffices key : ∀ P : Option Value → AHp → Prop, (∀ r h', (r = some (.int (sumN (hpI h (B + 2)) 48)) ∧ h' = h) → P r h') → CP G m_X0_allTreads 1 0 0 [.ref B] h P from key _ (fun _ _ z => z)
  intro P hP
  refine CP.of (by decide +kernel) (Nat.le_of_ble_eq_true rfl) fun X hX hR hnm => ?_
  show V X G 3 0 0 _ 0 [some (.ref B), none, none] [] h
  refine v_iconst hX li_0 qX0_allTreads_0 ?_
  refine v_istore_n hX (Nat.le_of_ble_eq_true rfl) rfl (ls' := [some _, some _, none]) rfl qX0_allTreads_1 ?_
  refine v_iconst hX li_0 qX0_allTreads_2 ?_
  refine v_istore_n hX (Nat.le_of_ble_eq_true rfl) rfl (ls' := [some _, some _, some _]) rfl qX0_allTreads_3 ?_
  have L4 : ∀ (m : Nat) (i : Nat), 48 - i = m → (i ≤ 48) → V X G 3 0 0 (QM X G P 0 0) 4 [some (.ref B), some (.int (sumN (hpI h (B + 2)) i)), some (.int (nI i))] [] h := by
    intro m
    induction m using Nat.strongRecOn with
    | _ m ih =>
    intro i hm hi
    refine v_iload_n hX rfl qX0_allTreads_4 ?_
    refine v_bipush hX lb_48 qX0_allTreads_5 ?_
    refine v_icmp_geS hX 25 qX0_allTreads_7 rfl (fun q7 => ?_) (fun q7 => ?_)
    · have e := geN (N := 48) rfl hi q7; subst e
      refine v_iload_n hX rfl qX0_allTreads_25 ?_
      refine v_ireturn hX qX0_allTreads_26 (hP _ _ ?_)
      exact ⟨rfl, rfl⟩
    · have hl := ltN (N := 48) rfl hi q7
      refine v_iload_n hX rfl qX0_allTreads_10 ?_
      refine v_aload_n hX rfl qX0_allTreads_11 ?_
      refine v_getR hX g_X0_15 (hs.bk hB) (hs.bt hB) qX0_allTreads_12 ?_
      refine v_iload_n hX rfl qX0_allTreads_15 ?_
      refine v_ialdJ hX (hs.btk hB) (hs.btl hB) ?_ qX0_allTreads_16 ?_
      · first | exact ix_lit rfl (Nat.le_of_ble_eq_true rfl) | exact ix_c (by assumption) | exact ix_n (by omega) (Nat.le_of_ble_eq_true rfl)
      refine v_iadd hX qX0_allTreads_17 ?_
      refine v_istore_n hX (Nat.le_of_ble_eq_true rfl) rfl (ls' := [some _, some _, some _]) rfl qX0_allTreads_18 ?_
      refine v_iinc hX rfl (by first | exact ii_nI _ | exact ii_1 _) (Nat.le_of_ble_eq_true rfl) rfl (ls' := [some _, some _, some _]) rfl qX0_allTreads_19 ?_
      refine v_goto hX 4 qX0_allTreads_22 rfl ?_
      exact ih _ (by omega) (i + 1) rfl (by omega)
  exact L4 _ 0 rfl (by omega)
theorem qX0_allOdds_0 : Dq cX0_allOdds 0 (.aload_n 0) 1 1 := ⟨by decide +kernel, rfl⟩
theorem qX0_allOdds_1 : Dq cX0_allOdds 1 (.invokevirtual 48) 3 4 := ⟨by decide +kernel, rfl⟩
theorem qX0_allOdds_4 : Dq cX0_allOdds 4 (.aload_n 0) 1 5 := ⟨by decide +kernel, rfl⟩
theorem qX0_allOdds_5 : Dq cX0_allOdds 5 (.getfield 28) 3 8 := ⟨by decide +kernel, rfl⟩
theorem qX0_allOdds_8 : Dq cX0_allOdds 8 (.iadd) 1 9 := ⟨by decide +kernel, rfl⟩
theorem qX0_allOdds_9 : Dq cX0_allOdds 9 (.ireturn) 1 10 := ⟨by decide +kernel, rfl⟩
set_option maxRecDepth 100000 in
set_option maxHeartbeats 4000000 in
theorem c_allOdds {G : Glb} {h : AHp} (hs : ShC h) {B : Nat} (hB : isB B)  : CP G m_X0_allOdds 2 0 0 [.ref B] h (fun r h' => r = some (.int (sumN (hpI h (B + 1)) 48 + hpI h B 2)) ∧ h' = h) := by
  suffices key : ∀ P : Option Value → AHp → Prop, (∀ r h', (r = some (.int (sumN (hpI h (B + 1)) 48 + hpI h B 2)) ∧ h' = h) → P r h') → CP G m_X0_allOdds 2 0 0 [.ref B] h P from key _ (fun _ _ z => z)
  intro P hP
  refine CP.of (by decide +kernel) (Nat.le_of_ble_eq_true rfl) fun X hX hR hnm => ?_
  show V X G 1 0 0 _ 0 [some (.ref B)] [] h
  refine v_aload_n hX rfl qX0_allOdds_0 ?_
  refine v_callV hX hR k_X0_48 (hs.bk hB) (c_oddsOnCells hs hB) (Nat.le_of_ble_eq_true rfl) rfl (Nat.le_of_ble_eq_true rfl) ⟨Nat.le_of_ble_eq_true rfl, Nat.le_of_ble_eq_true rfl⟩ qX0_allOdds_1 ?_
  rintro _ _ ⟨rfl, rfl⟩
  refine v_aload_n hX rfl qX0_allOdds_4 ?_
  refine v_getI hX g_X0_28 (Or.inl rfl) (hs.bk hB) qX0_allOdds_5 ?_
  refine v_iadd hX qX0_allOdds_8 ?_
  refine v_ireturn hX qX0_allOdds_9 (hP _ _ ?_)
  exact ⟨rfl, rfl⟩
/-- the first place of most, and how much lies there -/
def mst (f : Nat → Int32) : Nat → Int32 × Int32
  | 0 => (-1, 0)
  | n + 1 => if (mst f n).2 < f n then (nI n, f n) else mst f n
