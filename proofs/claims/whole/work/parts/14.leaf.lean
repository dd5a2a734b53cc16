/-! the small methods of the class: numbers, beaches, lookers, steps, sheets -/
abbrev tn (i : Int32) : Nat := i.toNatClampNeg
def bnd (v a b : Int32) : Int32 := if a < (if v < b then v else b) then (if v < b then v else b) else a
def mxI (x y : Int32) : Int32 := if x < y then y else x
def mnI (x y : Int32) : Int32 := if y < x then y else x
def sumN (f : Nat → Int32) : Nat → Int32
  | 0 => 0
  | n + 1 => sumN f n + f n
def fx (p : Nat → Bool) : Nat → Nat → Int32
  | 0, _ => -1
  | n + 1, i => if p i then nI i else fx p n (i + 1)
theorem fx_hit {p : Nat → Bool} {k : Nat} (hk : p k = true) : ∀ (n i : Nat), i ≤ k → k < i + n → (∀ j, i ≤ j → j < k → p j = false) → fx p n i = nI k := by
  intro n
  induction n with
  | zero => intro i h1 h2; omega
  | succ n ih =>
    intro i h1 h2 h3
    by_cases e : i = k
    · subst e; simp [fx, hk]
    · have h4 : p i = false := h3 i (Nat.le_refl _) (by omega)
      simp only [fx, h4]
      exact ih (i + 1) (by omega) (by omega) (fun j hj => h3 j (by omega))
theorem fx_no {p : Nat → Bool} : ∀ (n i : Nat), (∀ j, i ≤ j → j < i + n → p j = false) → fx p n i = -1 := by
  intro n
  induction n with
  | zero => intro i _; rfl
  | succ n ih =>
    intro i h3
    have h4 : p i = false := h3 i (Nat.le_refl _) (by omega)
    simp only [fx, h4]
    exact ih (i + 1) (fun j hj hj2 => h3 j (by omega) (by omega))
theorem ixk (j : Nat) {i : Int32} {L : Nat} (h1 : i.toNatClampNeg = j) (h2 : ¬ i < 0) (h3 : Nat.ble (j + 1) L = true) : IX i j L := ⟨h1, h2, Nat.le_of_ble_eq_true h3⟩
theorem nI48 : (48 : Int32) = nI 48 := rfl
theorem nI_ne1 {i : Nat} (h : i < 2 ^ 31) : ¬ nI i = -1 := by
  intro e
  have h1 := congrArg Int32.toInt e
  rw [nI_toInt h] at h1
  have h2 : (-1 : Int32).toInt = -1 := rfl
  omega
theorem qX11_isWithin_0 : Dq cX11_isWithin 0 (.iload_n 1) 1 1 := ⟨by decide +kernel, rfl⟩
theorem qX11_isWithin_1 : Dq cX11_isWithin 1 (.iload_n 0) 1 2 := ⟨by decide +kernel, rfl⟩
theorem qX11_isWithin_2 : Dq cX11_isWithin 2 (.if_icmp .gt 12) 3 5 := ⟨by decide +kernel, rfl⟩
theorem qX11_isWithin_5 : Dq cX11_isWithin 5 (.iload_n 0) 1 6 := ⟨by decide +kernel, rfl⟩
theorem qX11_isWithin_6 : Dq cX11_isWithin 6 (.iload_n 2) 1 7 := ⟨by decide +kernel, rfl⟩
theorem qX11_isWithin_7 : Dq cX11_isWithin 7 (.if_icmp .gt 7) 3 10 := ⟨by decide +kernel, rfl⟩
theorem qX11_isWithin_10 : Dq cX11_isWithin 10 (.iconst 1) 1 11 := ⟨by decide +kernel, rfl⟩
theorem qX11_isWithin_11 : Dq cX11_isWithin 11 (.goto 4) 3 14 := ⟨by decide +kernel, rfl⟩
theorem qX11_isWithin_14 : Dq cX11_isWithin 14 (.iconst 0) 1 15 := ⟨by decide +kernel, rfl⟩
theorem qX11_isWithin_15 : Dq cX11_isWithin 15 (.ireturn) 1 16 := ⟨by decide +kernel, rfl⟩
set_option maxRecDepth 100000 in
set_option maxHeartbeats 4000000 in
theorem c_isWithin {G : Glb} {h : AHp} (v a b : Int32) : CP G m_X11_isWithin 1 0 0 [.int v, .int a, .int b] h (fun r h' => r = some (.int (bz (a ≤ v ∧ v ≤ b))) ∧ h = h') := by
  suffices key : ∀ P : Option Value → AHp → Prop, (∀ r h', (r = some (.int (bz (a ≤ v ∧ v ≤ b))) ∧ h = h') → P r h') → CP G m_X11_isWithin 1 0 0 [.int v, .int a, .int b] h P from key _ (fun _ _ z => z)
  intro P hP
  refine CP.of (by decide +kernel) (Nat.le_of_ble_eq_true rfl) fun X hX hR hnm => ?_
  show V X G 3 0 0 _ 0 [some (.int v), some (.int a), some (.int b)] [] h
  refine v_iload_n hX rfl qX11_isWithin_0 ?_
  refine v_iload_n hX rfl qX11_isWithin_1 ?_
  refine v_icmp_gtS hX 14 qX11_isWithin_2 rfl (fun q2 => ?_) (fun q2 => ?_)
  · skip
    refine v_iconst hX li_0 qX11_isWithin_14 ?_
    refine v_zreturn hX (by first | exact Or.inl rfl | exact Or.inr rfl | exact bz01 _) qX11_isWithin_15 (hP _ _ ?_)
    first | exact ⟨congrArg (fun z => some (Value.int z)) (bz_t ⟨by assumption, by assumption⟩).symm, rfl⟩ | exact ⟨congrArg (fun z => some (Value.int z)) (bz_f (fun z => by first | exact absurd z.1 (Int32.not_le.mpr (by assumption)) | exact absurd z.2 (Int32.not_le.mpr (by assumption)))).symm, rfl⟩
  · skip
    refine v_iload_n hX rfl qX11_isWithin_5 ?_
    refine v_iload_n hX rfl qX11_isWithin_6 ?_
    refine v_icmp_gtS hX 14 qX11_isWithin_7 rfl (fun q7 => ?_) (fun q7 => ?_)
    · skip
      refine v_iconst hX li_0 qX11_isWithin_14 ?_
      refine v_zreturn hX (by first | exact Or.inl rfl | exact Or.inr rfl | exact bz01 _) qX11_isWithin_15 (hP _ _ ?_)
      first | exact ⟨congrArg (fun z => some (Value.int z)) (bz_t ⟨by assumption, by assumption⟩).symm, rfl⟩ | exact ⟨congrArg (fun z => some (Value.int z)) (bz_f (fun z => by first | exact absurd z.1 (Int32.not_le.mpr (by assumption)) | exact absurd z.2 (Int32.not_le.mpr (by assumption)))).symm, rfl⟩
    · skip
      refine v_iconst hX li_1 qX11_isWithin_10 ?_
      refine v_goto hX 15 qX11_isWithin_11 rfl ?_
      refine v_zreturn hX (by first | exact Or.inl rfl | exact Or.inr rfl | exact bz01 _) qX11_isWithin_15 (hP _ _ ?_)
      first | exact ⟨congrArg (fun z => some (Value.int z)) (bz_t ⟨by assumption, by assumption⟩).symm, rfl⟩ | exact ⟨congrArg (fun z => some (Value.int z)) (bz_f (fun z => by first | exact absurd z.1 (Int32.not_le.mpr (by assumption)) | exact absurd z.2 (Int32.not_le.mpr (by assumption)))).symm, rfl⟩
theorem qX11_isCell_0 : Dq cX11_isCell 0 (.iload_n 0) 1 1 := ⟨by decide +kernel, rfl⟩
theorem qX11_isCell_1 : Dq cX11_isCell 1 (.iconst 0) 1 2 := ⟨by decide +kernel, rfl⟩
theorem qX11_isCell_2 : Dq cX11_isCell 2 (.bipush 47) 2 4 := ⟨by decide +kernel, rfl⟩
theorem qX11_isCell_4 : Dq cX11_isCell 4 (.invokestatic 110) 3 7 := ⟨by decide +kernel, rfl⟩
theorem qX11_isCell_7 : Dq cX11_isCell 7 (.ireturn) 1 8 := ⟨by decide +kernel, rfl⟩
set_option maxRecDepth 100000 in
set_option maxHeartbeats 4000000 in
theorem c_isCell {G : Glb} {h : AHp} (v : Int32) : CP G m_X11_isCell 2 0 0 [.int v] h (fun r h' => r = some (.int (bz (isC v))) ∧ h = h') := by
  suffices key : ∀ P : Option Value → AHp → Prop, (∀ r h', (r = some (.int (bz (isC v))) ∧ h = h') → P r h') → CP G m_X11_isCell 2 0 0 [.int v] h P from key _ (fun _ _ z => z)
  intro P hP
  refine CP.of (by decide +kernel) (Nat.le_of_ble_eq_true rfl) fun X hX hR hnm => ?_
  show V X G 1 0 0 _ 0 [some (.int v)] [] h
  refine v_iload_n hX rfl qX11_isCell_0 ?_
  refine v_iconst hX li_0 qX11_isCell_1 ?_
  refine v_bipush hX lb_47 qX11_isCell_2 ?_
  refine v_callSq hX hR k_X11_110 (c_isWithin _ _ _) rfl (Nat.le_of_ble_eq_true rfl) rfl (Nat.le_of_ble_eq_true rfl) ⟨Nat.le_of_ble_eq_true rfl, Nat.le_of_ble_eq_true rfl⟩ qX11_isCell_4 ?_
  rintro _ _ ⟨rfl, rfl⟩
  refine v_zreturn hX (by first | exact Or.inl rfl | exact Or.inr rfl | exact bz01 _) qX11_isCell_7 (hP _ _ ?_)
  exact ⟨rfl, rfl⟩
theorem qX11_bounded_0 : Dq cX11_bounded 0 (.iload_n 1) 1 1 := ⟨by decide +kernel, rfl⟩
theorem qX11_bounded_1 : Dq cX11_bounded 1 (.iload_n 2) 1 2 := ⟨by decide +kernel, rfl⟩
theorem qX11_bounded_2 : Dq cX11_bounded 2 (.iload_n 0) 1 3 := ⟨by decide +kernel, rfl⟩
theorem qX11_bounded_3 : Dq cX11_bounded 3 (.invokestatic 253) 3 6 := ⟨by decide +kernel, rfl⟩
theorem qX11_bounded_6 : Dq cX11_bounded 6 (.invokestatic 335) 3 9 := ⟨by decide +kernel, rfl⟩
theorem qX11_bounded_9 : Dq cX11_bounded 9 (.ireturn) 1 10 := ⟨by decide +kernel, rfl⟩
set_option maxRecDepth 100000 in
set_option maxHeartbeats 4000000 in
theorem c_bounded {G : Glb} {h : AHp} (v a b : Int32) : CP G m_X11_bounded 2 0 0 [.int v, .int a, .int b] h (fun r h' => r = some (.int (bnd v a b)) ∧ h = h') := by
  suffices key : ∀ P : Option Value → AHp → Prop, (∀ r h', (r = some (.int (bnd v a b)) ∧ h = h') → P r h') → CP G m_X11_bounded 2 0 0 [.int v, .int a, .int b] h P from key _ (fun _ _ z => z)
  intro P hP
  refine CP.of (by decide +kernel) (Nat.le_of_ble_eq_true rfl) fun X hX hR hnm => ?_
  show V X G 3 0 0 _ 0 [some (.int v), some (.int a), some (.int b)] [] h
  refine v_iload_n hX rfl qX11_bounded_0 ?_
  refine v_iload_n hX rfl qX11_bounded_1 ?_
  refine v_iload_n hX rfl qX11_bounded_2 ?_
  refine v_min hX hR (Nat.le_of_ble_eq_true rfl) k_X11_253 (Nat.le_of_ble_eq_true rfl) ⟨Nat.le_of_ble_eq_true rfl, Nat.le_of_ble_eq_true rfl⟩ qX11_bounded_3 ?_
  refine v_max hX hR (Nat.le_of_ble_eq_true rfl) k_X11_335 (Nat.le_of_ble_eq_true rfl) ⟨Nat.le_of_ble_eq_true rfl, Nat.le_of_ble_eq_true rfl⟩ qX11_bounded_6 ?_
  refine v_ireturn hX qX11_bounded_9 (hP _ _ ?_)
  exact ⟨rfl, rfl⟩
theorem qX11_gainOf_0 : Dq cX11_gainOf 0 (.iload_n 0) 1 1 := ⟨by decide +kernel, rfl⟩
theorem qX11_gainOf_1 : Dq cX11_gainOf 1 (.iload_n 1) 1 2 := ⟨by decide +kernel, rfl⟩
theorem qX11_gainOf_2 : Dq cX11_gainOf 2 (.imul) 1 3 := ⟨by decide +kernel, rfl⟩
theorem qX11_gainOf_3 : Dq cX11_gainOf 3 (.bipush 100) 2 5 := ⟨by decide +kernel, rfl⟩
theorem qX11_gainOf_5 : Dq cX11_gainOf 5 (.idiv) 1 6 := ⟨by decide +kernel, rfl⟩
theorem qX11_gainOf_6 : Dq cX11_gainOf 6 (.ireturn) 1 7 := ⟨by decide +kernel, rfl⟩
set_option maxRecDepth 100000 in
set_option maxHeartbeats 4000000 in
theorem c_gainOf {G : Glb} {h : AHp} (v a : Int32) : CP G m_X11_gainOf 1 0 0 [.int v, .int a] h (fun r h' => r = some (.int (v * a / 100)) ∧ h = h') := by
  suffices key : ∀ P : Option Value → AHp → Prop, (∀ r h', (r = some (.int (v * a / 100)) ∧ h = h') → P r h') → CP G m_X11_gainOf 1 0 0 [.int v, .int a] h P from key _ (fun _ _ z => z)
  intro P hP
  refine CP.of (by decide +kernel) (Nat.le_of_ble_eq_true rfl) fun X hX hR hnm => ?_
  show V X G 2 0 0 _ 0 [some (.int v), some (.int a)] [] h
  refine v_iload_n hX rfl qX11_gainOf_0 ?_
  refine v_iload_n hX rfl qX11_gainOf_1 ?_
  refine v_imul hX qX11_gainOf_2 ?_
  refine v_bipush hX lb_100 qX11_gainOf_3 ?_
  refine v_idiv hX (by decide) qX11_gainOf_5 ?_
  refine v_ireturn hX qX11_gainOf_6 (hP _ _ ?_)
  exact ⟨rfl, rfl⟩
theorem qX11_rateOf_0 : Dq cX11_rateOf 0 (.iload_n 1) 1 1 := ⟨by decide +kernel, rfl⟩
theorem qX11_rateOf_1 : Dq cX11_rateOf 1 (.ifCond .le 9) 3 4 := ⟨by decide +kernel, rfl⟩
theorem qX11_rateOf_4 : Dq cX11_rateOf 4 (.iload_n 0) 1 5 := ⟨by decide +kernel, rfl⟩
theorem qX11_rateOf_5 : Dq cX11_rateOf 5 (.iload_n 1) 1 6 := ⟨by decide +kernel, rfl⟩
theorem qX11_rateOf_6 : Dq cX11_rateOf 6 (.idiv) 1 7 := ⟨by decide +kernel, rfl⟩
theorem qX11_rateOf_7 : Dq cX11_rateOf 7 (.goto 4) 3 10 := ⟨by decide +kernel, rfl⟩
theorem qX11_rateOf_10 : Dq cX11_rateOf 10 (.iconst 0) 1 11 := ⟨by decide +kernel, rfl⟩
theorem qX11_rateOf_11 : Dq cX11_rateOf 11 (.ireturn) 1 12 := ⟨by decide +kernel, rfl⟩
set_option maxRecDepth 100000 in
set_option maxHeartbeats 4000000 in
theorem c_rateOf {G : Glb} {h : AHp} (v a : Int32) : CP G m_X11_rateOf 1 0 0 [.int v, .int a] h (fun r h' => r = some (.int (if 0 < a then v / a else 0)) ∧ h = h') := by
  suffices key : ∀ P : Option Value → AHp → Prop, (∀ r h', (r = some (.int (if 0 < a then v / a else 0)) ∧ h = h') → P r h') → CP G m_X11_rateOf 1 0 0 [.int v, .int a] h P from key _ (fun _ _ z => z)
  intro P hP
  refine CP.of (by decide +kernel) (Nat.le_of_ble_eq_true rfl) fun X hX hR hnm => ?_
  show V X G 2 0 0 _ 0 [some (.int v), some (.int a)] [] h
  refine v_iload_n hX rfl qX11_rateOf_0 ?_
  refine v_if_leS hX 10 qX11_rateOf_1 rfl (fun q1 => ?_) (fun q1 => ?_)
  · skip
    refine v_iconst hX li_0 qX11_rateOf_10 ?_
    refine v_ireturn hX qX11_rateOf_11 (hP _ _ ?_)
    first | exact ⟨by rw [if_pos (by assumption)], rfl⟩ | exact ⟨by rw [if_neg (Int32.not_lt.mpr (by assumption))], rfl⟩
  · skip
    refine v_iload_n hX rfl qX11_rateOf_4 ?_
    refine v_iload_n hX rfl qX11_rateOf_5 ?_
    refine v_idiv hX (by intro e; rw [e] at q1; exact absurd q1 (by decide)) qX11_rateOf_6 ?_
    refine v_goto hX 11 qX11_rateOf_7 rfl ?_
    refine v_ireturn hX qX11_rateOf_11 (hP _ _ ?_)
    first | exact ⟨by rw [if_pos (by assumption)], rfl⟩ | exact ⟨by rw [if_neg (Int32.not_lt.mpr (by assumption))], rfl⟩
/-- the treads or odds of a beach -/
def oddsA (h : AHp) (B : Nat) (i : Int32) : Int32 := if isC i then hpI h (B + 1) (tn i) else 0
def trdA (h : AHp) (B : Nat) (i : Int32) : Int32 := if isC i then hpI h (B + 2) (tn i) else 0
theorem qX0_oddsAt_0 : Dq cX0_oddsAt 0 (.iload_n 1) 1 1 := ⟨by decide +kernel, rfl⟩
theorem qX0_oddsAt_1 : Dq cX0_oddsAt 1 (.invokestatic 37) 3 4 := ⟨by decide +kernel, rfl⟩
theorem qX0_oddsAt_4 : Dq cX0_oddsAt 4 (.ifCond .eq 12) 3 7 := ⟨by decide +kernel, rfl⟩
theorem qX0_oddsAt_7 : Dq cX0_oddsAt 7 (.aload_n 0) 1 8 := ⟨by decide +kernel, rfl⟩
theorem qX0_oddsAt_8 : Dq cX0_oddsAt 8 (.getfield 9) 3 11 := ⟨by decide +kernel, rfl⟩
theorem qX0_oddsAt_11 : Dq cX0_oddsAt 11 (.iload_n 1) 1 12 := ⟨by decide +kernel, rfl⟩
theorem qX0_oddsAt_12 : Dq cX0_oddsAt 12 (.iaload) 1 13 := ⟨by decide +kernel, rfl⟩
theorem qX0_oddsAt_13 : Dq cX0_oddsAt 13 (.goto 4) 3 16 := ⟨by decide +kernel, rfl⟩
theorem qX0_oddsAt_16 : Dq cX0_oddsAt 16 (.iconst 0) 1 17 := ⟨by decide +kernel, rfl⟩
theorem qX0_oddsAt_17 : Dq cX0_oddsAt 17 (.ireturn) 1 18 := ⟨by decide +kernel, rfl⟩
set_option maxRecDepth 100000 in
set_option maxHeartbeats 4000000 in
theorem c_oddsAt {G : Glb} {h : AHp} (hs : ShC h) {B : Nat} (hB : isB B) (i : Int32) : CP G m_X0_oddsAt 3 0 0 [.ref B, .int i] h (fun r h' => r = some (.int (oddsA h B i)) ∧ h = h') := by
  suffices key : ∀ P : Option Value → AHp → Prop, (∀ r h', (r = some (.int (oddsA h B i)) ∧ h = h') → P r h') → CP G m_X0_oddsAt 3 0 0 [.ref B, .int i] h P from key _ (fun _ _ z => z)
  intro P hP
  refine CP.of (by decide +kernel) (Nat.le_of_ble_eq_true rfl) fun X hX hR hnm => ?_
  show V X G 2 0 0 _ 0 [some (.ref B), some (.int i)] [] h
  refine v_iload_n hX rfl qX0_oddsAt_0 ?_
  refine v_callNq hX hR k_X0_37 (c_isCell _) rfl (Nat.le_of_ble_eq_true rfl) rfl (Nat.le_of_ble_eq_true rfl) ⟨Nat.le_of_ble_eq_true rfl, Nat.le_of_ble_eq_true rfl⟩ qX0_oddsAt_1 ?_
  rintro _ _ ⟨rfl, rfl⟩
  first | refine v_if_eqB hX 16 qX0_oddsAt_4 rfl (fun q4 => ?_) (fun q4 => ?_) | refine v_if_eq hX 16 qX0_oddsAt_4 rfl (fun q4 => ?_) (fun q4 => ?_)
  · skip
    refine v_iconst hX li_0 qX0_oddsAt_16 ?_
    refine v_ireturn hX qX0_oddsAt_17 (hP _ _ ?_)
    unfold oddsA
    first | exact ⟨by rw [if_pos (by assumption)], rfl⟩ | exact ⟨by rw [if_neg (by assumption)], rfl⟩
  · skip
    refine v_aload_n hX rfl qX0_oddsAt_7 ?_
    refine v_getR hX g_X0_9 (hs.bk hB) (hs.bo hB) qX0_oddsAt_8 ?_
    refine v_iload_n hX rfl qX0_oddsAt_11 ?_
    refine v_ialdJ hX (hs.bok hB) (hs.bol hB) (by exact isC.ix (by assumption)) qX0_oddsAt_12 ?_
    refine v_goto hX 17 qX0_oddsAt_13 rfl ?_
    refine v_ireturn hX qX0_oddsAt_17 (hP _ _ ?_)
    unfold oddsA
    first | exact ⟨by rw [if_pos (by assumption)], rfl⟩ | exact ⟨by rw [if_neg (by assumption)], rfl⟩
theorem qX0_treadsAt_0 : Dq cX0_treadsAt 0 (.iload_n 1) 1 1 := ⟨by decide +kernel, rfl⟩
theorem qX0_treadsAt_1 : Dq cX0_treadsAt 1 (.invokestatic 37) 3 4 := ⟨by decide +kernel, rfl⟩
theorem qX0_treadsAt_4 : Dq cX0_treadsAt 4 (.ifCond .eq 12) 3 7 := ⟨by decide +kernel, rfl⟩
theorem qX0_treadsAt_7 : Dq cX0_treadsAt 7 (.aload_n 0) 1 8 := ⟨by decide +kernel, rfl⟩
theorem qX0_treadsAt_8 : Dq cX0_treadsAt 8 (.getfield 15) 3 11 := ⟨by decide +kernel, rfl⟩
theorem qX0_treadsAt_11 : Dq cX0_treadsAt 11 (.iload_n 1) 1 12 := ⟨by decide +kernel, rfl⟩
theorem qX0_treadsAt_12 : Dq cX0_treadsAt 12 (.iaload) 1 13 := ⟨by decide +kernel, rfl⟩
theorem qX0_treadsAt_13 : Dq cX0_treadsAt 13 (.goto 4) 3 16 := ⟨by decide +kernel, rfl⟩
theorem qX0_treadsAt_16 : Dq cX0_treadsAt 16 (.iconst 0) 1 17 := ⟨by decide +kernel, rfl⟩
theorem qX0_treadsAt_17 : Dq cX0_treadsAt 17 (.ireturn) 1 18 := ⟨by decide +kernel, rfl⟩
set_option maxRecDepth 100000 in
set_option maxHeartbeats 4000000 in
theorem c_treadsAt {G : Glb} {h : AHp} (hs : ShC h) {B : Nat} (hB : isB B) (i : Int32) : CP G m_X0_treadsAt 3 0 0 [.ref B, .int i] h (fun r h' => r = some (.int (trdA h B i)) ∧ h = h') := by
  suffices key : ∀ P : Option Value → AHp → Prop, (∀ r h', (r = some (.int (trdA h B i)) ∧ h = h') → P r h') → CP G m_X0_treadsAt 3 0 0 [.ref B, .int i] h P from key _ (fun _ _ z => z)
  intro P hP
  refine CP.of (by decide +kernel) (Nat.le_of_ble_eq_true rfl) fun X hX hR hnm => ?_
  show V X G 2 0 0 _ 0 [some (.ref B), some (.int i)] [] h
  refine v_iload_n hX rfl qX0_treadsAt_0 ?_
  refine v_callNq hX hR k_X0_37 (c_isCell _) rfl (Nat.le_of_ble_eq_true rfl) rfl (Nat.le_of_ble_eq_true rfl) ⟨Nat.le_of_ble_eq_true rfl, Nat.le_of_ble_eq_true rfl⟩ qX0_treadsAt_1 ?_
  rintro _ _ ⟨rfl, rfl⟩
  first | refine v_if_eqB hX 16 qX0_treadsAt_4 rfl (fun q4 => ?_) (fun q4 => ?_) | refine v_if_eq hX 16 qX0_treadsAt_4 rfl (fun q4 => ?_) (fun q4 => ?_)
  · skip
    refine v_iconst hX li_0 qX0_treadsAt_16 ?_
    refine v_ireturn hX qX0_treadsAt_17 (hP _ _ ?_)
    unfold trdA
    first | exact ⟨by rw [if_pos (by assumption)], rfl⟩ | exact ⟨by rw [if_neg (by assumption)], rfl⟩
  · skip
    refine v_aload_n hX rfl qX0_treadsAt_7 ?_
    refine v_getR hX g_X0_15 (hs.bk hB) (hs.bt hB) qX0_treadsAt_8 ?_
    refine v_iload_n hX rfl qX0_treadsAt_11 ?_
    refine v_ialdJ hX (hs.btk hB) (hs.btl hB) (by exact isC.ix (by assumption)) qX0_treadsAt_12 ?_
    refine v_goto hX 17 qX0_treadsAt_13 rfl ?_
    refine v_ireturn hX qX0_treadsAt_17 (hP _ _ ?_)
    unfold trdA
    first | exact ⟨by rw [if_pos (by assumption)], rfl⟩ | exact ⟨by rw [if_neg (by assumption)], rfl⟩
theorem qX0_addOdds_0 : Dq cX0_addOdds 0 (.iload_n 1) 1 1 := ⟨by decide +kernel, rfl⟩
theorem qX0_addOdds_1 : Dq cX0_addOdds 1 (.invokestatic 37) 3 4 := ⟨by decide +kernel, rfl⟩
theorem qX0_addOdds_4 : Dq cX0_addOdds 4 (.ifCond .eq 22) 3 7 := ⟨by decide +kernel, rfl⟩
theorem qX0_addOdds_7 : Dq cX0_addOdds 7 (.aload_n 0) 1 8 := ⟨by decide +kernel, rfl⟩
theorem qX0_addOdds_8 : Dq cX0_addOdds 8 (.getfield 9) 3 11 := ⟨by decide +kernel, rfl⟩
theorem qX0_addOdds_11 : Dq cX0_addOdds 11 (.iload_n 1) 1 12 := ⟨by decide +kernel, rfl⟩
theorem qX0_addOdds_12 : Dq cX0_addOdds 12 (.ldc 41) 2 14 := ⟨by decide +kernel, rfl⟩
theorem qX0_addOdds_14 : Dq cX0_addOdds 14 (.aload_n 0) 1 15 := ⟨by decide +kernel, rfl⟩
theorem qX0_addOdds_15 : Dq cX0_addOdds 15 (.getfield 9) 3 18 := ⟨by decide +kernel, rfl⟩
theorem qX0_addOdds_18 : Dq cX0_addOdds 18 (.iload_n 1) 1 19 := ⟨by decide +kernel, rfl⟩
theorem qX0_addOdds_19 : Dq cX0_addOdds 19 (.iaload) 1 20 := ⟨by decide +kernel, rfl⟩
theorem qX0_addOdds_20 : Dq cX0_addOdds 20 (.iload_n 2) 1 21 := ⟨by decide +kernel, rfl⟩
theorem qX0_addOdds_21 : Dq cX0_addOdds 21 (.iadd) 1 22 := ⟨by decide +kernel, rfl⟩
theorem qX0_addOdds_22 : Dq cX0_addOdds 22 (.invokestatic 42) 3 25 := ⟨by decide +kernel, rfl⟩
theorem qX0_addOdds_25 : Dq cX0_addOdds 25 (.iastore) 1 26 := ⟨by decide +kernel, rfl⟩
theorem qX0_addOdds_26 : Dq cX0_addOdds 26 (.return_) 1 27 := ⟨by decide +kernel, rfl⟩
set_option maxRecDepth 100000 in
set_option maxHeartbeats 4000000 in
theorem c_addOdds {G : Glb} {h : AHp} (hs : ShC h) {B : Nat} (hB : isB B) {i : Int32} (hp : isC i) (v : Int32) : CP G m_X0_addOdds 3 0 0 [.ref B, .int i, .int v] h (fun r h' => r = none ∧ stI h (B + 1) (tn i) (mnI 999999 (hpI h (B + 1) (tn i) + v)) = h') := by
  suffices key : ∀ P : Option Value → AHp → Prop, (∀ r h', (r = none ∧ stI h (B + 1) (tn i) (mnI 999999 (hpI h (B + 1) (tn i) + v)) = h') → P r h') → CP G m_X0_addOdds 3 0 0 [.ref B, .int i, .int v] h P from key _ (fun _ _ z => z)
  intro P hP
  refine CP.of (by decide +kernel) (Nat.le_of_ble_eq_true rfl) fun X hX hR hnm => ?_
  show V X G 3 0 0 _ 0 [some (.ref B), some (.int i), some (.int v)] [] h
  refine v_iload_n hX rfl qX0_addOdds_0 ?_
  refine v_callNq hX hR k_X0_37 (c_isCell _) rfl (Nat.le_of_ble_eq_true rfl) rfl (Nat.le_of_ble_eq_true rfl) ⟨Nat.le_of_ble_eq_true rfl, Nat.le_of_ble_eq_true rfl⟩ qX0_addOdds_1 ?_
  rintro _ _ ⟨rfl, rfl⟩
  first | refine v_if_eqB hX 26 qX0_addOdds_4 rfl (fun q4 => ?_) (fun q4 => ?_) | refine v_if_eq hX 26 qX0_addOdds_4 rfl (fun q4 => ?_) (fun q4 => ?_)
  · exact absurd hp (by assumption)
  · skip
    refine v_aload_n hX rfl qX0_addOdds_7 ?_
    refine v_getR hX g_X0_9 (hs.bk hB) (hs.bo hB) qX0_addOdds_8 ?_
    refine v_iload_n hX rfl qX0_addOdds_11 ?_
    refine v_ldc hX c_X0_41 qX0_addOdds_12 ?_
    refine v_aload_n hX rfl qX0_addOdds_14 ?_
    refine v_getR hX g_X0_9 (hs.bk hB) (hs.bo hB) qX0_addOdds_15 ?_
    refine v_iload_n hX rfl qX0_addOdds_18 ?_
    refine v_ialdJ hX (hs.bok hB) (hs.bol hB) (by exact hp.ix) qX0_addOdds_19 ?_
    refine v_iload_n hX rfl qX0_addOdds_20 ?_
    refine v_iadd hX qX0_addOdds_21 ?_
    refine v_min hX hR (Nat.le_of_ble_eq_true rfl) k_X0_42 (Nat.le_of_ble_eq_true rfl) ⟨Nat.le_of_ble_eq_true rfl, Nat.le_of_ble_eq_true rfl⟩ qX0_addOdds_22 ?_
    refine v_iastJ hX (hs.bok hB) (hs.bol hB) (by exact hp.ix) qX0_addOdds_25 ?_
    refine v_return hX qX0_addOdds_26 (hP _ _ ?_)
    exact ⟨rfl, rfl⟩
set_option maxRecDepth 100000 in
set_option maxHeartbeats 4000000 in
theorem c_addOddsN {G : Glb} {h : AHp} (hs : ShC h) {B : Nat} (hB : isB B) {i : Int32} (hp : ¬ isC i) (v : Int32) : CP G m_X0_addOdds 3 0 0 [.ref B, .int i, .int v] h (fun r h' => r = none ∧ h = h') := by
  suffices key : ∀ P : Option Value → AHp → Prop, (∀ r h', (r = none ∧ h = h') → P r h') → CP G m_X0_addOdds 3 0 0 [.ref B, .int i, .int v] h P from key _ (fun _ _ z => z)
  intro P hP
  refine CP.of (by decide +kernel) (Nat.le_of_ble_eq_true rfl) fun X hX hR hnm => ?_
  show V X G 3 0 0 _ 0 [some (.ref B), some (.int i), some (.int v)] [] h
  refine v_iload_n hX rfl qX0_addOdds_0 ?_
  refine v_callNq hX hR k_X0_37 (c_isCell _) rfl (Nat.le_of_ble_eq_true rfl) rfl (Nat.le_of_ble_eq_true rfl) ⟨Nat.le_of_ble_eq_true rfl, Nat.le_of_ble_eq_true rfl⟩ qX0_addOdds_1 ?_
  rintro _ _ ⟨rfl, rfl⟩
  first | refine v_if_eqB hX 26 qX0_addOdds_4 rfl (fun q4 => ?_) (fun q4 => ?_) | refine v_if_eq hX 26 qX0_addOdds_4 rfl (fun q4 => ?_) (fun q4 => ?_)
  · skip
    refine v_return hX qX0_addOdds_26 (hP _ _ ?_)
    exact ⟨rfl, rfl⟩
  · exact absurd (by assumption) hp
theorem qX0_addTreads_0 : Dq cX0_addTreads 0 (.iload_n 1) 1 1 := ⟨by decide +kernel, rfl⟩
theorem qX0_addTreads_1 : Dq cX0_addTreads 1 (.invokestatic 37) 3 4 := ⟨by decide +kernel, rfl⟩
theorem qX0_addTreads_4 : Dq cX0_addTreads 4 (.ifCond .eq 22) 3 7 := ⟨by decide +kernel, rfl⟩
theorem qX0_addTreads_7 : Dq cX0_addTreads 7 (.aload_n 0) 1 8 := ⟨by decide +kernel, rfl⟩
theorem qX0_addTreads_8 : Dq cX0_addTreads 8 (.getfield 15) 3 11 := ⟨by decide +kernel, rfl⟩
theorem qX0_addTreads_11 : Dq cX0_addTreads 11 (.iload_n 1) 1 12 := ⟨by decide +kernel, rfl⟩
theorem qX0_addTreads_12 : Dq cX0_addTreads 12 (.bipush 99) 2 14 := ⟨by decide +kernel, rfl⟩
theorem qX0_addTreads_14 : Dq cX0_addTreads 14 (.aload_n 0) 1 15 := ⟨by decide +kernel, rfl⟩
theorem qX0_addTreads_15 : Dq cX0_addTreads 15 (.getfield 15) 3 18 := ⟨by decide +kernel, rfl⟩
theorem qX0_addTreads_18 : Dq cX0_addTreads 18 (.iload_n 1) 1 19 := ⟨by decide +kernel, rfl⟩
theorem qX0_addTreads_19 : Dq cX0_addTreads 19 (.iaload) 1 20 := ⟨by decide +kernel, rfl⟩
theorem qX0_addTreads_20 : Dq cX0_addTreads 20 (.iload_n 2) 1 21 := ⟨by decide +kernel, rfl⟩
theorem qX0_addTreads_21 : Dq cX0_addTreads 21 (.iadd) 1 22 := ⟨by decide +kernel, rfl⟩
theorem qX0_addTreads_22 : Dq cX0_addTreads 22 (.invokestatic 42) 3 25 := ⟨by decide +kernel, rfl⟩
theorem qX0_addTreads_25 : Dq cX0_addTreads 25 (.iastore) 1 26 := ⟨by decide +kernel, rfl⟩
theorem qX0_addTreads_26 : Dq cX0_addTreads 26 (.return_) 1 27 := ⟨by decide +kernel, rfl⟩
set_option maxRecDepth 100000 in
set_option maxHeartbeats 4000000 in
theorem c_addTreads {G : Glb} {h : AHp} (hs : ShC h) {B : Nat} (hB : isB B) {i : Int32} (hp : isC i) (v : Int32) : CP G m_X0_addTreads 3 0 0 [.ref B, .int i, .int v] h (fun r h' => r = none ∧ stI h (B + 2) (tn i) (mnI 99 (hpI h (B + 2) (tn i) + v)) = h') := by
  suffices key : ∀ P : Option Value → AHp → Prop, (∀ r h', (r = none ∧ stI h (B + 2) (tn i) (mnI 99 (hpI h (B + 2) (tn i) + v)) = h') → P r h') → CP G m_X0_addTreads 3 0 0 [.ref B, .int i, .int v] h P from key _ (fun _ _ z => z)
  intro P hP
  refine CP.of (by decide +kernel) (Nat.le_of_ble_eq_true rfl) fun X hX hR hnm => ?_
  show V X G 3 0 0 _ 0 [some (.ref B), some (.int i), some (.int v)] [] h
  refine v_iload_n hX rfl qX0_addTreads_0 ?_
  refine v_callNq hX hR k_X0_37 (c_isCell _) rfl (Nat.le_of_ble_eq_true rfl) rfl (Nat.le_of_ble_eq_true rfl) ⟨Nat.le_of_ble_eq_true rfl, Nat.le_of_ble_eq_true rfl⟩ qX0_addTreads_1 ?_
  rintro _ _ ⟨rfl, rfl⟩
  first | refine v_if_eqB hX 26 qX0_addTreads_4 rfl (fun q4 => ?_) (fun q4 => ?_) | refine v_if_eq hX 26 qX0_addTreads_4 rfl (fun q4 => ?_) (fun q4 => ?_)
  · exact absurd hp (by assumption)
  · skip
    refine v_aload_n hX rfl qX0_addTreads_7 ?_
    refine v_getR hX g_X0_15 (hs.bk hB) (hs.bt hB) qX0_addTreads_8 ?_
    refine v_iload_n hX rfl qX0_addTreads_11 ?_
    refine v_bipush hX lb_99 qX0_addTreads_12 ?_
    refine v_aload_n hX rfl qX0_addTreads_14 ?_
    refine v_getR hX g_X0_15 (hs.bk hB) (hs.bt hB) qX0_addTreads_15 ?_
    refine v_iload_n hX rfl qX0_addTreads_18 ?_
    refine v_ialdJ hX (hs.btk hB) (hs.btl hB) (by exact hp.ix) qX0_addTreads_19 ?_
    refine v_iload_n hX rfl qX0_addTreads_20 ?_
    refine v_iadd hX qX0_addTreads_21 ?_
    refine v_min hX hR (Nat.le_of_ble_eq_true rfl) k_X0_42 (Nat.le_of_ble_eq_true rfl) ⟨Nat.le_of_ble_eq_true rfl, Nat.le_of_ble_eq_true rfl⟩ qX0_addTreads_22 ?_
    refine v_iastJ hX (hs.btk hB) (hs.btl hB) (by exact hp.ix) qX0_addTreads_25 ?_
    refine v_return hX qX0_addTreads_26 (hP _ _ ?_)
    exact ⟨rfl, rfl⟩
theorem qX0_thinOdds_0 : Dq cX0_thinOdds 0 (.iload_n 1) 1 1 := ⟨by decide +kernel, rfl⟩
theorem qX0_thinOdds_1 : Dq cX0_thinOdds 1 (.invokestatic 37) 3 4 := ⟨by decide +kernel, rfl⟩
theorem qX0_thinOdds_4 : Dq cX0_thinOdds 4 (.ifCond .eq 23) 3 7 := ⟨by decide +kernel, rfl⟩
theorem qX0_thinOdds_7 : Dq cX0_thinOdds 7 (.aload_n 0) 1 8 := ⟨by decide +kernel, rfl⟩
theorem qX0_thinOdds_8 : Dq cX0_thinOdds 8 (.getfield 9) 3 11 := ⟨by decide +kernel, rfl⟩
theorem qX0_thinOdds_11 : Dq cX0_thinOdds 11 (.iload_n 1) 1 12 := ⟨by decide +kernel, rfl⟩
theorem qX0_thinOdds_12 : Dq cX0_thinOdds 12 (.aload_n 0) 1 13 := ⟨by decide +kernel, rfl⟩
theorem qX0_thinOdds_13 : Dq cX0_thinOdds 13 (.getfield 9) 3 16 := ⟨by decide +kernel, rfl⟩
theorem qX0_thinOdds_16 : Dq cX0_thinOdds 16 (.iload_n 1) 1 17 := ⟨by decide +kernel, rfl⟩
theorem qX0_thinOdds_17 : Dq cX0_thinOdds 17 (.iaload) 1 18 := ⟨by decide +kernel, rfl⟩
theorem qX0_thinOdds_18 : Dq cX0_thinOdds 18 (.bipush 100) 2 20 := ⟨by decide +kernel, rfl⟩
theorem qX0_thinOdds_20 : Dq cX0_thinOdds 20 (.iload_n 2) 1 21 := ⟨by decide +kernel, rfl⟩
theorem qX0_thinOdds_21 : Dq cX0_thinOdds 21 (.isub) 1 22 := ⟨by decide +kernel, rfl⟩
theorem qX0_thinOdds_22 : Dq cX0_thinOdds 22 (.imul) 1 23 := ⟨by decide +kernel, rfl⟩
theorem qX0_thinOdds_23 : Dq cX0_thinOdds 23 (.bipush 100) 2 25 := ⟨by decide +kernel, rfl⟩
theorem qX0_thinOdds_25 : Dq cX0_thinOdds 25 (.idiv) 1 26 := ⟨by decide +kernel, rfl⟩
theorem qX0_thinOdds_26 : Dq cX0_thinOdds 26 (.iastore) 1 27 := ⟨by decide +kernel, rfl⟩
theorem qX0_thinOdds_27 : Dq cX0_thinOdds 27 (.return_) 1 28 := ⟨by decide +kernel, rfl⟩
set_option maxRecDepth 100000 in
set_option maxHeartbeats 4000000 in
theorem c_thinOdds {G : Glb} {h : AHp} (hs : ShC h) {B : Nat} (hB : isB B) {i : Int32} (hp : isC i) (v : Int32) : CP G m_X0_thinOdds 3 0 0 [.ref B, .int i, .int v] h (fun r h' => r = none ∧ stI h (B + 1) (tn i) (hpI h (B + 1) (tn i) * (100 - v) / 100) = h') := by
  suffices key : ∀ P : Option Value → AHp → Prop, (∀ r h', (r = none ∧ stI h (B + 1) (tn i) (hpI h (B + 1) (tn i) * (100 - v) / 100) = h') → P r h') → CP G m_X0_thinOdds 3 0 0 [.ref B, .int i, .int v] h P from key _ (fun _ _ z => z)
  intro P hP
  refine CP.of (by decide +kernel) (Nat.le_of_ble_eq_true rfl) fun X hX hR hnm => ?_
  show V X G 3 0 0 _ 0 [some (.ref B), some (.int i), some (.int v)] [] h
  refine v_iload_n hX rfl qX0_thinOdds_0 ?_
  refine v_callNq hX hR k_X0_37 (c_isCell _) rfl (Nat.le_of_ble_eq_true rfl) rfl (Nat.le_of_ble_eq_true rfl) ⟨Nat.le_of_ble_eq_true rfl, Nat.le_of_ble_eq_true rfl⟩ qX0_thinOdds_1 ?_
  rintro _ _ ⟨rfl, rfl⟩
  first | refine v_if_eqB hX 27 qX0_thinOdds_4 rfl (fun q4 => ?_) (fun q4 => ?_) | refine v_if_eq hX 27 qX0_thinOdds_4 rfl (fun q4 => ?_) (fun q4 => ?_)
  · exact absurd hp (by assumption)
  · skip
    refine v_aload_n hX rfl qX0_thinOdds_7 ?_
    refine v_getR hX g_X0_9 (hs.bk hB) (hs.bo hB) qX0_thinOdds_8 ?_
    refine v_iload_n hX rfl qX0_thinOdds_11 ?_
    refine v_aload_n hX rfl qX0_thinOdds_12 ?_
    refine v_getR hX g_X0_9 (hs.bk hB) (hs.bo hB) qX0_thinOdds_13 ?_
    refine v_iload_n hX rfl qX0_thinOdds_16 ?_
    refine v_ialdJ hX (hs.bok hB) (hs.bol hB) (by exact hp.ix) qX0_thinOdds_17 ?_
    refine v_bipush hX lb_100 qX0_thinOdds_18 ?_
    refine v_iload_n hX rfl qX0_thinOdds_20 ?_
    refine v_isub hX qX0_thinOdds_21 ?_
    refine v_imul hX qX0_thinOdds_22 ?_
    refine v_bipush hX lb_100 qX0_thinOdds_23 ?_
    refine v_idiv hX (by decide) qX0_thinOdds_25 ?_
    refine v_iastJ hX (hs.bok hB) (hs.bol hB) (by exact hp.ix) qX0_thinOdds_26 ?_
    refine v_return hX qX0_thinOdds_27 (hP _ _ ?_)
    exact ⟨rfl, rfl⟩
def rmI (x y : Int32) : Int32 := x - x / y * y
def psH (h : AHp) (B : Nat) (v : Int32) : Int32 := rmI (hpI h B 3 + (hpI h B 4 + v) / 60) 24
def psM (h : AHp) (B : Nat) (v : Int32) : Int32 := rmI (hpI h B 4 + v) 60
theorem qX0_pass_0 : Dq cX0_pass 0 (.aload_n 0) 1 1 := ⟨by decide +kernel, rfl⟩
theorem qX0_pass_1 : Dq cX0_pass 1 (.getfield 31) 3 4 := ⟨by decide +kernel, rfl⟩
theorem qX0_pass_4 : Dq cX0_pass 4 (.iload_n 1) 1 5 := ⟨by decide +kernel, rfl⟩
theorem qX0_pass_5 : Dq cX0_pass 5 (.iadd) 1 6 := ⟨by decide +kernel, rfl⟩
theorem qX0_pass_6 : Dq cX0_pass 6 (.istore_n 2) 1 7 := ⟨by decide +kernel, rfl⟩
theorem qX0_pass_7 : Dq cX0_pass 7 (.aload_n 0) 1 8 := ⟨by decide +kernel, rfl⟩
theorem qX0_pass_8 : Dq cX0_pass 8 (.aload_n 0) 1 9 := ⟨by decide +kernel, rfl⟩
theorem qX0_pass_9 : Dq cX0_pass 9 (.getfield 18) 3 12 := ⟨by decide +kernel, rfl⟩
theorem qX0_pass_12 : Dq cX0_pass 12 (.iload_n 2) 1 13 := ⟨by decide +kernel, rfl⟩
theorem qX0_pass_13 : Dq cX0_pass 13 (.bipush 60) 2 15 := ⟨by decide +kernel, rfl⟩
theorem qX0_pass_15 : Dq cX0_pass 15 (.idiv) 1 16 := ⟨by decide +kernel, rfl⟩
theorem qX0_pass_16 : Dq cX0_pass 16 (.iadd) 1 17 := ⟨by decide +kernel, rfl⟩
theorem qX0_pass_17 : Dq cX0_pass 17 (.bipush 24) 2 19 := ⟨by decide +kernel, rfl⟩
theorem qX0_pass_19 : Dq cX0_pass 19 (.irem) 1 20 := ⟨by decide +kernel, rfl⟩
theorem qX0_pass_20 : Dq cX0_pass 20 (.putfield 18) 3 23 := ⟨by decide +kernel, rfl⟩
theorem qX0_pass_23 : Dq cX0_pass 23 (.aload_n 0) 1 24 := ⟨by decide +kernel, rfl⟩
theorem qX0_pass_24 : Dq cX0_pass 24 (.iload_n 2) 1 25 := ⟨by decide +kernel, rfl⟩
theorem qX0_pass_25 : Dq cX0_pass 25 (.bipush 60) 2 27 := ⟨by decide +kernel, rfl⟩
theorem qX0_pass_27 : Dq cX0_pass 27 (.irem) 1 28 := ⟨by decide +kernel, rfl⟩
theorem qX0_pass_28 : Dq cX0_pass 28 (.putfield 31) 3 31 := ⟨by decide +kernel, rfl⟩
theorem qX0_pass_31 : Dq cX0_pass 31 (.return_) 1 32 := ⟨by decide +kernel, rfl⟩
set_option maxRecDepth 100000 in
set_option maxHeartbeats 4000000 in
theorem c_pass {G : Glb} {h : AHp} (hs : ShC h) {B : Nat} (hB : isB B) (v : Int32) : CP G m_X0_pass 1 0 0 [.ref B, .int v] h (fun r h' => r = none ∧ stI (stI h B 3 (psH h B v)) B 4 (psM h B v) = h') := by
  suffices key : ∀ P : Option Value → AHp → Prop, (∀ r h', (r = none ∧ stI (stI h B 3 (psH h B v)) B 4 (psM h B v) = h') → P r h') → CP G m_X0_pass 1 0 0 [.ref B, .int v] h P from key _ (fun _ _ z => z)
  intro P hP
  refine CP.of (by decide +kernel) (Nat.le_of_ble_eq_true rfl) fun X hX hR hnm => ?_
  show V X G 3 0 0 _ 0 [some (.ref B), some (.int v), none] [] h
  refine v_aload_n hX rfl qX0_pass_0 ?_
  refine v_getI hX g_X0_31 (Or.inl rfl) (hs.bk hB) qX0_pass_1 ?_
  refine v_iload_n hX rfl qX0_pass_4 ?_
  refine v_iadd hX qX0_pass_5 ?_
  refine v_istore_n hX (Nat.le_of_ble_eq_true rfl) rfl (ls' := [some _, some _, some _]) rfl qX0_pass_6 ?_
  refine v_aload_n hX rfl qX0_pass_7 ?_
  refine v_aload_n hX rfl qX0_pass_8 ?_
  refine v_getI hX g_X0_18 (Or.inl rfl) (hs.bk hB) qX0_pass_9 ?_
  refine v_iload_n hX rfl qX0_pass_12 ?_
  refine v_bipush hX lb_60 qX0_pass_13 ?_
  refine v_idiv hX (by decide) qX0_pass_15 ?_
  refine v_iadd hX qX0_pass_16 ?_
  refine v_bipush hX lb_24 qX0_pass_17 ?_
  refine v_irem hX (by decide) qX0_pass_19 ?_
  refine v_putI hX p_X0_18 (hs.bk hB) (Or.inl rfl) qX0_pass_20 ?_
  refine v_aload_n hX rfl qX0_pass_23 ?_
  refine v_iload_n hX rfl qX0_pass_24 ?_
  refine v_bipush hX lb_60 qX0_pass_25 ?_
  refine v_irem hX (by decide) qX0_pass_27 ?_
  refine v_putI hX p_X0_31 (hs.bk hB) (Or.inl rfl) qX0_pass_28 ?_
  refine v_return hX qX0_pass_31 (hP _ _ ?_)
  exact ⟨rfl, rfl⟩
theorem qX0_oddsOnCells_0 : Dq cX0_oddsOnCells 0 (.iconst 0) 1 1 := ⟨by decide +kernel, rfl⟩
theorem qX0_oddsOnCells_1 : Dq cX0_oddsOnCells 1 (.istore_n 1) 1 2 := ⟨by decide +kernel, rfl⟩
theorem qX0_oddsOnCells_2 : Dq cX0_oddsOnCells 2 (.iconst 0) 1 3 := ⟨by decide +kernel, rfl⟩
theorem qX0_oddsOnCells_3 : Dq cX0_oddsOnCells 3 (.istore_n 2) 1 4 := ⟨by decide +kernel, rfl⟩
theorem qX0_oddsOnCells_4 : Dq cX0_oddsOnCells 4 (.iload_n 2) 1 5 := ⟨by decide +kernel, rfl⟩
theorem qX0_oddsOnCells_5 : Dq cX0_oddsOnCells 5 (.bipush 48) 2 7 := ⟨by decide +kernel, rfl⟩
theorem qX0_oddsOnCells_7 : Dq cX0_oddsOnCells 7 (.if_icmp .ge 18) 3 10 := ⟨by decide +kernel, rfl⟩
theorem qX0_oddsOnCells_10 : Dq cX0_oddsOnCells 10 (.iload_n 1) 1 11 := ⟨by decide +kernel, rfl⟩
theorem qX0_oddsOnCells_11 : Dq cX0_oddsOnCells 11 (.aload_n 0) 1 12 := ⟨by decide +kernel, rfl⟩
theorem qX0_oddsOnCells_12 : Dq cX0_oddsOnCells 12 (.getfield 9) 3 15 := ⟨by decide +kernel, rfl⟩
theorem qX0_oddsOnCells_15 : Dq cX0_oddsOnCells 15 (.iload_n 2) 1 16 := ⟨by decide +kernel, rfl⟩
theorem qX0_oddsOnCells_16 : Dq cX0_oddsOnCells 16 (.iaload) 1 17 := ⟨by decide +kernel, rfl⟩
theorem qX0_oddsOnCells_17 : Dq cX0_oddsOnCells 17 (.iadd) 1 18 := ⟨by decide +kernel, rfl⟩
theorem qX0_oddsOnCells_18 : Dq cX0_oddsOnCells 18 (.istore_n 1) 1 19 := ⟨by decide +kernel, rfl⟩
theorem qX0_oddsOnCells_19 : Dq cX0_oddsOnCells 19 (.iinc 2 1) 3 22 := ⟨by decide +kernel, rfl⟩
theorem qX0_oddsOnCells_22 : Dq cX0_oddsOnCells 22 (.goto (-18)) 3 25 := ⟨by decide +kernel, rfl⟩
theorem qX0_oddsOnCells_25 : Dq cX0_oddsOnCells 25 (.iload_n 1) 1 26 := ⟨by decide +kernel, rfl⟩
theorem qX0_oddsOnCells_26 : Dq cX0_oddsOnCells 26 (.ireturn) 1 27 := ⟨by decide +kernel, rfl⟩
set_option maxRecDepth 100000 in
set_option maxHeartbeats 4000000 in
theorem c_oddsOnCells {G : Glb} {h : AHp} (hs : ShC h) {B : Nat} (hB : isB B)  : CP G m_X0_oddsOnCells 1 0 0 [.ref B] h (fun r h' => r = some (.int (sumN (hpI h (B + 1)) 48)) ∧ h = h') := by
  suffices key : ∀ P : Option Value → AHp → Prop, (∀ r h', (r = some (.int (sumN (hpI h (B + 1)) 48)) ∧ h = h') → P r h') → CP G m_X0_oddsOnCells 1 0 0 [.ref B] h P from key _ (fun _ _ z => z)
  intro P hP
  refine CP.of (by decide +kernel) (Nat.le_of_ble_eq_true rfl) fun X hX hR hnm => ?_
  show V X G 3 0 0 _ 0 [some (.ref B), none, none] [] h
  refine v_iconst hX li_0 qX0_oddsOnCells_0 ?_
  refine v_istore_n hX (Nat.le_of_ble_eq_true rfl) rfl (ls' := [some _, some _, none]) rfl qX0_oddsOnCells_1 ?_
  refine v_iconst hX li_0 qX0_oddsOnCells_2 ?_
  refine v_istore_n hX (Nat.le_of_ble_eq_true rfl) rfl (ls' := [some _, some _, some _]) rfl qX0_oddsOnCells_3 ?_
  have L4 : ∀ (m : Nat) (i : Nat), 48 - i = m → (i ≤ 48) → V X G 3 0 0 (QM X G P 0 0) 4 [some (.ref B), some (.int (sumN (hpI h (B + 1)) i)), some (.int (nI i))] [] h := by
    intro m
    induction m using Nat.strongRecOn with
    | _ m ih =>
    intro i hm hi
    refine v_iload_n hX rfl qX0_oddsOnCells_4 ?_
    refine v_bipush hX lb_48 qX0_oddsOnCells_5 ?_
    refine v_icmp_geS hX 25 qX0_oddsOnCells_7 rfl (fun q7 => ?_) (fun q7 => ?_)
    · have e := geN (N := 48) rfl hi q7; subst e
      refine v_iload_n hX rfl qX0_oddsOnCells_25 ?_
      refine v_ireturn hX qX0_oddsOnCells_26 (hP _ _ ?_)
      exact ⟨rfl, rfl⟩
    · have hl := ltN (N := 48) rfl hi q7
      refine v_iload_n hX rfl qX0_oddsOnCells_10 ?_
      refine v_aload_n hX rfl qX0_oddsOnCells_11 ?_
      refine v_getR hX g_X0_9 (hs.bk hB) (hs.bo hB) qX0_oddsOnCells_12 ?_
      refine v_iload_n hX rfl qX0_oddsOnCells_15 ?_
      refine v_ialdJ hX (hs.bok hB) (hs.bol hB) (by first | exact isC.ix (by assumption) | exact ix_n (by omega) rfl) qX0_oddsOnCells_16 ?_
      refine v_iadd hX qX0_oddsOnCells_17 ?_
      refine v_istore_n hX (Nat.le_of_ble_eq_true rfl) rfl (ls' := [some _, some _, some _]) rfl qX0_oddsOnCells_18 ?_
      refine v_iinc hX rfl (by first | exact ii_nI _ | exact ii_1 _) (Nat.le_of_ble_eq_true rfl) rfl (ls' := [some _, some _, some _]) rfl qX0_oddsOnCells_19 ?_
      refine v_goto hX 4 qX0_oddsOnCells_22 rfl ?_
      exact ih _ (by omega) (i + 1) rfl (by omega)
  exact L4 _ 0 rfl (by omega)
theorem qX0_allTreads_0 : Dq cX0_allTreads 0 (.iconst 0) 1 1 := ⟨by decide +kernel, rfl⟩
theorem qX0_allTreads_1 : Dq cX0_allTreads 1 (.istore_n 1) 1 2 := ⟨by decide +kernel, rfl⟩
theorem qX0_allTreads_2 : Dq cX0_allTreads 2 (.iconst 0) 1 3 := ⟨by decide +kernel, rfl⟩
theorem qX0_allTreads_3 : Dq cX0_allTreads 3 (.istore_n 2) 1 4 := ⟨by decide +kernel, rfl⟩
theorem qX0_allTreads_4 : Dq cX0_allTreads 4 (.iload_n 2) 1 5 := ⟨by decide +kernel, rfl⟩
theorem qX0_allTreads_5 : Dq cX0_allTreads 5 (.bipush 48) 2 7 := ⟨by decide +kernel, rfl⟩
theorem qX0_allTreads_7 : Dq cX0_allTreads 7 (.if_icmp .ge 18) 3 10 := ⟨by decide +kernel, rfl⟩
theorem qX0_allTreads_10 : Dq cX0_allTreads 10 (.iload_n 1) 1 11 := ⟨by decide +kernel, rfl⟩
theorem qX0_allTreads_11 : Dq cX0_allTreads 11 (.aload_n 0) 1 12 := ⟨by decide +kernel, rfl⟩
theorem qX0_allTreads_12 : Dq cX0_allTreads 12 (.getfield 15) 3 15 := ⟨by decide +kernel, rfl⟩
theorem qX0_allTreads_15 : Dq cX0_allTreads 15 (.iload_n 2) 1 16 := ⟨by decide +kernel, rfl⟩
theorem qX0_allTreads_16 : Dq cX0_allTreads 16 (.iaload) 1 17 := ⟨by decide +kernel, rfl⟩
theorem qX0_allTreads_17 : Dq cX0_allTreads 17 (.iadd) 1 18 := ⟨by decide +kernel, rfl⟩
theorem qX0_allTreads_18 : Dq cX0_allTreads 18 (.istore_n 1) 1 19 := ⟨by decide +kernel, rfl⟩
theorem qX0_allTreads_19 : Dq cX0_allTreads 19 (.iinc 2 1) 3 22 := ⟨by decide +kernel, rfl⟩
theorem qX0_allTreads_22 : Dq cX0_allTreads 22 (.goto (-18)) 3 25 := ⟨by decide +kernel, rfl⟩
theorem qX0_allTreads_25 : Dq cX0_allTreads 25 (.iload_n 1) 1 26 := ⟨by decide +kernel, rfl⟩
theorem qX0_allTreads_26 : Dq cX0_allTreads 26 (.ireturn) 1 27 := ⟨by decide +kernel, rfl⟩
set_option maxRecDepth 100000 in
set_option maxHeartbeats 4000000 in
theorem c_allTreads {G : Glb} {h : AHp} (hs : ShC h) {B : Nat} (hB : isB B)  : CP G m_X0_allTreads 1 0 0 [.ref B] h (fun r h' => r = some (.int (sumN (hpI h (B + 2)) 48)) ∧ h = h') := by
  suffices key : ∀ P : Option Value → AHp → Prop, (∀ r h', (r = some (.int (sumN (hpI h (B + 2)) 48)) ∧ h = h') → P r h') → CP G m_X0_allTreads 1 0 0 [.ref B] h P from key _ (fun _ _ z => z)
  intro P hP
  refine CP.of (by decide +kernel) (Nat.le_of_ble_eq_true rfl) fun X hX hR hnm => ?_
  show V X G 3 0 0 _ 0 [some (.ref B), none, none] [] h
  refine v_iconst hX li_0 qX0_allTreads_0 ?_
  refine v_istore_n hX (Nat.le_of_ble_eq_true rfl) rfl (ls' := [some _, some _, none]) rfl qX0_allTreads_1 ?_
  refine v_iconst hX li_0 qX0_allTreads_2 ?_
  refine v_istore_n hX (Nat.le_of_ble_eq_true rfl) rfl (ls' := [some _, some _, some _]) rfl qX0_allTreads_3 ?_
  have L4 : ∀ (m : Nat) (i : Nat), 48 - i = m → (i ≤ 48) → V X G 3 0 0 (QM X G P 0 0) 4 [some (.ref B), some (.int (sumN (hpI h (B + 2)) i)), some (.int (nI i))] [] h := by
    intro m
    induction m using Nat.strongRecOn with
    | _ m ih =>
    intro i hm hi
    refine v_iload_n hX rfl qX0_allTreads_4 ?_
    refine v_bipush hX lb_48 qX0_allTreads_5 ?_
    refine v_icmp_geS hX 25 qX0_allTreads_7 rfl (fun q7 => ?_) (fun q7 => ?_)
    · have e := geN (N := 48) rfl hi q7; subst e
      refine v_iload_n hX rfl qX0_allTreads_25 ?_
      refine v_ireturn hX qX0_allTreads_26 (hP _ _ ?_)
      exact ⟨rfl, rfl⟩
    · have hl := ltN (N := 48) rfl hi q7
      refine v_iload_n hX rfl qX0_allTreads_10 ?_
      refine v_aload_n hX rfl qX0_allTreads_11 ?_
      refine v_getR hX g_X0_15 (hs.bk hB) (hs.bt hB) qX0_allTreads_12 ?_
      refine v_iload_n hX rfl qX0_allTreads_15 ?_
      refine v_ialdJ hX (hs.btk hB) (hs.btl hB) (by first | exact isC.ix (by assumption) | exact ix_n (by omega) rfl) qX0_allTreads_16 ?_
      refine v_iadd hX qX0_allTreads_17 ?_
      refine v_istore_n hX (Nat.le_of_ble_eq_true rfl) rfl (ls' := [some _, some _, some _]) rfl qX0_allTreads_18 ?_
      refine v_iinc hX rfl (by first | exact ii_nI _ | exact ii_1 _) (Nat.le_of_ble_eq_true rfl) rfl (ls' := [some _, some _, some _]) rfl qX0_allTreads_19 ?_
      refine v_goto hX 4 qX0_allTreads_22 rfl ?_
      exact ih _ (by omega) (i + 1) rfl (by omega)
  exact L4 _ 0 rfl (by omega)
theorem qX0_allOdds_0 : Dq cX0_allOdds 0 (.aload_n 0) 1 1 := ⟨by decide +kernel, rfl⟩
theorem qX0_allOdds_1 : Dq cX0_allOdds 1 (.invokevirtual 48) 3 4 := ⟨by decide +kernel, rfl⟩
theorem qX0_allOdds_4 : Dq cX0_allOdds 4 (.aload_n 0) 1 5 := ⟨by decide +kernel, rfl⟩
theorem qX0_allOdds_5 : Dq cX0_allOdds 5 (.getfield 28) 3 8 := ⟨by decide +kernel, rfl⟩
theorem qX0_allOdds_8 : Dq cX0_allOdds 8 (.iadd) 1 9 := ⟨by decide +kernel, rfl⟩
theorem qX0_allOdds_9 : Dq cX0_allOdds 9 (.ireturn) 1 10 := ⟨by decide +kernel, rfl⟩
set_option maxRecDepth 100000 in
set_option maxHeartbeats 4000000 in
theorem c_allOdds {G : Glb} {h : AHp} (hs : ShC h) {B : Nat} (hB : isB B)  : CP G m_X0_allOdds 2 0 0 [.ref B] h (fun r h' => r = some (.int (sumN (hpI h (B + 1)) 48 + hpI h B 2)) ∧ h = h') := by
  suffices key : ∀ P : Option Value → AHp → Prop, (∀ r h', (r = some (.int (sumN (hpI h (B + 1)) 48 + hpI h B 2)) ∧ h = h') → P r h') → CP G m_X0_allOdds 2 0 0 [.ref B] h P from key _ (fun _ _ z => z)
  intro P hP
  refine CP.of (by decide +kernel) (Nat.le_of_ble_eq_true rfl) fun X hX hR hnm => ?_
  show V X G 1 0 0 _ 0 [some (.ref B)] [] h
  refine v_aload_n hX rfl qX0_allOdds_0 ?_
  refine v_callVq hX hR k_X0_48 (hs.bk hB) (c_oddsOnCells hs hB) rfl (Nat.le_of_ble_eq_true rfl) rfl (Nat.le_of_ble_eq_true rfl) ⟨Nat.le_of_ble_eq_true rfl, Nat.le_of_ble_eq_true rfl⟩ qX0_allOdds_1 ?_
  rintro _ _ ⟨rfl, rfl⟩
  refine v_aload_n hX rfl qX0_allOdds_4 ?_
  refine v_getI hX g_X0_28 (Or.inl rfl) (hs.bk hB) qX0_allOdds_5 ?_
  refine v_iadd hX qX0_allOdds_8 ?_
  refine v_ireturn hX qX0_allOdds_9 (hP _ _ ?_)
  exact ⟨rfl, rfl⟩
/-- the first place of most, and how much lies there -/
def mst (f : Nat → Int32) : Nat → Int32 × Int32
  | 0 => (-1, 0)
  | n + 1 => if (mst f n).2 < f n then (nI n, f n) else mst f n
theorem qX0_cellOfMostOdds_0 : Dq cX0_cellOfMostOdds 0 (.iconst (-1)) 1 1 := ⟨by decide +kernel, rfl⟩
theorem qX0_cellOfMostOdds_1 : Dq cX0_cellOfMostOdds 1 (.istore_n 1) 1 2 := ⟨by decide +kernel, rfl⟩
theorem qX0_cellOfMostOdds_2 : Dq cX0_cellOfMostOdds 2 (.iconst 0) 1 3 := ⟨by decide +kernel, rfl⟩
theorem qX0_cellOfMostOdds_3 : Dq cX0_cellOfMostOdds 3 (.istore_n 2) 1 4 := ⟨by decide +kernel, rfl⟩
theorem qX0_cellOfMostOdds_4 : Dq cX0_cellOfMostOdds 4 (.iconst 0) 1 5 := ⟨by decide +kernel, rfl⟩
theorem qX0_cellOfMostOdds_5 : Dq cX0_cellOfMostOdds 5 (.istore_n 3) 1 6 := ⟨by decide +kernel, rfl⟩
theorem qX0_cellOfMostOdds_6 : Dq cX0_cellOfMostOdds 6 (.iload_n 3) 1 7 := ⟨by decide +kernel, rfl⟩
theorem qX0_cellOfMostOdds_7 : Dq cX0_cellOfMostOdds 7 (.bipush 48) 2 9 := ⟨by decide +kernel, rfl⟩
theorem qX0_cellOfMostOdds_9 : Dq cX0_cellOfMostOdds 9 (.if_icmp .ge 28) 3 12 := ⟨by decide +kernel, rfl⟩
theorem qX0_cellOfMostOdds_12 : Dq cX0_cellOfMostOdds 12 (.aload_n 0) 1 13 := ⟨by decide +kernel, rfl⟩
theorem qX0_cellOfMostOdds_13 : Dq cX0_cellOfMostOdds 13 (.getfield 9) 3 16 := ⟨by decide +kernel, rfl⟩
theorem qX0_cellOfMostOdds_16 : Dq cX0_cellOfMostOdds 16 (.iload_n 3) 1 17 := ⟨by decide +kernel, rfl⟩
theorem qX0_cellOfMostOdds_17 : Dq cX0_cellOfMostOdds 17 (.iaload) 1 18 := ⟨by decide +kernel, rfl⟩
theorem qX0_cellOfMostOdds_18 : Dq cX0_cellOfMostOdds 18 (.iload_n 2) 1 19 := ⟨by decide +kernel, rfl⟩
theorem qX0_cellOfMostOdds_19 : Dq cX0_cellOfMostOdds 19 (.if_icmp .le 12) 3 22 := ⟨by decide +kernel, rfl⟩
theorem qX0_cellOfMostOdds_22 : Dq cX0_cellOfMostOdds 22 (.iload_n 3) 1 23 := ⟨by decide +kernel, rfl⟩
theorem qX0_cellOfMostOdds_23 : Dq cX0_cellOfMostOdds 23 (.istore_n 1) 1 24 := ⟨by decide +kernel, rfl⟩
theorem qX0_cellOfMostOdds_24 : Dq cX0_cellOfMostOdds 24 (.aload_n 0) 1 25 := ⟨by decide +kernel, rfl⟩
theorem qX0_cellOfMostOdds_25 : Dq cX0_cellOfMostOdds 25 (.getfield 9) 3 28 := ⟨by decide +kernel, rfl⟩
theorem qX0_cellOfMostOdds_28 : Dq cX0_cellOfMostOdds 28 (.iload_n 3) 1 29 := ⟨by decide +kernel, rfl⟩
theorem qX0_cellOfMostOdds_29 : Dq cX0_cellOfMostOdds 29 (.iaload) 1 30 := ⟨by decide +kernel, rfl⟩
theorem qX0_cellOfMostOdds_30 : Dq cX0_cellOfMostOdds 30 (.istore_n 2) 1 31 := ⟨by decide +kernel, rfl⟩
theorem qX0_cellOfMostOdds_31 : Dq cX0_cellOfMostOdds 31 (.iinc 3 1) 3 34 := ⟨by decide +kernel, rfl⟩
theorem qX0_cellOfMostOdds_34 : Dq cX0_cellOfMostOdds 34 (.goto (-28)) 3 37 := ⟨by decide +kernel, rfl⟩
theorem qX0_cellOfMostOdds_37 : Dq cX0_cellOfMostOdds 37 (.iload_n 1) 1 38 := ⟨by decide +kernel, rfl⟩
theorem qX0_cellOfMostOdds_38 : Dq cX0_cellOfMostOdds 38 (.ireturn) 1 39 := ⟨by decide +kernel, rfl⟩
set_option maxRecDepth 100000 in
set_option maxHeartbeats 4000000 in
theorem c_cellOfMostOdds {G : Glb} {h : AHp} (hs : ShC h) {B : Nat} (hB : isB B)  : CP G m_X0_cellOfMostOdds 1 0 0 [.ref B] h (fun r h' => r = some (.int ((mst (hpI h (B + 1)) 48).1)) ∧ h = h') := by
  suffices key : ∀ P : Option Value → AHp → Prop, (∀ r h', (r = some (.int ((mst (hpI h (B + 1)) 48).1)) ∧ h = h') → P r h') → CP G m_X0_cellOfMostOdds 1 0 0 [.ref B] h P from key _ (fun _ _ z => z)
  intro P hP
  refine CP.of (by decide +kernel) (Nat.le_of_ble_eq_true rfl) fun X hX hR hnm => ?_
  show V X G 4 0 0 _ 0 [some (.ref B), none, none, none] [] h
  refine v_iconst hX li_n1 qX0_cellOfMostOdds_0 ?_
  refine v_istore_n hX (Nat.le_of_ble_eq_true rfl) rfl (ls' := [some _, some _, none, none]) rfl qX0_cellOfMostOdds_1 ?_
  refine v_iconst hX li_0 qX0_cellOfMostOdds_2 ?_
  refine v_istore_n hX (Nat.le_of_ble_eq_true rfl) rfl (ls' := [some _, some _, some _, none]) rfl qX0_cellOfMostOdds_3 ?_
  refine v_iconst hX li_0 qX0_cellOfMostOdds_4 ?_
  refine v_istore_n hX (Nat.le_of_ble_eq_true rfl) rfl (ls' := [some _, some _, some _, some _]) rfl qX0_cellOfMostOdds_5 ?_
  have L6 : ∀ (m : Nat) (i : Nat), 48 - i = m → (i ≤ 48) → V X G 4 0 0 (QM X G P 0 0) 6 [some (.ref B), some (.int (mst (hpI h (B + 1)) i).1), some (.int (mst (hpI h (B + 1)) i).2), some (.int (nI i))] [] h := by
    intro m
    induction m using Nat.strongRecOn with
    | _ m ih =>
    intro i hm hi
    refine v_iload_n hX rfl qX0_cellOfMostOdds_6 ?_
    refine v_bipush hX lb_48 qX0_cellOfMostOdds_7 ?_
    refine v_icmp_geS hX 37 qX0_cellOfMostOdds_9 rfl (fun q9 => ?_) (fun q9 => ?_)
    · have e := geN (N := 48) rfl hi q9; subst e
      refine v_iload_n hX rfl qX0_cellOfMostOdds_37 ?_
      refine v_ireturn hX qX0_cellOfMostOdds_38 (hP _ _ ?_)
      exact ⟨rfl, rfl⟩
    · have hl := ltN (N := 48) rfl hi q9
      refine v_aload_n hX rfl qX0_cellOfMostOdds_12 ?_
      refine v_getR hX g_X0_9 (hs.bk hB) (hs.bo hB) qX0_cellOfMostOdds_13 ?_
      refine v_iload_n hX rfl qX0_cellOfMostOdds_16 ?_
      refine v_ialdJ hX (hs.bok hB) (hs.bol hB) (by first | exact isC.ix (by assumption) | exact ix_n (by omega) rfl) qX0_cellOfMostOdds_17 ?_
      refine v_iload_n hX rfl qX0_cellOfMostOdds_18 ?_
      refine v_icmp_leS hX 31 qX0_cellOfMostOdds_19 rfl (fun q19 => ?_) (fun q19 => ?_)
      · skip
        refine v_iinc hX rfl (by first | exact ii_nI _ | exact ii_1 _) (Nat.le_of_ble_eq_true rfl) rfl (ls' := [some _, some _, some _, some _]) rfl qX0_cellOfMostOdds_31 ?_
        refine v_goto hX 6 qX0_cellOfMostOdds_34 rfl ?_
        first | (have e : mst (hpI h (B + 1)) (i + 1) = (nI i, (hpI h (B + 1)) i) := if_pos (by assumption); have z := ih _ (by omega) (i + 1) rfl (by omega); rw [e] at z; exact z) | (have e : mst (hpI h (B + 1)) (i + 1) = mst (hpI h (B + 1)) i := if_neg (Int32.not_lt.mpr (by assumption)); have z := ih _ (by omega) (i + 1) rfl (by omega); rw [e] at z; exact z)
      · skip
        refine v_iload_n hX rfl qX0_cellOfMostOdds_22 ?_
        refine v_istore_n hX (Nat.le_of_ble_eq_true rfl) rfl (ls' := [some _, some _, some _, some _]) rfl qX0_cellOfMostOdds_23 ?_
        refine v_aload_n hX rfl qX0_cellOfMostOdds_24 ?_
        refine v_getR hX g_X0_9 (hs.bk hB) (hs.bo hB) qX0_cellOfMostOdds_25 ?_
        refine v_iload_n hX rfl qX0_cellOfMostOdds_28 ?_
        refine v_ialdJ hX (hs.bok hB) (hs.bol hB) (by first | exact isC.ix (by assumption) | exact ix_n (by omega) rfl) qX0_cellOfMostOdds_29 ?_
        refine v_istore_n hX (Nat.le_of_ble_eq_true rfl) rfl (ls' := [some _, some _, some _, some _]) rfl qX0_cellOfMostOdds_30 ?_
        refine v_iinc hX rfl (by first | exact ii_nI _ | exact ii_1 _) (Nat.le_of_ble_eq_true rfl) rfl (ls' := [some _, some _, some _, some _]) rfl qX0_cellOfMostOdds_31 ?_
        refine v_goto hX 6 qX0_cellOfMostOdds_34 rfl ?_
        first | (have e : mst (hpI h (B + 1)) (i + 1) = (nI i, (hpI h (B + 1)) i) := if_pos (by assumption); have z := ih _ (by omega) (i + 1) rfl (by omega); rw [e] at z; exact z) | (have e : mst (hpI h (B + 1)) (i + 1) = mst (hpI h (B + 1)) i := if_neg (Int32.not_lt.mpr (by assumption)); have z := ih _ (by omega) (i + 1) rfl (by omega); rw [e] at z; exact z)
  exact L6 _ 0 rfl (by omega)
theorem qX0_cellBehind_0 : Dq cX0_cellBehind 0 (.iconst 0) 1 1 := ⟨by decide +kernel, rfl⟩
theorem qX0_cellBehind_1 : Dq cX0_cellBehind 1 (.istore_n 2) 1 2 := ⟨by decide +kernel, rfl⟩
theorem qX0_cellBehind_2 : Dq cX0_cellBehind 2 (.iconst 0) 1 3 := ⟨by decide +kernel, rfl⟩
theorem qX0_cellBehind_3 : Dq cX0_cellBehind 3 (.istore_n 3) 1 4 := ⟨by decide +kernel, rfl⟩
theorem qX0_cellBehind_4 : Dq cX0_cellBehind 4 (.iload_n 3) 1 5 := ⟨by decide +kernel, rfl⟩
theorem qX0_cellBehind_5 : Dq cX0_cellBehind 5 (.bipush 48) 2 7 := ⟨by decide +kernel, rfl⟩
theorem qX0_cellBehind_7 : Dq cX0_cellBehind 7 (.if_icmp .ge 25) 3 10 := ⟨by decide +kernel, rfl⟩
theorem qX0_cellBehind_10 : Dq cX0_cellBehind 10 (.iload_n 2) 1 11 := ⟨by decide +kernel, rfl⟩
theorem qX0_cellBehind_11 : Dq cX0_cellBehind 11 (.aload_n 0) 1 12 := ⟨by decide +kernel, rfl⟩
theorem qX0_cellBehind_12 : Dq cX0_cellBehind 12 (.getfield 9) 3 15 := ⟨by decide +kernel, rfl⟩
theorem qX0_cellBehind_15 : Dq cX0_cellBehind 15 (.iload_n 3) 1 16 := ⟨by decide +kernel, rfl⟩
theorem qX0_cellBehind_16 : Dq cX0_cellBehind 16 (.iaload) 1 17 := ⟨by decide +kernel, rfl⟩
theorem qX0_cellBehind_17 : Dq cX0_cellBehind 17 (.iadd) 1 18 := ⟨by decide +kernel, rfl⟩
theorem qX0_cellBehind_18 : Dq cX0_cellBehind 18 (.istore_n 2) 1 19 := ⟨by decide +kernel, rfl⟩
theorem qX0_cellBehind_19 : Dq cX0_cellBehind 19 (.iload_n 2) 1 20 := ⟨by decide +kernel, rfl⟩
theorem qX0_cellBehind_20 : Dq cX0_cellBehind 20 (.iload_n 1) 1 21 := ⟨by decide +kernel, rfl⟩
theorem qX0_cellBehind_21 : Dq cX0_cellBehind 21 (.if_icmp .le 5) 3 24 := ⟨by decide +kernel, rfl⟩
theorem qX0_cellBehind_24 : Dq cX0_cellBehind 24 (.iload_n 3) 1 25 := ⟨by decide +kernel, rfl⟩
theorem qX0_cellBehind_25 : Dq cX0_cellBehind 25 (.ireturn) 1 26 := ⟨by decide +kernel, rfl⟩
theorem qX0_cellBehind_26 : Dq cX0_cellBehind 26 (.iinc 3 1) 3 29 := ⟨by decide +kernel, rfl⟩
theorem qX0_cellBehind_29 : Dq cX0_cellBehind 29 (.goto (-25)) 3 32 := ⟨by decide +kernel, rfl⟩
theorem qX0_cellBehind_32 : Dq cX0_cellBehind 32 (.iconst (-1)) 1 33 := ⟨by decide +kernel, rfl⟩
theorem qX0_cellBehind_33 : Dq cX0_cellBehind 33 (.ireturn) 1 34 := ⟨by decide +kernel, rfl⟩
set_option maxRecDepth 100000 in
set_option maxHeartbeats 4000000 in
theorem c_cellBehind {G : Glb} {h : AHp} (hs : ShC h) {B : Nat} (hB : isB B) (t : Int32) : CP G m_X0_cellBehind 1 0 0 [.ref B, .int t] h (fun r h' => r = some (.int (fx (fun k => decide (t < sumN (hpI h (B + 1)) (k + 1))) 48 0)) ∧ h = h') := by
  suffices key : ∀ P : Option Value → AHp → Prop, (∀ r h', (r = some (.int (fx (fun k => decide (t < sumN (hpI h (B + 1)) (k + 1))) 48 0)) ∧ h = h') → P r h') → CP G m_X0_cellBehind 1 0 0 [.ref B, .int t] h P from key _ (fun _ _ z => z)
  intro P hP
  refine CP.of (by decide +kernel) (Nat.le_of_ble_eq_true rfl) fun X hX hR hnm => ?_
  show V X G 4 0 0 _ 0 [some (.ref B), some (.int t), none, none] [] h
  refine v_iconst hX li_0 qX0_cellBehind_0 ?_
  refine v_istore_n hX (Nat.le_of_ble_eq_true rfl) rfl (ls' := [some _, some _, some _, none]) rfl qX0_cellBehind_1 ?_
  refine v_iconst hX li_0 qX0_cellBehind_2 ?_
  refine v_istore_n hX (Nat.le_of_ble_eq_true rfl) rfl (ls' := [some _, some _, some _, some _]) rfl qX0_cellBehind_3 ?_
  have L4 : ∀ (m : Nat) (i : Nat), 48 - i = m → (i ≤ 48) → (∀ j, j < i → sumN (hpI h (B + 1)) (j + 1) ≤ t) → V X G 4 0 0 (QM X G P 0 0) 4 [some (.ref B), some (.int t), some (.int (sumN (hpI h (B + 1)) i)), some (.int (nI i))] [] h := by
    intro m
    induction m using Nat.strongRecOn with
    | _ m ih =>
    intro i hm hi hq
    refine v_iload_n hX rfl qX0_cellBehind_4 ?_
    refine v_bipush hX lb_48 qX0_cellBehind_5 ?_
    refine v_icmp_geS hX 32 qX0_cellBehind_7 rfl (fun q7 => ?_) (fun q7 => ?_)
    · have e := geN (N := 48) rfl hi q7; subst e
      refine v_iconst hX li_n1 qX0_cellBehind_32 ?_
      refine v_ireturn hX qX0_cellBehind_33 (hP _ _ ?_)
      exact ⟨congrArg (fun z => some (Value.int z)) (fx_no 48 0 (fun j _ hj => decide_eq_false (Int32.not_lt.mpr (hq j (by omega))))).symm, rfl⟩
    · have hl := ltN (N := 48) rfl hi q7
      refine v_iload_n hX rfl qX0_cellBehind_10 ?_
      refine v_aload_n hX rfl qX0_cellBehind_11 ?_
      refine v_getR hX g_X0_9 (hs.bk hB) (hs.bo hB) qX0_cellBehind_12 ?_
      refine v_iload_n hX rfl qX0_cellBehind_15 ?_
      refine v_ialdJ hX (hs.bok hB) (hs.bol hB) (by first | exact isC.ix (by assumption) | exact ix_n (by omega) rfl) qX0_cellBehind_16 ?_
      refine v_iadd hX qX0_cellBehind_17 ?_
      refine v_istore_n hX (Nat.le_of_ble_eq_true rfl) rfl (ls' := [some _, some _, some _, some _]) rfl qX0_cellBehind_18 ?_
      refine v_iload_n hX rfl qX0_cellBehind_19 ?_
      refine v_iload_n hX rfl qX0_cellBehind_20 ?_
      refine v_icmp_leS hX 26 qX0_cellBehind_21 rfl (fun q21 => ?_) (fun q21 => ?_)
      · skip
        refine v_iinc hX rfl (by first | exact ii_nI _ | exact ii_1 _) (Nat.le_of_ble_eq_true rfl) rfl (ls' := [some _, some _, some _, some _]) rfl qX0_cellBehind_26 ?_
        refine v_goto hX 4 qX0_cellBehind_29 rfl ?_
        exact ih _ (by omega) (i + 1) rfl (by omega) (fun j hj => by rcases Nat.lt_succ_iff_lt_or_eq.mp hj with z | rfl; exact hq j z; exact q21)
      · skip
        refine v_iload_n hX rfl qX0_cellBehind_24 ?_
        refine v_ireturn hX qX0_cellBehind_25 (hP _ _ ?_)
        exact ⟨congrArg (fun z => some (Value.int z)) (fx_hit (k := i) (decide_eq_true q21) 48 0 (Nat.zero_le _) (by omega) (fun j _ hj => decide_eq_false (Int32.not_lt.mpr (hq j hj)))).symm, rfl⟩
  exact L4 _ 0 rfl (by omega) (fun j hj => absurd hj (Nat.not_lt_zero _))
/-- one beach becomes as another: what is said of the numbers behind it -/
def asBeach (h : AHp) (B D : Nat) (σ : Nat → Nat → Int32) : Prop := (∀ k, k < 48 → σ (B + 1) k = hpI h (D + 1) k) ∧ (∀ k, k < 48 → σ (B + 2) k = hpI h (D + 2) k) ∧ (∀ k, 2 ≤ k → k < 6 → σ B k = hpI h D k) ∧ ∀ a, a ≠ B → a ≠ B + 1 → a ≠ B + 2 → σ a = hpI h a
theorem qX0_become_0 : Dq cX0_become 0 (.aload_n 1) 1 1 := ⟨by decide +kernel, rfl⟩
theorem qX0_become_1 : Dq cX0_become 1 (.getfield 9) 3 4 := ⟨by decide +kernel, rfl⟩
theorem qX0_become_4 : Dq cX0_become 4 (.iconst 0) 1 5 := ⟨by decide +kernel, rfl⟩
theorem qX0_become_5 : Dq cX0_become 5 (.aload_n 0) 1 6 := ⟨by decide +kernel, rfl⟩
theorem qX0_become_6 : Dq cX0_become 6 (.getfield 9) 3 9 := ⟨by decide +kernel, rfl⟩
theorem qX0_become_9 : Dq cX0_become 9 (.iconst 0) 1 10 := ⟨by decide +kernel, rfl⟩
theorem qX0_become_10 : Dq cX0_become 10 (.bipush 48) 2 12 := ⟨by decide +kernel, rfl⟩
theorem qX0_become_12 : Dq cX0_become 12 (.invokestatic 22) 3 15 := ⟨by decide +kernel, rfl⟩
theorem qX0_become_15 : Dq cX0_become 15 (.aload_n 1) 1 16 := ⟨by decide +kernel, rfl⟩
theorem qX0_become_16 : Dq cX0_become 16 (.getfield 15) 3 19 := ⟨by decide +kernel, rfl⟩
theorem qX0_become_19 : Dq cX0_become 19 (.iconst 0) 1 20 := ⟨by decide +kernel, rfl⟩
theorem qX0_become_20 : Dq cX0_become 20 (.aload_n 0) 1 21 := ⟨by decide +kernel, rfl⟩
theorem qX0_become_21 : Dq cX0_become 21 (.getfield 15) 3 24 := ⟨by decide +kernel, rfl⟩
theorem qX0_become_24 : Dq cX0_become 24 (.iconst 0) 1 25 := ⟨by decide +kernel, rfl⟩
theorem qX0_become_25 : Dq cX0_become 25 (.bipush 48) 2 27 := ⟨by decide +kernel, rfl⟩
theorem qX0_become_27 : Dq cX0_become 27 (.invokestatic 22) 3 30 := ⟨by decide +kernel, rfl⟩
theorem qX0_become_30 : Dq cX0_become 30 (.aload_n 0) 1 31 := ⟨by decide +kernel, rfl⟩
theorem qX0_become_31 : Dq cX0_become 31 (.aload_n 1) 1 32 := ⟨by decide +kernel, rfl⟩
theorem qX0_become_32 : Dq cX0_become 32 (.getfield 28) 3 35 := ⟨by decide +kernel, rfl⟩
theorem qX0_become_35 : Dq cX0_become 35 (.putfield 28) 3 38 := ⟨by decide +kernel, rfl⟩
theorem qX0_become_38 : Dq cX0_become 38 (.aload_n 0) 1 39 := ⟨by decide +kernel, rfl⟩
theorem qX0_become_39 : Dq cX0_become 39 (.aload_n 1) 1 40 := ⟨by decide +kernel, rfl⟩
theorem qX0_become_40 : Dq cX0_become 40 (.getfield 18) 3 43 := ⟨by decide +kernel, rfl⟩
theorem qX0_become_43 : Dq cX0_become 43 (.putfield 18) 3 46 := ⟨by decide +kernel, rfl⟩
theorem qX0_become_46 : Dq cX0_become 46 (.aload_n 0) 1 47 := ⟨by decide +kernel, rfl⟩
theorem qX0_become_47 : Dq cX0_become 47 (.aload_n 1) 1 48 := ⟨by decide +kernel, rfl⟩
theorem qX0_become_48 : Dq cX0_become 48 (.getfield 31) 3 51 := ⟨by decide +kernel, rfl⟩
theorem qX0_become_51 : Dq cX0_become 51 (.putfield 31) 3 54 := ⟨by decide +kernel, rfl⟩
theorem qX0_become_54 : Dq cX0_become 54 (.aload_n 0) 1 55 := ⟨by decide +kernel, rfl⟩
theorem qX0_become_55 : Dq cX0_become 55 (.aload_n 1) 1 56 := ⟨by decide +kernel, rfl⟩
theorem qX0_become_56 : Dq cX0_become 56 (.getfield 34) 3 59 := ⟨by decide +kernel, rfl⟩
theorem qX0_become_59 : Dq cX0_become 59 (.putfield 34) 3 62 := ⟨by decide +kernel, rfl⟩
theorem qX0_become_62 : Dq cX0_become 62 (.return_) 1 63 := ⟨by decide +kernel, rfl⟩
set_option maxRecDepth 100000 in
set_option maxHeartbeats 4000000 in
theorem c_become {G : Glb} {h : AHp} (hs : ShC h) {B D : Nat} (hB : isB B) (hD : isB D) (hBD : B ≠ D) : CP G m_X0_become 2 0 0 [.ref B, .ref D] h (fun r h' => r = none ∧ ∃ σ, h' = (σ, h.2) ∧ asBeach h B D σ) := by
  suffices key : ∀ P : Option Value → AHp → Prop, (∀ r h', (r = none ∧ ∃ σ, h' = (σ, h.2) ∧ asBeach h B D σ) → P r h') → CP G m_X0_become 2 0 0 [.ref B, .ref D] h P from key _ (fun _ _ z => z)
  intro P hP
  refine CP.of (by decide +kernel) (Nat.le_of_ble_eq_true rfl) fun X hX hR hnm => ?_
  show V X G 2 0 0 _ 0 [some (.ref B), some (.ref D)] [] h
  refine v_aload_n hX rfl qX0_become_0 ?_
  refine v_getR hX g_X0_9 (hs.bk hD) (hs.bo hD) qX0_become_1 ?_
  refine v_iconst hX li_0 qX0_become_4 ?_
  refine v_aload_n hX rfl qX0_become_5 ?_
  refine v_getR hX g_X0_9 (hs.bk hB) (hs.bo hB) qX0_become_6 ?_
  refine v_iconst hX li_0 qX0_become_9 ?_
  refine v_bipush hX lb_48 qX0_become_10 ?_
  refine v_acopy hX hR (Nat.le_of_ble_eq_true rfl) k_X0_22 (hs.bok hD) (hs.bok hB) (hs.bol hD) (hs.bol hB) ?_ ?_ ?_ ?_ ?_ (Nat.le_of_ble_eq_true rfl) qX0_become_12 ?_
  · decide
  · decide
  · decide
  · exact Nat.le_of_ble_eq_true rfl
  · exact Nat.le_of_ble_eq_true rfl
  refine v_aload_n hX rfl qX0_become_15 ?_
  refine v_getR hX g_X0_15 (hs.bk hD) (hs.bt hD) qX0_become_16 ?_
  refine v_iconst hX li_0 qX0_become_19 ?_
  refine v_aload_n hX rfl qX0_become_20 ?_
  refine v_getR hX g_X0_15 (hs.bk hB) (hs.bt hB) qX0_become_21 ?_
  refine v_iconst hX li_0 qX0_become_24 ?_
  refine v_bipush hX lb_48 qX0_become_25 ?_
  refine v_acopy hX hR (Nat.le_of_ble_eq_true rfl) k_X0_22 (hs.btk hD) (hs.btk hB) (hs.btl hD) (hs.btl hB) ?_ ?_ ?_ ?_ ?_ (Nat.le_of_ble_eq_true rfl) qX0_become_27 ?_
  · decide
  · decide
  · decide
  · exact Nat.le_of_ble_eq_true rfl
  · exact Nat.le_of_ble_eq_true rfl
  refine v_aload_n hX rfl qX0_become_30 ?_
  refine v_aload_n hX rfl qX0_become_31 ?_
  refine v_getI hX g_X0_28 (Or.inl rfl) (hs.bk hD) qX0_become_32 ?_
  refine v_putI hX p_X0_28 (hs.bk hB) (Or.inl rfl) qX0_become_35 ?_
  refine v_aload_n hX rfl qX0_become_38 ?_
  refine v_aload_n hX rfl qX0_become_39 ?_
  refine v_getI hX g_X0_18 (Or.inl rfl) (hs.bk hD) qX0_become_40 ?_
  refine v_putI hX p_X0_18 (hs.bk hB) (Or.inl rfl) qX0_become_43 ?_
  refine v_aload_n hX rfl qX0_become_46 ?_
  refine v_aload_n hX rfl qX0_become_47 ?_
  refine v_getI hX g_X0_31 (Or.inl rfl) (hs.bk hD) qX0_become_48 ?_
  refine v_putI hX p_X0_31 (hs.bk hB) (Or.inl rfl) qX0_become_51 ?_
  refine v_aload_n hX rfl qX0_become_54 ?_
  refine v_aload_n hX rfl qX0_become_55 ?_
  refine v_getI hX g_X0_34 (Or.inl rfl) (hs.bk hD) qX0_become_56 ?_
  refine v_putI hX p_X0_34 (hs.bk hB) (Or.inl rfl) qX0_become_59 ?_
  refine v_return hX qX0_become_62 (hP _ _ ?_)
  refine ⟨rfl, _, rfl, fun k hk => ?_, fun k hk => ?_, fun k hk hk2 => ?_, fun a h1 h2 h3 => ?_⟩
  · show hpI (stI _ _ _ _) _ _ = _
    rcases hB with rfl | rfl | rfl <;> rcases hD with rfl | rfl | rfl <;> first | exact absurd rfl hBD | (simp [hpI_st, hpI_stC]; intro z; exact absurd z (Nat.not_le.mpr hk))
  · show hpI (stI _ _ _ _) _ _ = _
    rcases hB with rfl | rfl | rfl <;> rcases hD with rfl | rfl | rfl <;> first | exact absurd rfl hBD | (simp [hpI_st, hpI_stC]; intro z; exact absurd z (Nat.not_le.mpr hk))
  · show hpI (stI _ _ _ _) _ _ = _
    have hk3 : k = 2 ∨ k = 3 ∨ k = 4 ∨ k = 5 := by omega
    rcases hk3 with rfl | rfl | rfl | rfl <;> rcases hB with rfl | rfl | rfl <;> rcases hD with rfl | rfl | rfl <;> first | exact absurd rfl hBD | simp [hpI_st, hpI_stC]
  · funext k
    show hpI (stI _ _ _ _) _ _ = _
    simp [hpI_st, hpI_stC, h1, h2, h3]
/-- the class of a kind -/
def kcl (k : Nat) : Nat := match k with
  | 0 => 1
  | 1 => 2
  | 2 => 7
  | 3 => 4
  | 4 => 8
  | _ => 3
def fdR (k : Nat) (n d s : Int32) : Int32 := match k with
  | 0 => s - 20 * d
  | 1 => 60 + n - 6 * d
  | 2 => 60 + n - 6 * d + 30
  | 3 => 70 - 2 * d
  | 4 => (60 + n - 6 * d) / 2 + 5 * d
  | _ => 70 - 2 * d - 3 * n
def tkR (k : Nat) (n : Int32) : Int32 := match k with
  | 0 => 2
  | 1 => 6
  | 2 => 6 + n
  | 3 => 3
  | 4 => 12
  | _ => 3 + n
def smR (k : Nat) (n : Int32) : Int32 := match k with
  | 0 => 2
  | 1 => 1
  | 2 => 0
  | 3 => 2
  | 4 => 1
  | _ => 2 + n
theorem qX1_finds_0 : Dq cX1_finds 0 (.iload_n 2) 1 1 := ⟨by decide +kernel, rfl⟩
theorem qX1_finds_1 : Dq cX1_finds 1 (.bipush 20) 2 3 := ⟨by decide +kernel, rfl⟩
theorem qX1_finds_3 : Dq cX1_finds 3 (.iload_n 1) 1 4 := ⟨by decide +kernel, rfl⟩
theorem qX1_finds_4 : Dq cX1_finds 4 (.imul) 1 5 := ⟨by decide +kernel, rfl⟩
theorem qX1_finds_5 : Dq cX1_finds 5 (.isub) 1 6 := ⟨by decide +kernel, rfl⟩
theorem qX1_finds_6 : Dq cX1_finds 6 (.ireturn) 1 7 := ⟨by decide +kernel, rfl⟩
set_option maxRecDepth 100000 in
set_option maxHeartbeats 4000000 in
theorem c_X1_finds_1 {G : Glb} {h : AHp} {a : Nat} (hk : Kd h a 1) (d s : Int32) : CP G m_X1_finds 1 0 0 [.ref a, .int d, .int s] h (fun r h' => r = some (.int (s - 20 * d)) ∧ h = h') := by
  suffices key : ∀ P : Option Value → AHp → Prop, (∀ r h', (r = some (.int (s - 20 * d)) ∧ h = h') → P r h') → CP G m_X1_finds 1 0 0 [.ref a, .int d, .int s] h P from key _ (fun _ _ z => z)
  intro P hP
  refine CP.of (by decide +kernel) (Nat.le_of_ble_eq_true rfl) fun X hX hR hnm => ?_
  show V X G 3 0 0 _ 0 [some (.ref a), some (.int d), some (.int s)] [] h
  refine v_iload_n hX rfl qX1_finds_0 ?_
  refine v_bipush hX lb_20 qX1_finds_1 ?_
  refine v_iload_n hX rfl qX1_finds_3 ?_
  refine v_imul hX qX1_finds_4 ?_
  refine v_isub hX qX1_finds_5 ?_
  refine v_ireturn hX qX1_finds_6 (hP _ _ ?_)
  exact ⟨rfl, rfl⟩
theorem qX2_finds_0 : Dq cX2_finds 0 (.bipush 60) 2 2 := ⟨by decide +kernel, rfl⟩
theorem qX2_finds_2 : Dq cX2_finds 2 (.aload_n 0) 1 3 := ⟨by decide +kernel, rfl⟩
theorem qX2_finds_3 : Dq cX2_finds 3 (.getfield 7) 3 6 := ⟨by decide +kernel, rfl⟩
theorem qX2_finds_6 : Dq cX2_finds 6 (.iadd) 1 7 := ⟨by decide +kernel, rfl⟩
theorem qX2_finds_7 : Dq cX2_finds 7 (.bipush 6) 2 9 := ⟨by decide +kernel, rfl⟩
theorem qX2_finds_9 : Dq cX2_finds 9 (.iload_n 1) 1 10 := ⟨by decide +kernel, rfl⟩
theorem qX2_finds_10 : Dq cX2_finds 10 (.imul) 1 11 := ⟨by decide +kernel, rfl⟩
theorem qX2_finds_11 : Dq cX2_finds 11 (.isub) 1 12 := ⟨by decide +kernel, rfl⟩
theorem qX2_finds_12 : Dq cX2_finds 12 (.ireturn) 1 13 := ⟨by decide +kernel, rfl⟩
set_option maxRecDepth 100000 in
set_option maxHeartbeats 4000000 in
theorem c_X2_finds_2 {G : Glb} {h : AHp} {a : Nat} (hk : Kd h a 2) (d s : Int32) : CP G m_X2_finds 1 0 0 [.ref a, .int d, .int s] h (fun r h' => r = some (.int (60 + hpI h a 0 - 6 * d)) ∧ h = h') := by
  suffices key : ∀ P : Option Value → AHp → Prop, (∀ r h', (r = some (.int (60 + hpI h a 0 - 6 * d)) ∧ h = h') → P r h') → CP G m_X2_finds 1 0 0 [.ref a, .int d, .int s] h P from key _ (fun _ _ z => z)
  intro P hP
  refine CP.of (by decide +kernel) (Nat.le_of_ble_eq_true rfl) fun X hX hR hnm => ?_
  show V X G 3 0 0 _ 0 [some (.ref a), some (.int d), some (.int s)] [] h
  refine v_bipush hX lb_60 qX2_finds_0 ?_
  refine v_aload_n hX rfl qX2_finds_2 ?_
  refine v_getI hX g_X2_7_2 (Or.inl rfl) hk qX2_finds_3 ?_
  refine v_iadd hX qX2_finds_6 ?_
  refine v_bipush hX lb_6 qX2_finds_7 ?_
  refine v_iload_n hX rfl qX2_finds_9 ?_
  refine v_imul hX qX2_finds_10 ?_
  refine v_isub hX qX2_finds_11 ?_
  refine v_ireturn hX qX2_finds_12 (hP _ _ ?_)
  exact ⟨rfl, rfl⟩
set_option maxRecDepth 100000 in
set_option maxHeartbeats 4000000 in
theorem c_X2_finds_7 {G : Glb} {h : AHp} {a : Nat} (hk : Kd h a 7) (d s : Int32) : CP G m_X2_finds 1 0 0 [.ref a, .int d, .int s] h (fun r h' => r = some (.int (60 + hpI h a 0 - 6 * d)) ∧ h = h') := by
  suffices key : ∀ P : Option Value → AHp → Prop, (∀ r h', (r = some (.int (60 + hpI h a 0 - 6 * d)) ∧ h = h') → P r h') → CP G m_X2_finds 1 0 0 [.ref a, .int d, .int s] h P from key _ (fun _ _ z => z)
  intro P hP
  refine CP.of (by decide +kernel) (Nat.le_of_ble_eq_true rfl) fun X hX hR hnm => ?_
  show V X G 3 0 0 _ 0 [some (.ref a), some (.int d), some (.int s)] [] h
  refine v_bipush hX lb_60 qX2_finds_0 ?_
  refine v_aload_n hX rfl qX2_finds_2 ?_
  refine v_getI hX g_X2_7_7 (Or.inl rfl) hk qX2_finds_3 ?_
  refine v_iadd hX qX2_finds_6 ?_
  refine v_bipush hX lb_6 qX2_finds_7 ?_
  refine v_iload_n hX rfl qX2_finds_9 ?_
  refine v_imul hX qX2_finds_10 ?_
  refine v_isub hX qX2_finds_11 ?_
  refine v_ireturn hX qX2_finds_12 (hP _ _ ?_)
  exact ⟨rfl, rfl⟩
set_option maxRecDepth 100000 in
set_option maxHeartbeats 4000000 in
theorem c_X2_finds_8 {G : Glb} {h : AHp} {a : Nat} (hk : Kd h a 8) (d s : Int32) : CP G m_X2_finds 1 0 0 [.ref a, .int d, .int s] h (fun r h' => r = some (.int (60 + hpI h a 0 - 6 * d)) ∧ h = h') := by
  suffices key : ∀ P : Option Value → AHp → Prop, (∀ r h', (r = some (.int (60 + hpI h a 0 - 6 * d)) ∧ h = h') → P r h') → CP G m_X2_finds 1 0 0 [.ref a, .int d, .int s] h P from key _ (fun _ _ z => z)
  intro P hP
  refine CP.of (by decide +kernel) (Nat.le_of_ble_eq_true rfl) fun X hX hR hnm => ?_
  show V X G 3 0 0 _ 0 [some (.ref a), some (.int d), some (.int s)] [] h
  refine v_bipush hX lb_60 qX2_finds_0 ?_
  refine v_aload_n hX rfl qX2_finds_2 ?_
  refine v_getI hX g_X2_7_8 (Or.inl rfl) hk qX2_finds_3 ?_
  refine v_iadd hX qX2_finds_6 ?_
  refine v_bipush hX lb_6 qX2_finds_7 ?_
  refine v_iload_n hX rfl qX2_finds_9 ?_
  refine v_imul hX qX2_finds_10 ?_
  refine v_isub hX qX2_finds_11 ?_
  refine v_ireturn hX qX2_finds_12 (hP _ _ ?_)
  exact ⟨rfl, rfl⟩
theorem qX4_finds_0 : Dq cX4_finds 0 (.bipush 70) 2 2 := ⟨by decide +kernel, rfl⟩
theorem qX4_finds_2 : Dq cX4_finds 2 (.iconst 2) 1 3 := ⟨by decide +kernel, rfl⟩
theorem qX4_finds_3 : Dq cX4_finds 3 (.iload_n 1) 1 4 := ⟨by decide +kernel, rfl⟩
theorem qX4_finds_4 : Dq cX4_finds 4 (.imul) 1 5 := ⟨by decide +kernel, rfl⟩
theorem qX4_finds_5 : Dq cX4_finds 5 (.isub) 1 6 := ⟨by decide +kernel, rfl⟩
theorem qX4_finds_6 : Dq cX4_finds 6 (.ireturn) 1 7 := ⟨by decide +kernel, rfl⟩
set_option maxRecDepth 100000 in
set_option maxHeartbeats 4000000 in
theorem c_X4_finds_4 {G : Glb} {h : AHp} {a : Nat} (hk : Kd h a 4) (d s : Int32) : CP G m_X4_finds 1 0 0 [.ref a, .int d, .int s] h (fun r h' => r = some (.int (70 - 2 * d)) ∧ h = h') := by
  suffices key : ∀ P : Option Value → AHp → Prop, (∀ r h', (r = some (.int (70 - 2 * d)) ∧ h = h') → P r h') → CP G m_X4_finds 1 0 0 [.ref a, .int d, .int s] h P from key _ (fun _ _ z => z)
  intro P hP
  refine CP.of (by decide +kernel) (Nat.le_of_ble_eq_true rfl) fun X hX hR hnm => ?_
  show V X G 3 0 0 _ 0 [some (.ref a), some (.int d), some (.int s)] [] h
  refine v_bipush hX lb_70 qX4_finds_0 ?_
  refine v_iconst hX li_2 qX4_finds_2 ?_
  refine v_iload_n hX rfl qX4_finds_3 ?_
  refine v_imul hX qX4_finds_4 ?_
  refine v_isub hX qX4_finds_5 ?_
  refine v_ireturn hX qX4_finds_6 (hP _ _ ?_)
  exact ⟨rfl, rfl⟩
set_option maxRecDepth 100000 in
set_option maxHeartbeats 4000000 in
theorem c_X4_finds_3 {G : Glb} {h : AHp} {a : Nat} (hk : Kd h a 3) (d s : Int32) : CP G m_X4_finds 1 0 0 [.ref a, .int d, .int s] h (fun r h' => r = some (.int (70 - 2 * d)) ∧ h = h') := by
  suffices key : ∀ P : Option Value → AHp → Prop, (∀ r h', (r = some (.int (70 - 2 * d)) ∧ h = h') → P r h') → CP G m_X4_finds 1 0 0 [.ref a, .int d, .int s] h P from key _ (fun _ _ z => z)
  intro P hP
  refine CP.of (by decide +kernel) (Nat.le_of_ble_eq_true rfl) fun X hX hR hnm => ?_
  show V X G 3 0 0 _ 0 [some (.ref a), some (.int d), some (.int s)] [] h
  refine v_bipush hX lb_70 qX4_finds_0 ?_
  refine v_iconst hX li_2 qX4_finds_2 ?_
  refine v_iload_n hX rfl qX4_finds_3 ?_
  refine v_imul hX qX4_finds_4 ?_
  refine v_isub hX qX4_finds_5 ?_
  refine v_ireturn hX qX4_finds_6 (hP _ _ ?_)
  exact ⟨rfl, rfl⟩
theorem qX7_finds_0 : Dq cX7_finds 0 (.aload_n 0) 1 1 := ⟨by decide +kernel, rfl⟩
theorem qX7_finds_1 : Dq cX7_finds 1 (.iload_n 1) 1 2 := ⟨by decide +kernel, rfl⟩
theorem qX7_finds_2 : Dq cX7_finds 2 (.iload_n 2) 1 3 := ⟨by decide +kernel, rfl⟩
theorem qX7_finds_3 : Dq cX7_finds 3 (.invokespecial 7) 3 6 := ⟨by decide +kernel, rfl⟩
theorem qX7_finds_6 : Dq cX7_finds 6 (.bipush 30) 2 8 := ⟨by decide +kernel, rfl⟩
theorem qX7_finds_8 : Dq cX7_finds 8 (.iadd) 1 9 := ⟨by decide +kernel, rfl⟩
theorem qX7_finds_9 : Dq cX7_finds 9 (.ireturn) 1 10 := ⟨by decide +kernel, rfl⟩
set_option maxRecDepth 100000 in
set_option maxHeartbeats 4000000 in
theorem c_X7_finds_7 {G : Glb} {h : AHp} {a : Nat} (hk : Kd h a 7) (d s : Int32) : CP G m_X7_finds 2 0 0 [.ref a, .int d, .int s] h (fun r h' => r = some (.int (60 + hpI h a 0 - 6 * d + 30)) ∧ h = h') := by
  suffices key : ∀ P : Option Value → AHp → Prop, (∀ r h', (r = some (.int (60 + hpI h a 0 - 6 * d + 30)) ∧ h = h') → P r h') → CP G m_X7_finds 2 0 0 [.ref a, .int d, .int s] h P from key _ (fun _ _ z => z)
  intro P hP
  refine CP.of (by decide +kernel) (Nat.le_of_ble_eq_true rfl) fun X hX hR hnm => ?_
  show V X G 3 0 0 _ 0 [some (.ref a), some (.int d), some (.int s)] [] h
  refine v_aload_n hX rfl qX7_finds_0 ?_
  refine v_iload_n hX rfl qX7_finds_1 ?_
  refine v_iload_n hX rfl qX7_finds_2 ?_
  refine v_callPq hX hR k_X7_7_7 hk (c_X2_finds_7 hk _ _) rfl (Nat.le_of_ble_eq_true rfl) rfl (Nat.le_of_ble_eq_true rfl) ⟨Nat.le_of_ble_eq_true rfl, Nat.le_of_ble_eq_true rfl⟩ qX7_finds_3 ?_
  rintro _ _ ⟨rfl, rfl⟩
  refine v_bipush hX lb_30 qX7_finds_6 ?_
  refine v_iadd hX qX7_finds_8 ?_
  refine v_ireturn hX qX7_finds_9 (hP _ _ ?_)
  exact ⟨rfl, rfl⟩
theorem qX8_finds_0 : Dq cX8_finds 0 (.aload_n 0) 1 1 := ⟨by decide +kernel, rfl⟩
theorem qX8_finds_1 : Dq cX8_finds 1 (.iload_n 1) 1 2 := ⟨by decide +kernel, rfl⟩
theorem qX8_finds_2 : Dq cX8_finds 2 (.iload_n 2) 1 3 := ⟨by decide +kernel, rfl⟩
theorem qX8_finds_3 : Dq cX8_finds 3 (.invokespecial 7) 3 6 := ⟨by decide +kernel, rfl⟩
theorem qX8_finds_6 : Dq cX8_finds 6 (.iconst 2) 1 7 := ⟨by decide +kernel, rfl⟩
theorem qX8_finds_7 : Dq cX8_finds 7 (.idiv) 1 8 := ⟨by decide +kernel, rfl⟩
theorem qX8_finds_8 : Dq cX8_finds 8 (.iconst 5) 1 9 := ⟨by decide +kernel, rfl⟩
theorem qX8_finds_9 : Dq cX8_finds 9 (.iload_n 1) 1 10 := ⟨by decide +kernel, rfl⟩
theorem qX8_finds_10 : Dq cX8_finds 10 (.imul) 1 11 := ⟨by decide +kernel, rfl⟩
theorem qX8_finds_11 : Dq cX8_finds 11 (.iadd) 1 12 := ⟨by decide +kernel, rfl⟩
theorem qX8_finds_12 : Dq cX8_finds 12 (.ireturn) 1 13 := ⟨by decide +kernel, rfl⟩
set_option maxRecDepth 100000 in
set_option maxHeartbeats 4000000 in
theorem c_X8_finds_8 {G : Glb} {h : AHp} {a : Nat} (hk : Kd h a 8) (d s : Int32) : CP G m_X8_finds 2 0 0 [.ref a, .int d, .int s] h (fun r h' => r = some (.int ((60 + hpI h a 0 - 6 * d) / 2 + 5 * d)) ∧ h = h') := by
  suffices key : ∀ P : Option Value → AHp → Prop, (∀ r h', (r = some (.int ((60 + hpI h a 0 - 6 * d) / 2 + 5 * d)) ∧ h = h') → P r h') → CP G m_X8_finds 2 0 0 [.ref a, .int d, .int s] h P from key _ (fun _ _ z => z)
  intro P hP
  refine CP.of (by decide +kernel) (Nat.le_of_ble_eq_true rfl) fun X hX hR hnm => ?_
  show V X G 3 0 0 _ 0 [some (.ref a), some (.int d), some (.int s)] [] h
  refine v_aload_n hX rfl qX8_finds_0 ?_
  refine v_iload_n hX rfl qX8_finds_1 ?_
  refine v_iload_n hX rfl qX8_finds_2 ?_
  refine v_callPq hX hR k_X8_7_8 hk (c_X2_finds_8 hk _ _) rfl (Nat.le_of_ble_eq_true rfl) rfl (Nat.le_of_ble_eq_true rfl) ⟨Nat.le_of_ble_eq_true rfl, Nat.le_of_ble_eq_true rfl⟩ qX8_finds_3 ?_
  rintro _ _ ⟨rfl, rfl⟩
  refine v_iconst hX li_2 qX8_finds_6 ?_
  refine v_idiv hX (by decide) qX8_finds_7 ?_
  refine v_iconst hX li_5 qX8_finds_8 ?_
  refine v_iload_n hX rfl qX8_finds_9 ?_
  refine v_imul hX qX8_finds_10 ?_
  refine v_iadd hX qX8_finds_11 ?_
  refine v_ireturn hX qX8_finds_12 (hP _ _ ?_)
  exact ⟨rfl, rfl⟩
theorem qX3_finds_0 : Dq cX3_finds 0 (.aload_n 0) 1 1 := ⟨by decide +kernel, rfl⟩
theorem qX3_finds_1 : Dq cX3_finds 1 (.iload_n 1) 1 2 := ⟨by decide +kernel, rfl⟩
theorem qX3_finds_2 : Dq cX3_finds 2 (.iload_n 2) 1 3 := ⟨by decide +kernel, rfl⟩
theorem qX3_finds_3 : Dq cX3_finds 3 (.invokespecial 7) 3 6 := ⟨by decide +kernel, rfl⟩
theorem qX3_finds_6 : Dq cX3_finds 6 (.iconst 3) 1 7 := ⟨by decide +kernel, rfl⟩
theorem qX3_finds_7 : Dq cX3_finds 7 (.aload_n 0) 1 8 := ⟨by decide +kernel, rfl⟩
theorem qX3_finds_8 : Dq cX3_finds 8 (.getfield 11) 3 11 := ⟨by decide +kernel, rfl⟩
theorem qX3_finds_11 : Dq cX3_finds 11 (.imul) 1 12 := ⟨by decide +kernel, rfl⟩
theorem qX3_finds_12 : Dq cX3_finds 12 (.isub) 1 13 := ⟨by decide +kernel, rfl⟩
theorem qX3_finds_13 : Dq cX3_finds 13 (.ireturn) 1 14 := ⟨by decide +kernel, rfl⟩
set_option maxRecDepth 100000 in
set_option maxHeartbeats 4000000 in
theorem c_X3_finds_3 {G : Glb} {h : AHp} {a : Nat} (hk : Kd h a 3) (d s : Int32) : CP G m_X3_finds 2 0 0 [.ref a, .int d, .int s] h (fun r h' => r = some (.int (70 - 2 * d - 3 * hpI h a 0)) ∧ h = h') := by
  suffices key : ∀ P : Option Value → AHp → Prop, (∀ r h', (r = some (.int (70 - 2 * d - 3 * hpI h a 0)) ∧ h = h') → P r h') → CP G m_X3_finds 2 0 0 [.ref a, .int d, .int s] h P from key _ (fun _ _ z => z)
  intro P hP
  refine CP.of (by decide +kernel) (Nat.le_of_ble_eq_true rfl) fun X hX hR hnm => ?_
  show V X G 3 0 0 _ 0 [some (.ref a), some (.int d), some (.int s)] [] h
  refine v_aload_n hX rfl qX3_finds_0 ?_
  refine v_iload_n hX rfl qX3_finds_1 ?_
  refine v_iload_n hX rfl qX3_finds_2 ?_
  refine v_callPq hX hR k_X3_7_3 hk (c_X4_finds_3 hk _ _) rfl (Nat.le_of_ble_eq_true rfl) rfl (Nat.le_of_ble_eq_true rfl) ⟨Nat.le_of_ble_eq_true rfl, Nat.le_of_ble_eq_true rfl⟩ qX3_finds_3 ?_
  rintro _ _ ⟨rfl, rfl⟩
  refine v_iconst hX li_3 qX3_finds_6 ?_
  refine v_aload_n hX rfl qX3_finds_7 ?_
  refine v_getI hX g_X3_11 (Or.inl rfl) hk qX3_finds_8 ?_
  refine v_imul hX qX3_finds_11 ?_
  refine v_isub hX qX3_finds_12 ?_
  refine v_ireturn hX qX3_finds_13 (hP _ _ ?_)
  exact ⟨rfl, rfl⟩
theorem qX1_takes_0 : Dq cX1_takes 0 (.iconst 2) 1 1 := ⟨by decide +kernel, rfl⟩
theorem qX1_takes_1 : Dq cX1_takes 1 (.ireturn) 1 2 := ⟨by decide +kernel, rfl⟩
set_option maxRecDepth 100000 in
set_option maxHeartbeats 4000000 in
theorem c_X1_takes_1 {G : Glb} {h : AHp} {a : Nat} (hk : Kd h a 1)  : CP G m_X1_takes 1 0 0 [.ref a] h (fun r h' => r = some (.int (2)) ∧ h = h') := by
  suffices key : ∀ P : Option Value → AHp → Prop, (∀ r h', (r = some (.int (2)) ∧ h = h') → P r h') → CP G m_X1_takes 1 0 0 [.ref a] h P from key _ (fun _ _ z => z)
  intro P hP
  refine CP.of (by decide +kernel) (Nat.le_of_ble_eq_true rfl) fun X hX hR hnm => ?_
  show V X G 1 0 0 _ 0 [some (.ref a)] [] h
  refine v_iconst hX li_2 qX1_takes_0 ?_
  refine v_ireturn hX qX1_takes_1 (hP _ _ ?_)
  exact ⟨rfl, rfl⟩
set_option maxRecDepth 100000 in
set_option maxHeartbeats 4000000 in
theorem c_X1_takes_2 {G : Glb} {h : AHp} {a : Nat} (hk : Kd h a 2)  : CP G m_X1_takes 1 0 0 [.ref a] h (fun r h' => r = some (.int (2)) ∧ h = h') := by
  suffices key : ∀ P : Option Value → AHp → Prop, (∀ r h', (r = some (.int (2)) ∧ h = h') → P r h') → CP G m_X1_takes 1 0 0 [.ref a] h P from key _ (fun _ _ z => z)
  intro P hP
  refine CP.of (by decide +kernel) (Nat.le_of_ble_eq_true rfl) fun X hX hR hnm => ?_
  show V X G 1 0 0 _ 0 [some (.ref a)] [] h
  refine v_iconst hX li_2 qX1_takes_0 ?_
  refine v_ireturn hX qX1_takes_1 (hP _ _ ?_)
  exact ⟨rfl, rfl⟩
set_option maxRecDepth 100000 in
set_option maxHeartbeats 4000000 in
theorem c_X1_takes_7 {G : Glb} {h : AHp} {a : Nat} (hk : Kd h a 7)  : CP G m_X1_takes 1 0 0 [.ref a] h (fun r h' => r = some (.int (2)) ∧ h = h') := by
  suffices key : ∀ P : Option Value → AHp → Prop, (∀ r h', (r = some (.int (2)) ∧ h = h') → P r h') → CP G m_X1_takes 1 0 0 [.ref a] h P from key _ (fun _ _ z => z)
  intro P hP
  refine CP.of (by decide +kernel) (Nat.le_of_ble_eq_true rfl) fun X hX hR hnm => ?_
  show V X G 1 0 0 _ 0 [some (.ref a)] [] h
  refine v_iconst hX li_2 qX1_takes_0 ?_
  refine v_ireturn hX qX1_takes_1 (hP _ _ ?_)
  exact ⟨rfl, rfl⟩
set_option maxRecDepth 100000 in
set_option maxHeartbeats 4000000 in
theorem c_X1_takes_8 {G : Glb} {h : AHp} {a : Nat} (hk : Kd h a 8)  : CP G m_X1_takes 1 0 0 [.ref a] h (fun r h' => r = some (.int (2)) ∧ h = h') := by
  suffices key : ∀ P : Option Value → AHp → Prop, (∀ r h', (r = some (.int (2)) ∧ h = h') → P r h') → CP G m_X1_takes 1 0 0 [.ref a] h P from key _ (fun _ _ z => z)
  intro P hP
  refine CP.of (by decide +kernel) (Nat.le_of_ble_eq_true rfl) fun X hX hR hnm => ?_
  show V X G 1 0 0 _ 0 [some (.ref a)] [] h
  refine v_iconst hX li_2 qX1_takes_0 ?_
  refine v_ireturn hX qX1_takes_1 (hP _ _ ?_)
  exact ⟨rfl, rfl⟩
set_option maxRecDepth 100000 in
set_option maxHeartbeats 4000000 in
theorem c_X1_takes_4 {G : Glb} {h : AHp} {a : Nat} (hk : Kd h a 4)  : CP G m_X1_takes 1 0 0 [.ref a] h (fun r h' => r = some (.int (2)) ∧ h = h') := by
  suffices key : ∀ P : Option Value → AHp → Prop, (∀ r h', (r = some (.int (2)) ∧ h = h') → P r h') → CP G m_X1_takes 1 0 0 [.ref a] h P from key _ (fun _ _ z => z)
  intro P hP
  refine CP.of (by decide +kernel) (Nat.le_of_ble_eq_true rfl) fun X hX hR hnm => ?_
  show V X G 1 0 0 _ 0 [some (.ref a)] [] h
  refine v_iconst hX li_2 qX1_takes_0 ?_
  refine v_ireturn hX qX1_takes_1 (hP _ _ ?_)
  exact ⟨rfl, rfl⟩
set_option maxRecDepth 100000 in
set_option maxHeartbeats 4000000 in
theorem c_X1_takes_3 {G : Glb} {h : AHp} {a : Nat} (hk : Kd h a 3)  : CP G m_X1_takes 1 0 0 [.ref a] h (fun r h' => r = some (.int (2)) ∧ h = h') := by
  suffices key : ∀ P : Option Value → AHp → Prop, (∀ r h', (r = some (.int (2)) ∧ h = h') → P r h') → CP G m_X1_takes 1 0 0 [.ref a] h P from key _ (fun _ _ z => z)
  intro P hP
  refine CP.of (by decide +kernel) (Nat.le_of_ble_eq_true rfl) fun X hX hR hnm => ?_
  show V X G 1 0 0 _ 0 [some (.ref a)] [] h
  refine v_iconst hX li_2 qX1_takes_0 ?_
  refine v_ireturn hX qX1_takes_1 (hP _ _ ?_)
  exact ⟨rfl, rfl⟩
theorem qX2_takes_0 : Dq cX2_takes 0 (.aload_n 0) 1 1 := ⟨by decide +kernel, rfl⟩
theorem qX2_takes_1 : Dq cX2_takes 1 (.invokespecial 13) 3 4 := ⟨by decide +kernel, rfl⟩
theorem qX2_takes_4 : Dq cX2_takes 4 (.iconst 4) 1 5 := ⟨by decide +kernel, rfl⟩
theorem qX2_takes_5 : Dq cX2_takes 5 (.iadd) 1 6 := ⟨by decide +kernel, rfl⟩
theorem qX2_takes_6 : Dq cX2_takes 6 (.ireturn) 1 7 := ⟨by decide +kernel, rfl⟩
set_option maxRecDepth 100000 in
set_option maxHeartbeats 4000000 in
theorem c_X2_takes_2 {G : Glb} {h : AHp} {a : Nat} (hk : Kd h a 2)  : CP G m_X2_takes 2 0 0 [.ref a] h (fun r h' => r = some (.int (6)) ∧ h = h') := by
  suffices key : ∀ P : Option Value → AHp → Prop, (∀ r h', (r = some (.int (6)) ∧ h = h') → P r h') → CP G m_X2_takes 2 0 0 [.ref a] h P from key _ (fun _ _ z => z)
  intro P hP
  refine CP.of (by decide +kernel) (Nat.le_of_ble_eq_true rfl) fun X hX hR hnm => ?_
  show V X G 1 0 0 _ 0 [some (.ref a)] [] h
  refine v_aload_n hX rfl qX2_takes_0 ?_
  refine v_callPq hX hR k_X2_13_2 hk (c_X1_takes_2 hk) rfl (Nat.le_of_ble_eq_true rfl) rfl (Nat.le_of_ble_eq_true rfl) ⟨Nat.le_of_ble_eq_true rfl, Nat.le_of_ble_eq_true rfl⟩ qX2_takes_1 ?_
  rintro _ _ ⟨rfl, rfl⟩
  refine v_iconst hX li_4 qX2_takes_4 ?_
  refine v_iadd hX qX2_takes_5 ?_
  refine v_ireturn hX qX2_takes_6 (hP _ _ ?_)
  exact ⟨rfl, rfl⟩
set_option maxRecDepth 100000 in
set_option maxHeartbeats 4000000 in
theorem c_X2_takes_7 {G : Glb} {h : AHp} {a : Nat} (hk : Kd h a 7)  : CP G m_X2_takes 2 0 0 [.ref a] h (fun r h' => r = some (.int (6)) ∧ h = h') := by
  suffices key : ∀ P : Option Value → AHp → Prop, (∀ r h', (r = some (.int (6)) ∧ h = h') → P r h') → CP G m_X2_takes 2 0 0 [.ref a] h P from key _ (fun _ _ z => z)
  intro P hP
  refine CP.of (by decide +kernel) (Nat.le_of_ble_eq_true rfl) fun X hX hR hnm => ?_
  show V X G 1 0 0 _ 0 [some (.ref a)] [] h
  refine v_aload_n hX rfl qX2_takes_0 ?_
  refine v_callPq hX hR k_X2_13_7 hk (c_X1_takes_7 hk) rfl (Nat.le_of_ble_eq_true rfl) rfl (Nat.le_of_ble_eq_true rfl) ⟨Nat.le_of_ble_eq_true rfl, Nat.le_of_ble_eq_true rfl⟩ qX2_takes_1 ?_
  rintro _ _ ⟨rfl, rfl⟩
  refine v_iconst hX li_4 qX2_takes_4 ?_
  refine v_iadd hX qX2_takes_5 ?_
  refine v_ireturn hX qX2_takes_6 (hP _ _ ?_)
  exact ⟨rfl, rfl⟩
set_option maxRecDepth 100000 in
set_option maxHeartbeats 4000000 in
theorem c_X2_takes_8 {G : Glb} {h : AHp} {a : Nat} (hk : Kd h a 8)  : CP G m_X2_takes 2 0 0 [.ref a] h (fun r h' => r = some (.int (6)) ∧ h = h') := by
  suffices key : ∀ P : Option Value → AHp → Prop, (∀ r h', (r = some (.int (6)) ∧ h = h') → P r h') → CP G m_X2_takes 2 0 0 [.ref a] h P from key _ (fun _ _ z => z)
  intro P hP
  refine CP.of (by decide +kernel) (Nat.le_of_ble_eq_true rfl) fun X hX hR hnm => ?_
  show V X G 1 0 0 _ 0 [some (.ref a)] [] h
  refine v_aload_n hX rfl qX2_takes_0 ?_
  refine v_callPq hX hR k_X2_13_8 hk (c_X1_takes_8 hk) rfl (Nat.le_of_ble_eq_true rfl) rfl (Nat.le_of_ble_eq_true rfl) ⟨Nat.le_of_ble_eq_true rfl, Nat.le_of_ble_eq_true rfl⟩ qX2_takes_1 ?_
  rintro _ _ ⟨rfl, rfl⟩
  refine v_iconst hX li_4 qX2_takes_4 ?_
  refine v_iadd hX qX2_takes_5 ?_
  refine v_ireturn hX qX2_takes_6 (hP _ _ ?_)
  exact ⟨rfl, rfl⟩
theorem qX4_takes_0 : Dq cX4_takes 0 (.aload_n 0) 1 1 := ⟨by decide +kernel, rfl⟩
theorem qX4_takes_1 : Dq cX4_takes 1 (.invokespecial 7) 3 4 := ⟨by decide +kernel, rfl⟩
theorem qX4_takes_4 : Dq cX4_takes 4 (.iconst 1) 1 5 := ⟨by decide +kernel, rfl⟩
theorem qX4_takes_5 : Dq cX4_takes 5 (.iadd) 1 6 := ⟨by decide +kernel, rfl⟩
theorem qX4_takes_6 : Dq cX4_takes 6 (.ireturn) 1 7 := ⟨by decide +kernel, rfl⟩
set_option maxRecDepth 100000 in
set_option maxHeartbeats 4000000 in
theorem c_X4_takes_4 {G : Glb} {h : AHp} {a : Nat} (hk : Kd h a 4)  : CP G m_X4_takes 2 0 0 [.ref a] h (fun r h' => r = some (.int (3)) ∧ h = h') := by
  suffices key : ∀ P : Option Value → AHp → Prop, (∀ r h', (r = some (.int (3)) ∧ h = h') → P r h') → CP G m_X4_takes 2 0 0 [.ref a] h P from key _ (fun _ _ z => z)
  intro P hP
  refine CP.of (by decide +kernel) (Nat.le_of_ble_eq_true rfl) fun X hX hR hnm => ?_
  show V X G 1 0 0 _ 0 [some (.ref a)] [] h
  refine v_aload_n hX rfl qX4_takes_0 ?_
  refine v_callPq hX hR k_X4_7_4 hk (c_X1_takes_4 hk) rfl (Nat.le_of_ble_eq_true rfl) rfl (Nat.le_of_ble_eq_true rfl) ⟨Nat.le_of_ble_eq_true rfl, Nat.le_of_ble_eq_true rfl⟩ qX4_takes_1 ?_
  rintro _ _ ⟨rfl, rfl⟩
  refine v_iconst hX li_1 qX4_takes_4 ?_
  refine v_iadd hX qX4_takes_5 ?_
  refine v_ireturn hX qX4_takes_6 (hP _ _ ?_)
  exact ⟨rfl, rfl⟩
set_option maxRecDepth 100000 in
set_option maxHeartbeats 4000000 in
theorem c_X4_takes_3 {G : Glb} {h : AHp} {a : Nat} (hk : Kd h a 3)  : CP G m_X4_takes 2 0 0 [.ref a] h (fun r h' => r = some (.int (3)) ∧ h = h') := by
  suffices key : ∀ P : Option Value → AHp → Prop, (∀ r h', (r = some (.int (3)) ∧ h = h') → P r h') → CP G m_X4_takes 2 0 0 [.ref a] h P from key _ (fun _ _ z => z)
  intro P hP
  refine CP.of (by decide +kernel) (Nat.le_of_ble_eq_true rfl) fun X hX hR hnm => ?_
  show V X G 1 0 0 _ 0 [some (.ref a)] [] h
  refine v_aload_n hX rfl qX4_takes_0 ?_
  refine v_callPq hX hR k_X4_7_3 hk (c_X1_takes_3 hk) rfl (Nat.le_of_ble_eq_true rfl) rfl (Nat.le_of_ble_eq_true rfl) ⟨Nat.le_of_ble_eq_true rfl, Nat.le_of_ble_eq_true rfl⟩ qX4_takes_1 ?_
  rintro _ _ ⟨rfl, rfl⟩
  refine v_iconst hX li_1 qX4_takes_4 ?_
  refine v_iadd hX qX4_takes_5 ?_
  refine v_ireturn hX qX4_takes_6 (hP _ _ ?_)
  exact ⟨rfl, rfl⟩
theorem qX7_takes_0 : Dq cX7_takes 0 (.aload_n 0) 1 1 := ⟨by decide +kernel, rfl⟩
theorem qX7_takes_1 : Dq cX7_takes 1 (.invokespecial 11) 3 4 := ⟨by decide +kernel, rfl⟩
theorem qX7_takes_4 : Dq cX7_takes 4 (.aload_n 0) 1 5 := ⟨by decide +kernel, rfl⟩
theorem qX7_takes_5 : Dq cX7_takes 5 (.getfield 15) 3 8 := ⟨by decide +kernel, rfl⟩
theorem qX7_takes_8 : Dq cX7_takes 8 (.iadd) 1 9 := ⟨by decide +kernel, rfl⟩
theorem qX7_takes_9 : Dq cX7_takes 9 (.ireturn) 1 10 := ⟨by decide +kernel, rfl⟩
set_option maxRecDepth 100000 in
set_option maxHeartbeats 4000000 in
theorem c_X7_takes_7 {G : Glb} {h : AHp} {a : Nat} (hk : Kd h a 7)  : CP G m_X7_takes 3 0 0 [.ref a] h (fun r h' => r = some (.int (6 + hpI h a 0)) ∧ h = h') := by
  suffices key : ∀ P : Option Value → AHp → Prop, (∀ r h', (r = some (.int (6 + hpI h a 0)) ∧ h = h') → P r h') → CP G m_X7_takes 3 0 0 [.ref a] h P from key _ (fun _ _ z => z)
  intro P hP
  refine CP.of (by decide +kernel) (Nat.le_of_ble_eq_true rfl) fun X hX hR hnm => ?_
  show V X G 1 0 0 _ 0 [some (.ref a)] [] h
  refine v_aload_n hX rfl qX7_takes_0 ?_
  refine v_callPq hX hR k_X7_11_7 hk (c_X2_takes_7 hk) rfl (Nat.le_of_ble_eq_true rfl) rfl (Nat.le_of_ble_eq_true rfl) ⟨Nat.le_of_ble_eq_true rfl, Nat.le_of_ble_eq_true rfl⟩ qX7_takes_1 ?_
  rintro _ _ ⟨rfl, rfl⟩
  refine v_aload_n hX rfl qX7_takes_4 ?_
  refine v_getI hX g_X7_15 (Or.inl rfl) hk qX7_takes_5 ?_
  refine v_iadd hX qX7_takes_8 ?_
  refine v_ireturn hX qX7_takes_9 (hP _ _ ?_)
  exact ⟨rfl, rfl⟩
theorem qX8_takes_0 : Dq cX8_takes 0 (.iconst 2) 1 1 := ⟨by decide +kernel, rfl⟩
theorem qX8_takes_1 : Dq cX8_takes 1 (.aload_n 0) 1 2 := ⟨by decide +kernel, rfl⟩
theorem qX8_takes_2 : Dq cX8_takes 2 (.invokespecial 11) 3 5 := ⟨by decide +kernel, rfl⟩
theorem qX8_takes_5 : Dq cX8_takes 5 (.imul) 1 6 := ⟨by decide +kernel, rfl⟩
theorem qX8_takes_6 : Dq cX8_takes 6 (.ireturn) 1 7 := ⟨by decide +kernel, rfl⟩
set_option maxRecDepth 100000 in
set_option maxHeartbeats 4000000 in
theorem c_X8_takes_8 {G : Glb} {h : AHp} {a : Nat} (hk : Kd h a 8)  : CP G m_X8_takes 3 0 0 [.ref a] h (fun r h' => r = some (.int (12)) ∧ h = h') := by
  suffices key : ∀ P : Option Value → AHp → Prop, (∀ r h', (r = some (.int (12)) ∧ h = h') → P r h') → CP G m_X8_takes 3 0 0 [.ref a] h P from key _ (fun _ _ z => z)
  intro P hP
  refine CP.of (by decide +kernel) (Nat.le_of_ble_eq_true rfl) fun X hX hR hnm => ?_
  show V X G 1 0 0 _ 0 [some (.ref a)] [] h
  refine v_iconst hX li_2 qX8_takes_0 ?_
  refine v_aload_n hX rfl qX8_takes_1 ?_
  refine v_callPq hX hR k_X8_11_8 hk (c_X2_takes_8 hk) rfl (Nat.le_of_ble_eq_true rfl) rfl (Nat.le_of_ble_eq_true rfl) ⟨Nat.le_of_ble_eq_true rfl, Nat.le_of_ble_eq_true rfl⟩ qX8_takes_2 ?_
  rintro _ _ ⟨rfl, rfl⟩
  refine v_imul hX qX8_takes_5 ?_
  refine v_ireturn hX qX8_takes_6 (hP _ _ ?_)
  exact ⟨rfl, rfl⟩
theorem qX3_takes_0 : Dq cX3_takes 0 (.aload_n 0) 1 1 := ⟨by decide +kernel, rfl⟩
theorem qX3_takes_1 : Dq cX3_takes 1 (.invokespecial 17) 3 4 := ⟨by decide +kernel, rfl⟩
theorem qX3_takes_4 : Dq cX3_takes 4 (.aload_n 0) 1 5 := ⟨by decide +kernel, rfl⟩
theorem qX3_takes_5 : Dq cX3_takes 5 (.getfield 11) 3 8 := ⟨by decide +kernel, rfl⟩
theorem qX3_takes_8 : Dq cX3_takes 8 (.iadd) 1 9 := ⟨by decide +kernel, rfl⟩
theorem qX3_takes_9 : Dq cX3_takes 9 (.ireturn) 1 10 := ⟨by decide +kernel, rfl⟩
set_option maxRecDepth 100000 in
set_option maxHeartbeats 4000000 in
theorem c_X3_takes_3 {G : Glb} {h : AHp} {a : Nat} (hk : Kd h a 3)  : CP G m_X3_takes 3 0 0 [.ref a] h (fun r h' => r = some (.int (3 + hpI h a 0)) ∧ h = h') := by
  suffices key : ∀ P : Option Value → AHp → Prop, (∀ r h', (r = some (.int (3 + hpI h a 0)) ∧ h = h') → P r h') → CP G m_X3_takes 3 0 0 [.ref a] h P from key _ (fun _ _ z => z)
  intro P hP
  refine CP.of (by decide +kernel) (Nat.le_of_ble_eq_true rfl) fun X hX hR hnm => ?_
  show V X G 1 0 0 _ 0 [some (.ref a)] [] h
  refine v_aload_n hX rfl qX3_takes_0 ?_
  refine v_callPq hX hR k_X3_17_3 hk (c_X4_takes_3 hk) rfl (Nat.le_of_ble_eq_true rfl) rfl (Nat.le_of_ble_eq_true rfl) ⟨Nat.le_of_ble_eq_true rfl, Nat.le_of_ble_eq_true rfl⟩ qX3_takes_1 ?_
  rintro _ _ ⟨rfl, rfl⟩
  refine v_aload_n hX rfl qX3_takes_4 ?_
  refine v_getI hX g_X3_11 (Or.inl rfl) hk qX3_takes_5 ?_
  refine v_iadd hX qX3_takes_8 ?_
  refine v_ireturn hX qX3_takes_9 (hP _ _ ?_)
  exact ⟨rfl, rfl⟩
theorem qX1_stamps_0 : Dq cX1_stamps 0 (.iconst 2) 1 1 := ⟨by decide +kernel, rfl⟩
theorem qX1_stamps_1 : Dq cX1_stamps 1 (.ireturn) 1 2 := ⟨by decide +kernel, rfl⟩
set_option maxRecDepth 100000 in
set_option maxHeartbeats 4000000 in
theorem c_X1_stamps_1 {G : Glb} {h : AHp} {a : Nat} (hk : Kd h a 1)  : CP G m_X1_stamps 1 0 0 [.ref a] h (fun r h' => r = some (.int (2)) ∧ h = h') := by
  suffices key : ∀ P : Option Value → AHp → Prop, (∀ r h', (r = some (.int (2)) ∧ h = h') → P r h') → CP G m_X1_stamps 1 0 0 [.ref a] h P from key _ (fun _ _ z => z)
  intro P hP
  refine CP.of (by decide +kernel) (Nat.le_of_ble_eq_true rfl) fun X hX hR hnm => ?_
  show V X G 1 0 0 _ 0 [some (.ref a)] [] h
  refine v_iconst hX li_2 qX1_stamps_0 ?_
  refine v_ireturn hX qX1_stamps_1 (hP _ _ ?_)
  exact ⟨rfl, rfl⟩
set_option maxRecDepth 100000 in
set_option maxHeartbeats 4000000 in
theorem c_X1_stamps_2 {G : Glb} {h : AHp} {a : Nat} (hk : Kd h a 2)  : CP G m_X1_stamps 1 0 0 [.ref a] h (fun r h' => r = some (.int (2)) ∧ h = h') := by
  suffices key : ∀ P : Option Value → AHp → Prop, (∀ r h', (r = some (.int (2)) ∧ h = h') → P r h') → CP G m_X1_stamps 1 0 0 [.ref a] h P from key _ (fun _ _ z => z)
  intro P hP
  refine CP.of (by decide +kernel) (Nat.le_of_ble_eq_true rfl) fun X hX hR hnm => ?_
  show V X G 1 0 0 _ 0 [some (.ref a)] [] h
  refine v_iconst hX li_2 qX1_stamps_0 ?_
  refine v_ireturn hX qX1_stamps_1 (hP _ _ ?_)
  exact ⟨rfl, rfl⟩
set_option maxRecDepth 100000 in
set_option maxHeartbeats 4000000 in
theorem c_X1_stamps_7 {G : Glb} {h : AHp} {a : Nat} (hk : Kd h a 7)  : CP G m_X1_stamps 1 0 0 [.ref a] h (fun r h' => r = some (.int (2)) ∧ h = h') := by
  suffices key : ∀ P : Option Value → AHp → Prop, (∀ r h', (r = some (.int (2)) ∧ h = h') → P r h') → CP G m_X1_stamps 1 0 0 [.ref a] h P from key _ (fun _ _ z => z)
  intro P hP
  refine CP.of (by decide +kernel) (Nat.le_of_ble_eq_true rfl) fun X hX hR hnm => ?_
  show V X G 1 0 0 _ 0 [some (.ref a)] [] h
  refine v_iconst hX li_2 qX1_stamps_0 ?_
  refine v_ireturn hX qX1_stamps_1 (hP _ _ ?_)
  exact ⟨rfl, rfl⟩
set_option maxRecDepth 100000 in
set_option maxHeartbeats 4000000 in
theorem c_X1_stamps_8 {G : Glb} {h : AHp} {a : Nat} (hk : Kd h a 8)  : CP G m_X1_stamps 1 0 0 [.ref a] h (fun r h' => r = some (.int (2)) ∧ h = h') := by
  suffices key : ∀ P : Option Value → AHp → Prop, (∀ r h', (r = some (.int (2)) ∧ h = h') → P r h') → CP G m_X1_stamps 1 0 0 [.ref a] h P from key _ (fun _ _ z => z)
  intro P hP
  refine CP.of (by decide +kernel) (Nat.le_of_ble_eq_true rfl) fun X hX hR hnm => ?_
  show V X G 1 0 0 _ 0 [some (.ref a)] [] h
  refine v_iconst hX li_2 qX1_stamps_0 ?_
  refine v_ireturn hX qX1_stamps_1 (hP _ _ ?_)
  exact ⟨rfl, rfl⟩
set_option maxRecDepth 100000 in
set_option maxHeartbeats 4000000 in
theorem c_X1_stamps_4 {G : Glb} {h : AHp} {a : Nat} (hk : Kd h a 4)  : CP G m_X1_stamps 1 0 0 [.ref a] h (fun r h' => r = some (.int (2)) ∧ h = h') := by
  suffices key : ∀ P : Option Value → AHp → Prop, (∀ r h', (r = some (.int (2)) ∧ h = h') → P r h') → CP G m_X1_stamps 1 0 0 [.ref a] h P from key _ (fun _ _ z => z)
  intro P hP
  refine CP.of (by decide +kernel) (Nat.le_of_ble_eq_true rfl) fun X hX hR hnm => ?_
  show V X G 1 0 0 _ 0 [some (.ref a)] [] h
  refine v_iconst hX li_2 qX1_stamps_0 ?_
  refine v_ireturn hX qX1_stamps_1 (hP _ _ ?_)
  exact ⟨rfl, rfl⟩
set_option maxRecDepth 100000 in
set_option maxHeartbeats 4000000 in
theorem c_X1_stamps_3 {G : Glb} {h : AHp} {a : Nat} (hk : Kd h a 3)  : CP G m_X1_stamps 1 0 0 [.ref a] h (fun r h' => r = some (.int (2)) ∧ h = h') := by
  suffices key : ∀ P : Option Value → AHp → Prop, (∀ r h', (r = some (.int (2)) ∧ h = h') → P r h') → CP G m_X1_stamps 1 0 0 [.ref a] h P from key _ (fun _ _ z => z)
  intro P hP
  refine CP.of (by decide +kernel) (Nat.le_of_ble_eq_true rfl) fun X hX hR hnm => ?_
  show V X G 1 0 0 _ 0 [some (.ref a)] [] h
  refine v_iconst hX li_2 qX1_stamps_0 ?_
  refine v_ireturn hX qX1_stamps_1 (hP _ _ ?_)
  exact ⟨rfl, rfl⟩
theorem qX2_stamps_0 : Dq cX2_stamps 0 (.aload_n 0) 1 1 := ⟨by decide +kernel, rfl⟩
theorem qX2_stamps_1 : Dq cX2_stamps 1 (.invokespecial 17) 3 4 := ⟨by decide +kernel, rfl⟩
theorem qX2_stamps_4 : Dq cX2_stamps 4 (.iconst 1) 1 5 := ⟨by decide +kernel, rfl⟩
theorem qX2_stamps_5 : Dq cX2_stamps 5 (.isub) 1 6 := ⟨by decide +kernel, rfl⟩
theorem qX2_stamps_6 : Dq cX2_stamps 6 (.ireturn) 1 7 := ⟨by decide +kernel, rfl⟩
set_option maxRecDepth 100000 in
set_option maxHeartbeats 4000000 in
theorem c_X2_stamps_2 {G : Glb} {h : AHp} {a : Nat} (hk : Kd h a 2)  : CP G m_X2_stamps 2 0 0 [.ref a] h (fun r h' => r = some (.int (1)) ∧ h = h') := by
  suffices key : ∀ P : Option Value → AHp → Prop, (∀ r h', (r = some (.int (1)) ∧ h = h') → P r h') → CP G m_X2_stamps 2 0 0 [.ref a] h P from key _ (fun _ _ z => z)
  intro P hP
  refine CP.of (by decide +kernel) (Nat.le_of_ble_eq_true rfl) fun X hX hR hnm => ?_
  show V X G 1 0 0 _ 0 [some (.ref a)] [] h
  refine v_aload_n hX rfl qX2_stamps_0 ?_
  refine v_callPq hX hR k_X2_17_2 hk (c_X1_stamps_2 hk) rfl (Nat.le_of_ble_eq_true rfl) rfl (Nat.le_of_ble_eq_true rfl) ⟨Nat.le_of_ble_eq_true rfl, Nat.le_of_ble_eq_true rfl⟩ qX2_stamps_1 ?_
  rintro _ _ ⟨rfl, rfl⟩
  refine v_iconst hX li_1 qX2_stamps_4 ?_
  refine v_isub hX qX2_stamps_5 ?_
  refine v_ireturn hX qX2_stamps_6 (hP _ _ ?_)
  exact ⟨rfl, rfl⟩
set_option maxRecDepth 100000 in
set_option maxHeartbeats 4000000 in
theorem c_X2_stamps_7 {G : Glb} {h : AHp} {a : Nat} (hk : Kd h a 7)  : CP G m_X2_stamps 2 0 0 [.ref a] h (fun r h' => r = some (.int (1)) ∧ h = h') := by
  suffices key : ∀ P : Option Value → AHp → Prop, (∀ r h', (r = some (.int (1)) ∧ h = h') → P r h') → CP G m_X2_stamps 2 0 0 [.ref a] h P from key _ (fun _ _ z => z)
  intro P hP
  refine CP.of (by decide +kernel) (Nat.le_of_ble_eq_true rfl) fun X hX hR hnm => ?_
  show V X G 1 0 0 _ 0 [some (.ref a)] [] h
  refine v_aload_n hX rfl qX2_stamps_0 ?_
  refine v_callPq hX hR k_X2_17_7 hk (c_X1_stamps_7 hk) rfl (Nat.le_of_ble_eq_true rfl) rfl (Nat.le_of_ble_eq_true rfl) ⟨Nat.le_of_ble_eq_true rfl, Nat.le_of_ble_eq_true rfl⟩ qX2_stamps_1 ?_
  rintro _ _ ⟨rfl, rfl⟩
  refine v_iconst hX li_1 qX2_stamps_4 ?_
  refine v_isub hX qX2_stamps_5 ?_
  refine v_ireturn hX qX2_stamps_6 (hP _ _ ?_)
  exact ⟨rfl, rfl⟩
set_option maxRecDepth 100000 in
set_option maxHeartbeats 4000000 in
theorem c_X2_stamps_8 {G : Glb} {h : AHp} {a : Nat} (hk : Kd h a 8)  : CP G m_X2_stamps 2 0 0 [.ref a] h (fun r h' => r = some (.int (1)) ∧ h = h') := by
  suffices key : ∀ P : Option Value → AHp → Prop, (∀ r h', (r = some (.int (1)) ∧ h = h') → P r h') → CP G m_X2_stamps 2 0 0 [.ref a] h P from key _ (fun _ _ z => z)
  intro P hP
  refine CP.of (by decide +kernel) (Nat.le_of_ble_eq_true rfl) fun X hX hR hnm => ?_
  show V X G 1 0 0 _ 0 [some (.ref a)] [] h
  refine v_aload_n hX rfl qX2_stamps_0 ?_
  refine v_callPq hX hR k_X2_17_8 hk (c_X1_stamps_8 hk) rfl (Nat.le_of_ble_eq_true rfl) rfl (Nat.le_of_ble_eq_true rfl) ⟨Nat.le_of_ble_eq_true rfl, Nat.le_of_ble_eq_true rfl⟩ qX2_stamps_1 ?_
  rintro _ _ ⟨rfl, rfl⟩
  refine v_iconst hX li_1 qX2_stamps_4 ?_
  refine v_isub hX qX2_stamps_5 ?_
  refine v_ireturn hX qX2_stamps_6 (hP _ _ ?_)
  exact ⟨rfl, rfl⟩
theorem qX7_stamps_0 : Dq cX7_stamps 0 (.iconst 0) 1 1 := ⟨by decide +kernel, rfl⟩
theorem qX7_stamps_1 : Dq cX7_stamps 1 (.ireturn) 1 2 := ⟨by decide +kernel, rfl⟩
set_option maxRecDepth 100000 in
set_option maxHeartbeats 4000000 in
theorem c_X7_stamps_7 {G : Glb} {h : AHp} {a : Nat} (hk : Kd h a 7)  : CP G m_X7_stamps 1 0 0 [.ref a] h (fun r h' => r = some (.int (0)) ∧ h = h') := by
  suffices key : ∀ P : Option Value → AHp → Prop, (∀ r h', (r = some (.int (0)) ∧ h = h') → P r h') → CP G m_X7_stamps 1 0 0 [.ref a] h P from key _ (fun _ _ z => z)
  intro P hP
  refine CP.of (by decide +kernel) (Nat.le_of_ble_eq_true rfl) fun X hX hR hnm => ?_
  show V X G 1 0 0 _ 0 [some (.ref a)] [] h
  refine v_iconst hX li_0 qX7_stamps_0 ?_
  refine v_ireturn hX qX7_stamps_1 (hP _ _ ?_)
  exact ⟨rfl, rfl⟩
