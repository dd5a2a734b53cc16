/-! the rule: its stack machine, what it tells of a cell; what the lookers make of it -/
theorem rngI {z : Int} (h1 : -2147483648 ≤ z) (h2 : z < 2147483648) : z.bmod (2 ^ 32) = z := by
  apply Int.bmod_eq_of_le
  · have : ((2 ^ 32 : Nat) : Int) / 2 = 2147483648 := by decide
    omega
  · have : (((2 ^ 32 : Nat) : Int) + 1) / 2 = 2147483648 := by decide
    omega
theorem addI {a b : Int32} (h1 : -2147483648 ≤ a.toInt + b.toInt) (h2 : a.toInt + b.toInt < 2147483648) : (a + b).toInt = a.toInt + b.toInt := by rw [Int32.toInt_add]; exact rngI h1 h2
theorem subI {a b : Int32} (h1 : -2147483648 ≤ a.toInt - b.toInt) (h2 : a.toInt - b.toInt < 2147483648) : (a - b).toInt = a.toInt - b.toInt := by rw [Int32.toInt_sub]; exact rngI h1 h2
theorem mulI {a b : Int32} (h1 : -2147483648 ≤ a.toInt * b.toInt) (h2 : a.toInt * b.toInt < 2147483648) : (a * b).toInt = a.toInt * b.toInt := by rw [Int32.toInt_mul]; exact rngI h1 h2
def joinI (c l r : Int32) : Int32 := if c = -7 then bz (¬ l = 0 ∨ ¬ r = 0) else if c = -8 then bz (¬ l = 0 ∧ ¬ r = 0) else if c = -10 then bz (l < r) else if c = -11 then bz (l = r) else if c = -12 then l + r else if c = -13 then l - r else l * r
def evNot (s : List Int32) : Option (List Int32) := match s with
  | [] => none
  | v :: t => some (bz (v = 0) :: t)
def evNeg (s : List Int32) : Option (List Int32) := match s with
  | [] => none
  | v :: t => some (-v :: t)
def evTwo (c : Int32) (s : List Int32) : Option (List Int32) := match s with
  | [] => none
  | [_] => none
  | r :: l :: t => some (joinI c l r :: t)
/-- one step of a rule's machine -/
def ev1 (env : Nat → Int32) (c : Int32) (s : List Int32) : Option (List Int32) :=
  if 0 ≤ c then (if s.length < 31 then some (c :: s) else none)
  else if -6 ≤ c then (if s.length < 31 then some (env (tn (-1 - c)) :: s) else none)
  else if c = -9 then evNot s
  else if c = -15 then evNeg s
  else evTwo c s
def evn (f : Nat → Int32) (env : Nat → Int32) : Nat → Nat → List Int32 → Option (List Int32)
  | 0, _, s => some s
  | n + 1, i, s => (ev1 env (f i) s).bind (evn f env n (i + 1))
theorem ixNm {c : Int32} (h1 : -6 ≤ c) (h2 : c < 0) : IX (-1 - c) (tn (-1 - c)) 6 := by
  have g1 := leI.mp h1
  have g2 := ltI.mp h2
  have e1 : (-6 : Int32).toInt = -6 := rfl
  have e2 : (-1 : Int32).toInt = -1 := rfl
  have e3 : (0 : Int32).toInt = 0 := rfl
  have e4 := subI (a := -1) (b := c) (by omega) (by omega)
  refine IX.of (leI.mpr ?_) ?_ <;> omega
/-- the machine's stack holds s, its head on top -/
def Stk (h : AHp) (s : List Int32) : Prop := hpI h 17 5 = nI s.length ∧ s.length ≤ 31 ∧ ∀ i x, s.reverse[i]? = some x → hpI h 21 i = x
def FrS (h : AHp) (σ : Nat → Nat → Int32) : Prop := ∀ a k, a ≠ 21 → ¬ (a = 17 ∧ k = 5) → σ a k = hpI h a k
theorem Stk.push {h : AHp} {s : List Int32} (v : Int32) (hk : Stk h s) (hl : s.length < 31) : Stk (stI (stI h 21 s.length v) 17 5 (nI (s.length + 1))) (v :: s) := by
  refine ⟨by simp [hpI_st], by simp; omega, fun i x hx => ?_⟩
  simp only [hpI_st]
  rw [if_neg (by omega)]
  rw [List.reverse_cons] at hx
  by_cases hi : i = s.length
  · subst hi
    rw [List.getElem?_append_right (by simp)] at hx
    simp at hx
    simp [hx]
  · rw [if_neg (fun z => hi z.2)]
    have hlt : i < s.reverse.length := by
      have := (List.getElem?_eq_some_iff.mp hx).1
      simp at this ⊢
      omega
    rw [List.getElem?_append_left hlt] at hx
    exact hk.2.2 i x hx
theorem Stk.top {h : AHp} {v : Int32} {t : List Int32} (hk : Stk h (v :: t)) : hpI h 21 t.length = v := hk.2.2 _ _ (by rw [List.reverse_cons, List.getElem?_append_right (by simp)]; simp)
theorem Stk.pop {h : AHp} {v : Int32} {t : List Int32} (hk : Stk h (v :: t)) : Stk (stI h 17 5 (nI t.length)) t := by
  refine ⟨by simp [hpI_st], by have := hk.2.1; simp at this; omega, fun i x hx => ?_⟩
  simp only [hpI_st]
  rw [if_neg (by omega)]
  refine hk.2.2 i x ?_
  rw [List.reverse_cons, List.getElem?_append_left (List.getElem?_eq_some_iff.mp hx).1]
  exact hx
theorem qX5_push_0 : Dq cX5_push 0 (.aload_n 0) 1 1 := ⟨by decide +kernel, rfl⟩
theorem qX5_push_1 : Dq cX5_push 1 (.getfield 108) 3 4 := ⟨by decide +kernel, rfl⟩
theorem qX5_push_4 : Dq cX5_push 4 (.ifCond .lt 32) 3 7 := ⟨by decide +kernel, rfl⟩
theorem qX5_push_7 : Dq cX5_push 7 (.aload_n 0) 1 8 := ⟨by decide +kernel, rfl⟩
theorem qX5_push_8 : Dq cX5_push 8 (.getfield 108) 3 11 := ⟨by decide +kernel, rfl⟩
theorem qX5_push_11 : Dq cX5_push 11 (.bipush 31) 2 13 := ⟨by decide +kernel, rfl⟩
theorem qX5_push_13 : Dq cX5_push 13 (.if_icmp .ge 23) 3 16 := ⟨by decide +kernel, rfl⟩
theorem qX5_push_16 : Dq cX5_push 16 (.aload_n 0) 1 17 := ⟨by decide +kernel, rfl⟩
theorem qX5_push_17 : Dq cX5_push 17 (.getfield 21) 3 20 := ⟨by decide +kernel, rfl⟩
theorem qX5_push_20 : Dq cX5_push 20 (.aload_n 0) 1 21 := ⟨by decide +kernel, rfl⟩
theorem qX5_push_21 : Dq cX5_push 21 (.getfield 108) 3 24 := ⟨by decide +kernel, rfl⟩
theorem qX5_push_24 : Dq cX5_push 24 (.iload_n 1) 1 25 := ⟨by decide +kernel, rfl⟩
theorem qX5_push_25 : Dq cX5_push 25 (.iastore) 1 26 := ⟨by decide +kernel, rfl⟩
theorem qX5_push_26 : Dq cX5_push 26 (.aload_n 0) 1 27 := ⟨by decide +kernel, rfl⟩
theorem qX5_push_27 : Dq cX5_push 27 (.dup) 1 28 := ⟨by decide +kernel, rfl⟩
theorem qX5_push_28 : Dq cX5_push 28 (.getfield 108) 3 31 := ⟨by decide +kernel, rfl⟩
theorem qX5_push_31 : Dq cX5_push 31 (.iconst 1) 1 32 := ⟨by decide +kernel, rfl⟩
theorem qX5_push_32 : Dq cX5_push 32 (.iadd) 1 33 := ⟨by decide +kernel, rfl⟩
theorem qX5_push_33 : Dq cX5_push 33 (.putfield 108) 3 36 := ⟨by decide +kernel, rfl⟩
theorem qX5_push_36 : Dq cX5_push 36 (.return_) 1 37 := ⟨by decide +kernel, rfl⟩
set_option maxRecDepth 100000 in
set_option maxHeartbeats 4000000 in
theorem c_push {G : Glb} {h : AHp} (hs : ShC h) {s : List Int32} (hst : Stk h s) (hl : s.length < 31) (v : Int32) : CP G m_X5_push 1 0 0 [.ref 17, .int v] h (fun r h' => r = none ∧ stI (stI h 21 s.length v) 17 5 (nI (s.length + 1)) = h') := by
  suffices key : ∀ P : Option Value → AHp → Prop, (∀ r h', (r = none ∧ stI (stI h 21 s.length v) 17 5 (nI (s.length + 1)) = h') → P r h') → CP G m_X5_push 1 0 0 [.ref 17, .int v] h P from key _ (fun _ _ z => z)
  intro P hP
  refine CP.of (by decide +kernel) (Nat.le_of_ble_eq_true rfl) fun X hX hR hnm => ?_
  show V X G 2 0 0 _ 0 [some (.ref 17), some (.int v)] [] h
  refine v_aload_n hX rfl qX5_push_0 ?_
  refine v_getIv hX g_X5_108 (Or.inl rfl) (hs.kd 17 rfl) hst.1 qX5_push_1 ?_
  refine v_if_ltS hX 36 qX5_push_4 rfl (fun q4 => ?_) (fun q4 => ?_)
  · exact absurd (nI_pos' (n := s.length) (by omega)) (Int32.not_le.mpr q4)
  · skip
    refine v_aload_n hX rfl qX5_push_7 ?_
    refine v_getIv hX g_X5_108 (Or.inl rfl) (hs.kd 17 rfl) hst.1 qX5_push_8 ?_
    refine v_bipush hX lb_31 qX5_push_11 ?_
    refine v_icmp_geS hX 36 qX5_push_13 rfl (fun q13 => ?_) (fun q13 => ?_)
    · exact absurd (nI_le' (i := 31) (by omega) (by omega) q13) (by omega)
    · skip
      refine v_aload_n hX rfl qX5_push_16 ?_
      refine v_getR hX g_X5_21 (hs.kd 17 rfl) (hs.rf 22 rfl) qX5_push_17 ?_
      refine v_aload_n hX rfl qX5_push_20 ?_
      refine v_getIv hX g_X5_108 (Or.inl rfl) (hs.kd 17 rfl) hst.1 qX5_push_21 ?_
      refine v_iload_n hX rfl qX5_push_24 ?_
      refine v_iastJ hX (hs.kd 21 rfl) (hs.ln 21 rfl) (by exact ix_n hl rfl) qX5_push_25 ?_
      refine v_aload_n hX rfl qX5_push_26 ?_
      refine v_dup hX rfl qX5_push_27 ?_
      refine v_getIv hX g_X5_108 (Or.inl rfl) (hs.kd 17 rfl) hst.1 qX5_push_28 ?_
      refine v_iconst hX li_1 qX5_push_31 ?_
      refine v_iadd hX qX5_push_32 ?_
      refine v_eqI (nI_1 _) ?_
      refine v_putI hX p_X5_108 (hs.kd 17 rfl) (Or.inl rfl) qX5_push_33 ?_
      refine v_return hX qX5_push_36 (hP _ _ ?_)
      exact ⟨rfl, rfl⟩
theorem qX5_pop_0 : Dq cX5_pop 0 (.aload_n 0) 1 1 := ⟨by decide +kernel, rfl⟩
theorem qX5_pop_1 : Dq cX5_pop 1 (.getfield 108) 3 4 := ⟨by decide +kernel, rfl⟩
theorem qX5_pop_4 : Dq cX5_pop 4 (.ifCond .le 12) 3 7 := ⟨by decide +kernel, rfl⟩
theorem qX5_pop_7 : Dq cX5_pop 7 (.aload_n 0) 1 8 := ⟨by decide +kernel, rfl⟩
theorem qX5_pop_8 : Dq cX5_pop 8 (.getfield 108) 3 11 := ⟨by decide +kernel, rfl⟩
theorem qX5_pop_11 : Dq cX5_pop 11 (.bipush 31) 2 13 := ⟨by decide +kernel, rfl⟩
theorem qX5_pop_13 : Dq cX5_pop 13 (.if_icmp .le 5) 3 16 := ⟨by decide +kernel, rfl⟩
theorem qX5_pop_18 : Dq cX5_pop 18 (.aload_n 0) 1 19 := ⟨by decide +kernel, rfl⟩
theorem qX5_pop_19 : Dq cX5_pop 19 (.dup) 1 20 := ⟨by decide +kernel, rfl⟩
theorem qX5_pop_20 : Dq cX5_pop 20 (.getfield 108) 3 23 := ⟨by decide +kernel, rfl⟩
theorem qX5_pop_23 : Dq cX5_pop 23 (.iconst 1) 1 24 := ⟨by decide +kernel, rfl⟩
theorem qX5_pop_24 : Dq cX5_pop 24 (.isub) 1 25 := ⟨by decide +kernel, rfl⟩
theorem qX5_pop_25 : Dq cX5_pop 25 (.putfield 108) 3 28 := ⟨by decide +kernel, rfl⟩
theorem qX5_pop_28 : Dq cX5_pop 28 (.aload_n 0) 1 29 := ⟨by decide +kernel, rfl⟩
theorem qX5_pop_29 : Dq cX5_pop 29 (.getfield 21) 3 32 := ⟨by decide +kernel, rfl⟩
theorem qX5_pop_32 : Dq cX5_pop 32 (.aload_n 0) 1 33 := ⟨by decide +kernel, rfl⟩
theorem qX5_pop_33 : Dq cX5_pop 33 (.getfield 108) 3 36 := ⟨by decide +kernel, rfl⟩
theorem qX5_pop_36 : Dq cX5_pop 36 (.iaload) 1 37 := ⟨by decide +kernel, rfl⟩
theorem qX5_pop_37 : Dq cX5_pop 37 (.ireturn) 1 38 := ⟨by decide +kernel, rfl⟩
set_option maxRecDepth 100000 in
set_option maxHeartbeats 4000000 in
theorem c_pop {G : Glb} {h : AHp} (hs : ShC h) {v : Int32} {t : List Int32} (hst : Stk h (v :: t)) : CP G m_X5_pop 1 0 0 [.ref 17] h (fun r h' => r = some (.int v) ∧ stI h 17 5 (nI t.length) = h') := by
  suffices key : ∀ P : Option Value → AHp → Prop, (∀ r h', (r = some (.int v) ∧ stI h 17 5 (nI t.length) = h') → P r h') → CP G m_X5_pop 1 0 0 [.ref 17] h P from key _ (fun _ _ z => z)
  intro P hP
  refine CP.of (by decide +kernel) (Nat.le_of_ble_eq_true rfl) fun X hX hR hnm => ?_
  show V X G 1 0 0 _ 0 [some (.ref 17)] [] h
  have hl := hst.2.1
  rw [List.length_cons] at hl
  have hz := hst.1
  rw [List.length_cons] at hz
  refine v_aload_n hX rfl qX5_pop_0 ?_
  refine v_getIv hX g_X5_108 (Or.inl rfl) (hs.kd 17 rfl) hz qX5_pop_1 ?_
  refine v_if_leS hX 16 qX5_pop_4 rfl (fun q4 => ?_) (fun q4 => ?_)
  · exact absurd q4 (nI_nle (by omega) (by omega))
  · skip
    refine v_aload_n hX rfl qX5_pop_7 ?_
    refine v_getIv hX g_X5_108 (Or.inl rfl) (hs.kd 17 rfl) hz qX5_pop_8 ?_
    refine v_bipush hX lb_31 qX5_pop_11 ?_
    refine v_icmp_leS hX 18 qX5_pop_13 rfl (fun q13 => ?_) (fun q13 => ?_)
    · skip
      refine v_aload_n hX rfl qX5_pop_18 ?_
      refine v_dup hX rfl qX5_pop_19 ?_
      refine v_getIv hX g_X5_108 (Or.inl rfl) (hs.kd 17 rfl) hz qX5_pop_20 ?_
      refine v_iconst hX li_1 qX5_pop_23 ?_
      refine v_isub hX qX5_pop_24 ?_
      refine v_eqI (nI_pred _) ?_
      refine v_putI hX p_X5_108 (hs.kd 17 rfl) (Or.inl rfl) qX5_pop_25 ?_
      refine v_aload_n hX rfl qX5_pop_28 ?_
      refine v_getR hX g_X5_21 (hs.kd 17 rfl) (hs.rf 22 rfl) qX5_pop_29 ?_
      refine v_aload_n hX rfl qX5_pop_32 ?_
      refine v_getIv hX g_X5_108 (Or.inl rfl) (hs.kd 17 rfl) (show hpI (stI h 17 5 (nI t.length)) 17 5 = nI t.length by simp [hpI_st]) qX5_pop_33 ?_
      refine v_ialdV hX (hs.kd 21 rfl) (hs.ln 21 rfl) (by exact ix_n (n := t.length) (by omega) rfl) (show hpI (stI h 17 5 (nI t.length)) 21 t.length = v by rw [hpI_st, if_neg (by omega)]; exact hst.top) qX5_pop_36 ?_
      refine v_ireturn hX qX5_pop_37 (hP _ _ ?_)
      exact ⟨rfl, rfl⟩
    · exact absurd (ltI.mp q13) (by have := nI_toInt (n := t.length + 1) (by omega); have e : (31 : Int32).toInt = 31 := rfl; omega)
theorem rz {x y : Int32} (e : y = x) : some (Value.int x) = some (Value.int y) := by rw [e]
theorem qX5_joined_0 : Dq cX5_joined 0 (.iload_n 0) 1 1 := ⟨by decide +kernel, rfl⟩
theorem qX5_joined_1 : Dq cX5_joined 1 (.tableswitch 101 (-13) (-7) #[97, 93, 82, 71, 101, 57, 43]) 43 44 := ⟨by decide +kernel, rfl⟩
theorem qX5_joined_44 : Dq cX5_joined 44 (.iload_n 1) 1 45 := ⟨by decide +kernel, rfl⟩
theorem qX5_joined_45 : Dq cX5_joined 45 (.ifCond .ne 7) 3 48 := ⟨by decide +kernel, rfl⟩
theorem qX5_joined_48 : Dq cX5_joined 48 (.iload_n 2) 1 49 := ⟨by decide +kernel, rfl⟩
theorem qX5_joined_49 : Dq cX5_joined 49 (.ifCond .eq 7) 3 52 := ⟨by decide +kernel, rfl⟩
theorem qX5_joined_52 : Dq cX5_joined 52 (.iconst 1) 1 53 := ⟨by decide +kernel, rfl⟩
theorem qX5_joined_53 : Dq cX5_joined 53 (.goto 4) 3 56 := ⟨by decide +kernel, rfl⟩
theorem qX5_joined_56 : Dq cX5_joined 56 (.iconst 0) 1 57 := ⟨by decide +kernel, rfl⟩
theorem qX5_joined_57 : Dq cX5_joined 57 (.ireturn) 1 58 := ⟨by decide +kernel, rfl⟩
theorem qX5_joined_58 : Dq cX5_joined 58 (.iload_n 1) 1 59 := ⟨by decide +kernel, rfl⟩
theorem qX5_joined_59 : Dq cX5_joined 59 (.ifCond .eq 11) 3 62 := ⟨by decide +kernel, rfl⟩
theorem qX5_joined_62 : Dq cX5_joined 62 (.iload_n 2) 1 63 := ⟨by decide +kernel, rfl⟩
theorem qX5_joined_63 : Dq cX5_joined 63 (.ifCond .eq 7) 3 66 := ⟨by decide +kernel, rfl⟩
theorem qX5_joined_66 : Dq cX5_joined 66 (.iconst 1) 1 67 := ⟨by decide +kernel, rfl⟩
theorem qX5_joined_67 : Dq cX5_joined 67 (.goto 4) 3 70 := ⟨by decide +kernel, rfl⟩
theorem qX5_joined_70 : Dq cX5_joined 70 (.iconst 0) 1 71 := ⟨by decide +kernel, rfl⟩
theorem qX5_joined_71 : Dq cX5_joined 71 (.ireturn) 1 72 := ⟨by decide +kernel, rfl⟩
theorem qX5_joined_72 : Dq cX5_joined 72 (.iload_n 1) 1 73 := ⟨by decide +kernel, rfl⟩
theorem qX5_joined_73 : Dq cX5_joined 73 (.iload_n 2) 1 74 := ⟨by decide +kernel, rfl⟩
theorem qX5_joined_74 : Dq cX5_joined 74 (.if_icmp .ge 7) 3 77 := ⟨by decide +kernel, rfl⟩
theorem qX5_joined_77 : Dq cX5_joined 77 (.iconst 1) 1 78 := ⟨by decide +kernel, rfl⟩
theorem qX5_joined_78 : Dq cX5_joined 78 (.goto 4) 3 81 := ⟨by decide +kernel, rfl⟩
theorem qX5_joined_81 : Dq cX5_joined 81 (.iconst 0) 1 82 := ⟨by decide +kernel, rfl⟩
theorem qX5_joined_82 : Dq cX5_joined 82 (.ireturn) 1 83 := ⟨by decide +kernel, rfl⟩
theorem qX5_joined_83 : Dq cX5_joined 83 (.iload_n 1) 1 84 := ⟨by decide +kernel, rfl⟩
theorem qX5_joined_84 : Dq cX5_joined 84 (.iload_n 2) 1 85 := ⟨by decide +kernel, rfl⟩
theorem qX5_joined_85 : Dq cX5_joined 85 (.if_icmp .ne 7) 3 88 := ⟨by decide +kernel, rfl⟩
theorem qX5_joined_88 : Dq cX5_joined 88 (.iconst 1) 1 89 := ⟨by decide +kernel, rfl⟩
theorem qX5_joined_89 : Dq cX5_joined 89 (.goto 4) 3 92 := ⟨by decide +kernel, rfl⟩
theorem qX5_joined_92 : Dq cX5_joined 92 (.iconst 0) 1 93 := ⟨by decide +kernel, rfl⟩
theorem qX5_joined_93 : Dq cX5_joined 93 (.ireturn) 1 94 := ⟨by decide +kernel, rfl⟩
theorem qX5_joined_94 : Dq cX5_joined 94 (.iload_n 1) 1 95 := ⟨by decide +kernel, rfl⟩
theorem qX5_joined_95 : Dq cX5_joined 95 (.iload_n 2) 1 96 := ⟨by decide +kernel, rfl⟩
theorem qX5_joined_96 : Dq cX5_joined 96 (.iadd) 1 97 := ⟨by decide +kernel, rfl⟩
theorem qX5_joined_97 : Dq cX5_joined 97 (.ireturn) 1 98 := ⟨by decide +kernel, rfl⟩
theorem qX5_joined_98 : Dq cX5_joined 98 (.iload_n 1) 1 99 := ⟨by decide +kernel, rfl⟩
theorem qX5_joined_99 : Dq cX5_joined 99 (.iload_n 2) 1 100 := ⟨by decide +kernel, rfl⟩
theorem qX5_joined_100 : Dq cX5_joined 100 (.isub) 1 101 := ⟨by decide +kernel, rfl⟩
theorem qX5_joined_101 : Dq cX5_joined 101 (.ireturn) 1 102 := ⟨by decide +kernel, rfl⟩
theorem qX5_joined_102 : Dq cX5_joined 102 (.iload_n 1) 1 103 := ⟨by decide +kernel, rfl⟩
theorem qX5_joined_103 : Dq cX5_joined 103 (.iload_n 2) 1 104 := ⟨by decide +kernel, rfl⟩
theorem qX5_joined_104 : Dq cX5_joined 104 (.imul) 1 105 := ⟨by decide +kernel, rfl⟩
theorem qX5_joined_105 : Dq cX5_joined 105 (.ireturn) 1 106 := ⟨by decide +kernel, rfl⟩
set_option maxRecDepth 100000 in
set_option maxHeartbeats 4000000 in
theorem c_joined {G : Glb} {h : AHp} (c l rr : Int32) : CP G m_X5_joined 1 0 0 [.int c, .int l, .int rr] h (fun r h' => r = some (.int (joinI c l rr)) ∧ h = h') := by
  suffices key : ∀ P : Option Value → AHp → Prop, (∀ r h', (r = some (.int (joinI c l rr)) ∧ h = h') → P r h') → CP G m_X5_joined 1 0 0 [.int c, .int l, .int rr] h P from key _ (fun _ _ z => z)
  intro P hP
  refine CP.of (by decide +kernel) (Nat.le_of_ble_eq_true rfl) fun X hX hR hnm => ?_
  show V X G 3 0 0 _ 0 [some (.int c), some (.int l), some (.int rr)] [] h
  refine v_iload_n hX rfl qX5_joined_0 ?_
  refine v_case (-13 : Int32) (fun q1 => ?_) (fun q1_n13 => ?_)
  · skip
    refine v_tableIn (off := 97) hX 98 qX5_joined_1 (by first | exact (by rw [q1]; decide) | decide) (by first | exact (by rw [q1]; decide) | decide) (by first | exact (by rw [q1]; rfl) | rfl) rfl ?_
    refine v_iload_n hX rfl qX5_joined_98 ?_
    refine v_iload_n hX rfl qX5_joined_99 ?_
    refine v_isub hX qX5_joined_100 ?_
    refine v_ireturn hX qX5_joined_101 (hP _ _ ?_)
    rw [joinI, if_neg (by rw [q1]; decide), if_neg (by rw [q1]; decide), if_neg (by rw [q1]; decide), if_neg (by rw [q1]; decide), if_neg (by rw [q1]; decide), if_pos q1]
    exact ⟨rfl, rfl⟩
  refine v_case (-12 : Int32) (fun q1 => ?_) (fun q1_n12 => ?_)
  · skip
    refine v_tableIn (off := 93) hX 94 qX5_joined_1 (by first | exact (by rw [q1]; decide) | decide) (by first | exact (by rw [q1]; decide) | decide) (by first | exact (by rw [q1]; rfl) | rfl) rfl ?_
    refine v_iload_n hX rfl qX5_joined_94 ?_
    refine v_iload_n hX rfl qX5_joined_95 ?_
    refine v_iadd hX qX5_joined_96 ?_
    refine v_ireturn hX qX5_joined_97 (hP _ _ ?_)
    rw [joinI, if_neg (by rw [q1]; decide), if_neg (by rw [q1]; decide), if_neg (by rw [q1]; decide), if_neg (by rw [q1]; decide), if_pos q1]
    exact ⟨rfl, rfl⟩
  refine v_case (-11 : Int32) (fun q1 => ?_) (fun q1_n11 => ?_)
  · skip
    refine v_tableIn (off := 82) hX 83 qX5_joined_1 (by first | exact (by rw [q1]; decide) | decide) (by first | exact (by rw [q1]; decide) | decide) (by first | exact (by rw [q1]; rfl) | rfl) rfl ?_
    refine v_iload_n hX rfl qX5_joined_83 ?_
    refine v_iload_n hX rfl qX5_joined_84 ?_
    refine v_icmp_ne hX 92 qX5_joined_85 rfl (fun q85 => ?_) (fun q85 => ?_)
    · skip
      refine v_iconst hX li_0 qX5_joined_92 ?_
      refine v_ireturn hX qX5_joined_93 (hP _ _ ?_)
      rw [joinI, if_neg (by rw [q1]; decide), if_neg (by rw [q1]; decide), if_neg (by rw [q1]; decide), if_pos q1]
      first | exact ⟨rz (bz_t q85), rfl⟩ | exact ⟨rz (bz_f q85), rfl⟩
    · skip
      refine v_iconst hX li_1 qX5_joined_88 ?_
      refine v_goto hX 93 qX5_joined_89 rfl ?_
      refine v_ireturn hX qX5_joined_93 (hP _ _ ?_)
      rw [joinI, if_neg (by rw [q1]; decide), if_neg (by rw [q1]; decide), if_neg (by rw [q1]; decide), if_pos q1]
      first | exact ⟨rz (bz_t q85), rfl⟩ | exact ⟨rz (bz_f q85), rfl⟩
  refine v_case (-10 : Int32) (fun q1 => ?_) (fun q1_n10 => ?_)
  · skip
    refine v_tableIn (off := 71) hX 72 qX5_joined_1 (by first | exact (by rw [q1]; decide) | decide) (by first | exact (by rw [q1]; decide) | decide) (by first | exact (by rw [q1]; rfl) | rfl) rfl ?_
    refine v_iload_n hX rfl qX5_joined_72 ?_
    refine v_iload_n hX rfl qX5_joined_73 ?_
    refine v_icmp_geS hX 81 qX5_joined_74 rfl (fun q74 => ?_) (fun q74 => ?_)
    · skip
      refine v_iconst hX li_0 qX5_joined_81 ?_
      refine v_ireturn hX qX5_joined_82 (hP _ _ ?_)
      rw [joinI, if_neg (by rw [q1]; decide), if_neg (by rw [q1]; decide), if_pos q1]
      first | exact ⟨rz (bz_t q74), rfl⟩ | exact ⟨rz (bz_f (Int32.not_lt.mpr q74)), rfl⟩
    · skip
      refine v_iconst hX li_1 qX5_joined_77 ?_
      refine v_goto hX 82 qX5_joined_78 rfl ?_
      refine v_ireturn hX qX5_joined_82 (hP _ _ ?_)
      rw [joinI, if_neg (by rw [q1]; decide), if_neg (by rw [q1]; decide), if_pos q1]
      first | exact ⟨rz (bz_t q74), rfl⟩ | exact ⟨rz (bz_f (Int32.not_lt.mpr q74)), rfl⟩
  refine v_case (-9 : Int32) (fun q1 => ?_) (fun q1_n9 => ?_)
  · skip
    refine v_tableIn (off := 101) hX 102 qX5_joined_1 (by first | exact (by rw [q1]; decide) | decide) (by first | exact (by rw [q1]; decide) | decide) (by first | exact (by rw [q1]; rfl) | rfl) rfl ?_
    refine v_iload_n hX rfl qX5_joined_102 ?_
    refine v_iload_n hX rfl qX5_joined_103 ?_
    refine v_imul hX qX5_joined_104 ?_
    refine v_ireturn hX qX5_joined_105 (hP _ _ ?_)
    first | (rw [joinI, if_neg (by rw [q1]; decide), if_neg (by rw [q1]; decide), if_neg (by rw [q1]; decide), if_neg (by rw [q1]; decide), if_neg (by rw [q1]; decide), if_neg (by rw [q1]; decide)]; exact ⟨rfl, rfl⟩) | (rw [joinI, if_neg q1_n7, if_neg q1_n8, if_neg q1_n10, if_neg q1_n11, if_neg q1_n12, if_neg q1_n13]; exact ⟨rfl, rfl⟩)
  refine v_case (-8 : Int32) (fun q1 => ?_) (fun q1_n8 => ?_)
  · skip
    refine v_tableIn (off := 57) hX 58 qX5_joined_1 (by first | exact (by rw [q1]; decide) | decide) (by first | exact (by rw [q1]; decide) | decide) (by first | exact (by rw [q1]; rfl) | rfl) rfl ?_
    refine v_iload_n hX rfl qX5_joined_58 ?_
    first | refine v_if_eqB hX 70 qX5_joined_59 rfl (fun q59 => ?_) (fun q59 => ?_) | refine v_if_eq hX 70 qX5_joined_59 rfl (fun q59 => ?_) (fun q59 => ?_)
    · skip
      refine v_iconst hX li_0 qX5_joined_70 ?_
      refine v_ireturn hX qX5_joined_71 (hP _ _ ?_)
      rw [joinI, if_neg (by rw [q1]; decide), if_pos q1]
      first | exact ⟨rz (bz_f (fun z => z.1 q59)), rfl⟩ | exact ⟨rz (bz_f (fun z => z.2 q63)), rfl⟩ | exact ⟨rz (bz_t ⟨q59, q63⟩), rfl⟩
    · skip
      refine v_iload_n hX rfl qX5_joined_62 ?_
      first | refine v_if_eqB hX 70 qX5_joined_63 rfl (fun q63 => ?_) (fun q63 => ?_) | refine v_if_eq hX 70 qX5_joined_63 rfl (fun q63 => ?_) (fun q63 => ?_)
      · skip
        refine v_iconst hX li_0 qX5_joined_70 ?_
        refine v_ireturn hX qX5_joined_71 (hP _ _ ?_)
        rw [joinI, if_neg (by rw [q1]; decide), if_pos q1]
        first | exact ⟨rz (bz_f (fun z => z.1 q59)), rfl⟩ | exact ⟨rz (bz_f (fun z => z.2 q63)), rfl⟩ | exact ⟨rz (bz_t ⟨q59, q63⟩), rfl⟩
      · skip
        refine v_iconst hX li_1 qX5_joined_66 ?_
        refine v_goto hX 71 qX5_joined_67 rfl ?_
        refine v_ireturn hX qX5_joined_71 (hP _ _ ?_)
        rw [joinI, if_neg (by rw [q1]; decide), if_pos q1]
        first | exact ⟨rz (bz_f (fun z => z.1 q59)), rfl⟩ | exact ⟨rz (bz_f (fun z => z.2 q63)), rfl⟩ | exact ⟨rz (bz_t ⟨q59, q63⟩), rfl⟩
  refine v_case (-7 : Int32) (fun q1 => ?_) (fun q1_n7 => ?_)
  · skip
    refine v_tableIn (off := 43) hX 44 qX5_joined_1 (by first | exact (by rw [q1]; decide) | decide) (by first | exact (by rw [q1]; decide) | decide) (by first | exact (by rw [q1]; rfl) | rfl) rfl ?_
    refine v_iload_n hX rfl qX5_joined_44 ?_
    first | refine v_if_neB hX 52 qX5_joined_45 rfl (fun q45 => ?_) (fun q45 => ?_) | refine v_if_ne hX 52 qX5_joined_45 rfl (fun q45 => ?_) (fun q45 => ?_)
    · skip
      refine v_iconst hX li_1 qX5_joined_52 ?_
      refine v_goto hX 57 qX5_joined_53 rfl ?_
      refine v_ireturn hX qX5_joined_57 (hP _ _ ?_)
      rw [joinI, if_pos q1]
      first | exact ⟨rz (bz_t (Or.inl q45)), rfl⟩ | exact ⟨rz (bz_t (Or.inr q49)), rfl⟩ | exact ⟨rz (bz_f (fun z => z.elim (fun y => y q45) (fun y => y q49))), rfl⟩
    · skip
      refine v_iload_n hX rfl qX5_joined_48 ?_
      first | refine v_if_eqB hX 56 qX5_joined_49 rfl (fun q49 => ?_) (fun q49 => ?_) | refine v_if_eq hX 56 qX5_joined_49 rfl (fun q49 => ?_) (fun q49 => ?_)
      · skip
        refine v_iconst hX li_0 qX5_joined_56 ?_
        refine v_ireturn hX qX5_joined_57 (hP _ _ ?_)
        rw [joinI, if_pos q1]
        first | exact ⟨rz (bz_t (Or.inl q45)), rfl⟩ | exact ⟨rz (bz_t (Or.inr q49)), rfl⟩ | exact ⟨rz (bz_f (fun z => z.elim (fun y => y q45) (fun y => y q49))), rfl⟩
      · skip
        refine v_iconst hX li_1 qX5_joined_52 ?_
        refine v_goto hX 57 qX5_joined_53 rfl ?_
        refine v_ireturn hX qX5_joined_57 (hP _ _ ?_)
        rw [joinI, if_pos q1]
        first | exact ⟨rz (bz_t (Or.inl q45)), rfl⟩ | exact ⟨rz (bz_t (Or.inr q49)), rfl⟩ | exact ⟨rz (bz_f (fun z => z.elim (fun y => y q45) (fun y => y q49))), rfl⟩
  refine v_tableOut hX 102 qX5_joined_1 ?_ rfl ?_
  · have zn13 := ne_i (-13) (by decide) q1_n13; have zn12 := ne_i (-12) (by decide) q1_n12; have zn11 := ne_i (-11) (by decide) q1_n11; have zn10 := ne_i (-10) (by decide) q1_n10; have zn9 := ne_i (-9) (by decide) q1_n9; have zn8 := ne_i (-8) (by decide) q1_n8; have zn7 := ne_i (-7) (by decide) q1_n7; omega
  refine v_iload_n hX rfl qX5_joined_102 ?_
  refine v_iload_n hX rfl qX5_joined_103 ?_
  refine v_imul hX qX5_joined_104 ?_
  refine v_ireturn hX qX5_joined_105 (hP _ _ ?_)
  first | (rw [joinI, if_neg (by rw [q1]; decide), if_neg (by rw [q1]; decide), if_neg (by rw [q1]; decide), if_neg (by rw [q1]; decide), if_neg (by rw [q1]; decide), if_neg (by rw [q1]; decide)]; exact ⟨rfl, rfl⟩) | (rw [joinI, if_neg q1_n7, if_neg q1_n8, if_neg q1_n10, if_neg q1_n11, if_neg q1_n12, if_neg q1_n13]; exact ⟨rfl, rfl⟩)
section EVI
variable {env : Nat → Int32} {c : Int32} {s s' : List Int32}
theorem ev1_num (h : ev1 env c s = some s') (hc : 0 ≤ c) : s.length < 31 ∧ s' = c :: s := by
  rw [ev1, if_pos hc] at h
  by_cases hl : s.length < 31
  · rw [if_pos hl] at h; exact ⟨hl, (Option.some.inj h).symm⟩
  · rw [if_neg hl] at h; cases h
theorem ev1_name (h : ev1 env c s = some s') (hc : c < 0) (h6 : -6 ≤ c) : s.length < 31 ∧ s' = env (tn (-1 - c)) :: s := by
  rw [ev1, if_neg (Int32.not_le.mpr hc), if_pos h6] at h
  by_cases hl : s.length < 31
  · rw [if_pos hl] at h; exact ⟨hl, (Option.some.inj h).symm⟩
  · rw [if_neg hl] at h; cases h
theorem ev1_not (h : ev1 env c s = some s') (hc : c = -9) : ∃ v t, s = v :: t ∧ s' = bz (v = 0) :: t := by
  subst hc
  rw [ev1, if_neg (by decide), if_neg (by decide), if_pos rfl] at h
  cases s with
  | nil => cases h
  | cons v t => exact ⟨v, t, rfl, (Option.some.inj h).symm⟩
theorem ev1_neg (h : ev1 env c s = some s') (hc : c = -15) : ∃ v t, s = v :: t ∧ s' = -v :: t := by
  subst hc
  rw [ev1, if_neg (by decide), if_neg (by decide), if_neg (by decide), if_pos rfl] at h
  cases s with
  | nil => cases h
  | cons v t => exact ⟨v, t, rfl, (Option.some.inj h).symm⟩
theorem ev1_two (h : ev1 env c s = some s') (hc : c < 0) (h6 : c < -6) (h9 : ¬ c = -9) (h15 : ¬ c = -15) : ∃ r l t, s = r :: l :: t ∧ s' = joinI c l r :: t := by
  rw [ev1, if_neg (Int32.not_le.mpr hc), if_neg (Int32.not_le.mpr h6), if_neg h9, if_neg h15] at h
  rcases s with _ | ⟨r, _ | ⟨l, t⟩⟩
  · cases h
  · cases h
  · exact ⟨r, l, t, rfl, (Option.some.inj h).symm⟩
end EVI
theorem qX5_take_0 : Dq cX5_take 0 (.iload_n 1) 1 1 := ⟨by decide +kernel, rfl⟩
theorem qX5_take_1 : Dq cX5_take 1 (.ifCond .lt 11) 3 4 := ⟨by decide +kernel, rfl⟩
theorem qX5_take_4 : Dq cX5_take 4 (.aload_n 0) 1 5 := ⟨by decide +kernel, rfl⟩
theorem qX5_take_5 : Dq cX5_take 5 (.iload_n 1) 1 6 := ⟨by decide +kernel, rfl⟩
theorem qX5_take_6 : Dq cX5_take 6 (.invokevirtual 122) 3 9 := ⟨by decide +kernel, rfl⟩
theorem qX5_take_9 : Dq cX5_take 9 (.goto 85) 3 12 := ⟨by decide +kernel, rfl⟩
theorem qX5_take_12 : Dq cX5_take 12 (.iload_n 1) 1 13 := ⟨by decide +kernel, rfl⟩
theorem qX5_take_13 : Dq cX5_take 13 (.bipush (-6)) 2 15 := ⟨by decide +kernel, rfl⟩
theorem qX5_take_15 : Dq cX5_take 15 (.if_icmp .lt 18) 3 18 := ⟨by decide +kernel, rfl⟩
theorem qX5_take_18 : Dq cX5_take 18 (.aload_n 0) 1 19 := ⟨by decide +kernel, rfl⟩
theorem qX5_take_19 : Dq cX5_take 19 (.aload_n 0) 1 20 := ⟨by decide +kernel, rfl⟩
theorem qX5_take_20 : Dq cX5_take 20 (.getfield 18) 3 23 := ⟨by decide +kernel, rfl⟩
theorem qX5_take_23 : Dq cX5_take 23 (.iconst (-1)) 1 24 := ⟨by decide +kernel, rfl⟩
theorem qX5_take_24 : Dq cX5_take 24 (.iload_n 1) 1 25 := ⟨by decide +kernel, rfl⟩
theorem qX5_take_25 : Dq cX5_take 25 (.isub) 1 26 := ⟨by decide +kernel, rfl⟩
theorem qX5_take_26 : Dq cX5_take 26 (.iaload) 1 27 := ⟨by decide +kernel, rfl⟩
theorem qX5_take_27 : Dq cX5_take 27 (.invokevirtual 122) 3 30 := ⟨by decide +kernel, rfl⟩
theorem qX5_take_30 : Dq cX5_take 30 (.goto 64) 3 33 := ⟨by decide +kernel, rfl⟩
theorem qX5_take_33 : Dq cX5_take 33 (.iload_n 1) 1 34 := ⟨by decide +kernel, rfl⟩
theorem qX5_take_34 : Dq cX5_take 34 (.bipush (-9)) 2 36 := ⟨by decide +kernel, rfl⟩
theorem qX5_take_36 : Dq cX5_take 36 (.if_icmp .ne 22) 3 39 := ⟨by decide +kernel, rfl⟩
theorem qX5_take_39 : Dq cX5_take 39 (.aload_n 0) 1 40 := ⟨by decide +kernel, rfl⟩
theorem qX5_take_40 : Dq cX5_take 40 (.aload_n 0) 1 41 := ⟨by decide +kernel, rfl⟩
theorem qX5_take_41 : Dq cX5_take 41 (.invokevirtual 118) 3 44 := ⟨by decide +kernel, rfl⟩
theorem qX5_take_44 : Dq cX5_take 44 (.ifCond .ne 7) 3 47 := ⟨by decide +kernel, rfl⟩
theorem qX5_take_47 : Dq cX5_take 47 (.iconst 1) 1 48 := ⟨by decide +kernel, rfl⟩
theorem qX5_take_48 : Dq cX5_take 48 (.goto 4) 3 51 := ⟨by decide +kernel, rfl⟩
theorem qX5_take_51 : Dq cX5_take 51 (.iconst 0) 1 52 := ⟨by decide +kernel, rfl⟩
theorem qX5_take_52 : Dq cX5_take 52 (.invokevirtual 122) 3 55 := ⟨by decide +kernel, rfl⟩
theorem qX5_take_55 : Dq cX5_take 55 (.goto 39) 3 58 := ⟨by decide +kernel, rfl⟩
theorem qX5_take_58 : Dq cX5_take 58 (.iload_n 1) 1 59 := ⟨by decide +kernel, rfl⟩
theorem qX5_take_59 : Dq cX5_take 59 (.bipush (-15)) 2 61 := ⟨by decide +kernel, rfl⟩
theorem qX5_take_61 : Dq cX5_take 61 (.if_icmp .ne 15) 3 64 := ⟨by decide +kernel, rfl⟩
theorem qX5_take_64 : Dq cX5_take 64 (.aload_n 0) 1 65 := ⟨by decide +kernel, rfl⟩
theorem qX5_take_65 : Dq cX5_take 65 (.aload_n 0) 1 66 := ⟨by decide +kernel, rfl⟩
theorem qX5_take_66 : Dq cX5_take 66 (.invokevirtual 118) 3 69 := ⟨by decide +kernel, rfl⟩
theorem qX5_take_69 : Dq cX5_take 69 (.ineg) 1 70 := ⟨by decide +kernel, rfl⟩
theorem qX5_take_70 : Dq cX5_take 70 (.invokevirtual 122) 3 73 := ⟨by decide +kernel, rfl⟩
theorem qX5_take_73 : Dq cX5_take 73 (.goto 21) 3 76 := ⟨by decide +kernel, rfl⟩
theorem qX5_take_76 : Dq cX5_take 76 (.aload_n 0) 1 77 := ⟨by decide +kernel, rfl⟩
theorem qX5_take_77 : Dq cX5_take 77 (.invokevirtual 118) 3 80 := ⟨by decide +kernel, rfl⟩
theorem qX5_take_80 : Dq cX5_take 80 (.istore_n 2) 1 81 := ⟨by decide +kernel, rfl⟩
theorem qX5_take_81 : Dq cX5_take 81 (.aload_n 0) 1 82 := ⟨by decide +kernel, rfl⟩
theorem qX5_take_82 : Dq cX5_take 82 (.iload_n 1) 1 83 := ⟨by decide +kernel, rfl⟩
theorem qX5_take_83 : Dq cX5_take 83 (.aload_n 0) 1 84 := ⟨by decide +kernel, rfl⟩
theorem qX5_take_84 : Dq cX5_take 84 (.invokevirtual 118) 3 87 := ⟨by decide +kernel, rfl⟩
theorem qX5_take_87 : Dq cX5_take 87 (.iload_n 2) 1 88 := ⟨by decide +kernel, rfl⟩
theorem qX5_take_88 : Dq cX5_take 88 (.invokestatic 125) 3 91 := ⟨by decide +kernel, rfl⟩
theorem qX5_take_91 : Dq cX5_take 91 (.invokevirtual 122) 3 94 := ⟨by decide +kernel, rfl⟩
theorem qX5_take_94 : Dq cX5_take 94 (.return_) 1 95 := ⟨by decide +kernel, rfl⟩
set_option maxRecDepth 100000 in
set_option maxHeartbeats 4000000 in
theorem c_take {G : Glb} {h : AHp} (hs : ShC h) {s : List Int32} (hst : Stk h s) {s' : List Int32} {env : Nat → Int32} {c : Int32} (hnm6 : ∀ k, k < 6 → hpI h 20 k = env k) (hev : ev1 env c s = some s') : CP G m_X5_take 2 0 0 [.ref 17, .int c] h (fun r h' => r = none ∧ ∃ σ, h' = (σ, h.2) ∧ FrS h σ ∧ Stk (σ, h.2) s') := by
  suffices key : ∀ P : Option Value → AHp → Prop, (∀ r h', (r = none ∧ ∃ σ, h' = (σ, h.2) ∧ FrS h σ ∧ Stk (σ, h.2) s') → P r h') → CP G m_X5_take 2 0 0 [.ref 17, .int c] h P from key _ (fun _ _ z => z)
  intro P hP
  refine CP.of (by decide +kernel) (Nat.le_of_ble_eq_true rfl) fun X hX hR hnm => ?_
  show V X G 3 0 0 _ 0 [some (.ref 17), some (.int c), none] [] h
  refine v_iload_n hX rfl qX5_take_0 ?_
  refine v_if_ltS hX 12 qX5_take_1 rfl (fun q1 => ?_) (fun q1 => ?_)
  · skip
    refine v_iload_n hX rfl qX5_take_12 ?_
    refine v_bipush hX lb_n6 qX5_take_13 ?_
    refine v_icmp_ltS hX 33 qX5_take_15 rfl (fun q15 => ?_) (fun q15 => ?_)
    · skip
      refine v_iload_n hX rfl qX5_take_33 ?_
      refine v_bipush hX lb_n9 qX5_take_34 ?_
      refine v_icmp_ne hX 58 qX5_take_36 rfl (fun q36 => ?_) (fun q36 => ?_)
      · skip
        refine v_iload_n hX rfl qX5_take_58 ?_
        refine v_bipush hX lb_n15 qX5_take_59 ?_
        refine v_icmp_ne hX 76 qX5_take_61 rfl (fun q61 => ?_) (fun q61 => ?_)
        · obtain ⟨r, l, t, hs1, hs'⟩ := ev1_two hev q1 q15 q36 q61; subst hs1; subst hs'; have hst2 := hst.pop; have hst3 := hst2.pop; have hl : t.length < 31 := by have := hst.2.1; simp at this; omega
          have hfin := hst3.push (joinI c l r) hl
          refine v_aload_n hX rfl qX5_take_76 ?_
          refine v_callVq hX hR k_X5_118 (hs.kd 17 rfl) (c_pop (by exact hs) (by assumption)) rfl (Nat.le_of_ble_eq_true rfl) rfl (Nat.le_of_ble_eq_true rfl) ⟨Nat.le_of_ble_eq_true rfl, Nat.le_of_ble_eq_true rfl⟩ qX5_take_77 ?_
          rintro _ _ ⟨rfl, rfl⟩
          refine v_istore_n hX (Nat.le_of_ble_eq_true rfl) rfl (ls' := [some _, some _, some _]) rfl qX5_take_80 ?_
          refine v_aload_n hX rfl qX5_take_81 ?_
          refine v_iload_n hX rfl qX5_take_82 ?_
          refine v_aload_n hX rfl qX5_take_83 ?_
          refine v_callVq hX hR k_X5_118 (hs.kd 17 rfl) (c_pop (by exact hs) (by assumption)) rfl (Nat.le_of_ble_eq_true rfl) rfl (Nat.le_of_ble_eq_true rfl) ⟨Nat.le_of_ble_eq_true rfl, Nat.le_of_ble_eq_true rfl⟩ qX5_take_84 ?_
          rintro _ _ ⟨rfl, rfl⟩
          refine v_iload_n hX rfl qX5_take_87 ?_
          refine v_callSq hX hR k_X5_125 (c_joined _ _ _) rfl (Nat.le_of_ble_eq_true rfl) rfl (Nat.le_of_ble_eq_true rfl) ⟨Nat.le_of_ble_eq_true rfl, Nat.le_of_ble_eq_true rfl⟩ qX5_take_88 ?_
          rintro _ _ ⟨rfl, rfl⟩
          refine v_callVq hX hR k_X5_122 (hs.kd 17 rfl) (c_push (by exact hs) (by assumption) (by assumption) _) rfl (Nat.le_of_ble_eq_true rfl) rfl (Nat.le_of_ble_eq_true rfl) ⟨Nat.le_of_ble_eq_true rfl, Nat.le_of_ble_eq_true rfl⟩ qX5_take_91 ?_
          rintro _ _ ⟨rfl, rfl⟩
          refine v_return hX qX5_take_94 (hP _ _ ?_)
          refine ⟨rfl, _, rfl, fun a k h1 h2 => ?_, hfin⟩
          show hpI (stI _ _ _ _) _ _ = _
          simp [hpI_st, h1, h2]
        · obtain ⟨v, t, hs1, hs'⟩ := ev1_neg hev q61; subst hs1; subst hs'; have hst2 := hst.pop; have hl : t.length < 31 := by have := hst.2.1; simp at this; omega
          have hfin := hst2.push (-v) hl
          refine v_aload_n hX rfl qX5_take_64 ?_
          refine v_aload_n hX rfl qX5_take_65 ?_
          refine v_callVq hX hR k_X5_118 (hs.kd 17 rfl) (c_pop (by exact hs) (by assumption)) rfl (Nat.le_of_ble_eq_true rfl) rfl (Nat.le_of_ble_eq_true rfl) ⟨Nat.le_of_ble_eq_true rfl, Nat.le_of_ble_eq_true rfl⟩ qX5_take_66 ?_
          rintro _ _ ⟨rfl, rfl⟩
          refine v_ineg hX qX5_take_69 ?_
          refine v_callVq hX hR k_X5_122 (hs.kd 17 rfl) (c_push (by exact hs) (by assumption) (by assumption) _) rfl (Nat.le_of_ble_eq_true rfl) rfl (Nat.le_of_ble_eq_true rfl) ⟨Nat.le_of_ble_eq_true rfl, Nat.le_of_ble_eq_true rfl⟩ qX5_take_70 ?_
          rintro _ _ ⟨rfl, rfl⟩
          refine v_goto hX 94 qX5_take_73 rfl ?_
          refine v_return hX qX5_take_94 (hP _ _ ?_)
          refine ⟨rfl, _, rfl, fun a k h1 h2 => ?_, hfin⟩
          show hpI (stI _ _ _ _) _ _ = _
          simp [hpI_st, h1, h2]
      · obtain ⟨v, t, hs1, hs'⟩ := ev1_not hev q36; subst hs1; subst hs'; have hst2 := hst.pop; have hl : t.length < 31 := by have := hst.2.1; simp at this; omega
        refine v_aload_n hX rfl qX5_take_39 ?_
        refine v_aload_n hX rfl qX5_take_40 ?_
        refine v_callVq hX hR k_X5_118 (hs.kd 17 rfl) (c_pop (by exact hs) (by assumption)) rfl (Nat.le_of_ble_eq_true rfl) rfl (Nat.le_of_ble_eq_true rfl) ⟨Nat.le_of_ble_eq_true rfl, Nat.le_of_ble_eq_true rfl⟩ qX5_take_41 ?_
        rintro _ _ ⟨rfl, rfl⟩
        first | refine v_if_neB hX 51 qX5_take_44 rfl (fun q44 => ?_) (fun q44 => ?_) | refine v_if_ne hX 51 qX5_take_44 rfl (fun q44 => ?_) (fun q44 => ?_)
        · have hfin := hst2.push 0 hl; rw [show bz (v = 0) = 0 from bz_f q44] at hP
          refine v_iconst hX li_0 qX5_take_51 ?_
          refine v_callVq hX hR k_X5_122 (hs.kd 17 rfl) (c_push (by exact hs) (by assumption) (by assumption) _) rfl (Nat.le_of_ble_eq_true rfl) rfl (Nat.le_of_ble_eq_true rfl) ⟨Nat.le_of_ble_eq_true rfl, Nat.le_of_ble_eq_true rfl⟩ qX5_take_52 ?_
          rintro _ _ ⟨rfl, rfl⟩
          refine v_goto hX 94 qX5_take_55 rfl ?_
          refine v_return hX qX5_take_94 (hP _ _ ?_)
          refine ⟨rfl, _, rfl, fun a k h1 h2 => ?_, hfin⟩
          show hpI (stI _ _ _ _) _ _ = _
          simp [hpI_st, h1, h2]
        · have hfin := hst2.push 1 hl; rw [show bz (v = 0) = 1 from bz_t q44] at hP
          refine v_iconst hX li_1 qX5_take_47 ?_
          refine v_goto hX 52 qX5_take_48 rfl ?_
          refine v_callVq hX hR k_X5_122 (hs.kd 17 rfl) (c_push (by exact hs) (by assumption) (by assumption) _) rfl (Nat.le_of_ble_eq_true rfl) rfl (Nat.le_of_ble_eq_true rfl) ⟨Nat.le_of_ble_eq_true rfl, Nat.le_of_ble_eq_true rfl⟩ qX5_take_52 ?_
          rintro _ _ ⟨rfl, rfl⟩
          refine v_goto hX 94 qX5_take_55 rfl ?_
          refine v_return hX qX5_take_94 (hP _ _ ?_)
          refine ⟨rfl, _, rfl, fun a k h1 h2 => ?_, hfin⟩
          show hpI (stI _ _ _ _) _ _ = _
          simp [hpI_st, h1, h2]
    · obtain ⟨hl, hs'⟩ := ev1_name hev q1 q15; subst hs'; have hfin := hst.push (env (tn (-1 - c))) hl
      refine v_aload_n hX rfl qX5_take_18 ?_
      refine v_aload_n hX rfl qX5_take_19 ?_
      refine v_getR hX g_X5_18 (hs.kd 17 rfl) (hs.rf 21 rfl) qX5_take_20 ?_
      refine v_iconst hX li_n1 qX5_take_23 ?_
      refine v_iload_n hX rfl qX5_take_24 ?_
      refine v_isub hX qX5_take_25 ?_
      refine v_ialdV hX (hs.kd 20 rfl) (hs.ln 20 rfl) (by exact ixNm q15 q1) (hnm6 _ (ixNm q15 q1).2.2) qX5_take_26 ?_
      refine v_callVq hX hR k_X5_122 (hs.kd 17 rfl) (c_push (by exact hs) (by assumption) (by assumption) _) rfl (Nat.le_of_ble_eq_true rfl) rfl (Nat.le_of_ble_eq_true rfl) ⟨Nat.le_of_ble_eq_true rfl, Nat.le_of_ble_eq_true rfl⟩ qX5_take_27 ?_
      rintro _ _ ⟨rfl, rfl⟩
      refine v_goto hX 94 qX5_take_30 rfl ?_
      refine v_return hX qX5_take_94 (hP _ _ ?_)
      refine ⟨rfl, _, rfl, fun a k h1 h2 => ?_, hfin⟩
      show hpI (stI _ _ _ _) _ _ = _
      simp [hpI_st, h1, h2]
  · obtain ⟨hl, hs'⟩ := ev1_num hev q1; subst hs'; have hfin := hst.push c hl
    refine v_aload_n hX rfl qX5_take_4 ?_
    refine v_iload_n hX rfl qX5_take_5 ?_
    refine v_callVq hX hR k_X5_122 (hs.kd 17 rfl) (c_push (by exact hs) (by assumption) (by assumption) _) rfl (Nat.le_of_ble_eq_true rfl) rfl (Nat.le_of_ble_eq_true rfl) ⟨Nat.le_of_ble_eq_true rfl, Nat.le_of_ble_eq_true rfl⟩ qX5_take_6 ?_
    rintro _ _ ⟨rfl, rfl⟩
    refine v_goto hX 94 qX5_take_9 rfl ?_
    refine v_return hX qX5_take_94 (hP _ _ ?_)
    refine ⟨rfl, _, rfl, fun a k h1 h2 => ?_, hfin⟩
    show hpI (stI _ _ _ _) _ _ = _
    simp [hpI_st, h1, h2]
