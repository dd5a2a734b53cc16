/-! the parser of the class: its small steps; what a reader owes -/
/-- the tape's tokens: kinds K, worths W, places P, n of them; the text is sz long -/
def TkC (K W : Nat → Int32) (Pl : Nat → Nat) (n sz : Nat) (h : AHp) : Prop := hpI h 11 6 = nI n ∧ n ≤ 160 ∧ hpI h 11 1 = nI sz ∧ (∀ i, i < n → hpI h 13 i = K i ∧ hpI h 14 i = W i ∧ hpI h 15 i = nI (Pl i)) ∧ ∀ i, n ≤ i → K i = 0 ∧ Pl i = sz
/-- what reading leaves alone -/
def FrA (h : AHp) (σ : Nat → Nat → Int32) : Prop := ∀ a k, ¬ a = 16 → ¬ (a = 11 ∧ (k = 2 ∨ k = 7 ∨ k = 8 ∨ k = 9 ∨ k = 11)) → σ a k = hpI h a k
theorem FrA.tr {h : AHp} {σ σ' : Nat → Nat → Int32} (a : FrA h σ) (b : FrA (σ, h.2) σ') : FrA h σ' := fun x k h1 h2 => (b x k h1 h2).trans (a x k h1 h2)
theorem TkC.fr {K W : Nat → Int32} {Pl : Nat → Nat} {n sz : Nat} {h : AHp} (ht : TkC K W Pl n sz h) {σ : Nat → Nat → Int32} (hf : FrA h σ) : TkC K W Pl n sz (σ, h.2) := ⟨(hf 11 6 (by omega) (by omega)).trans ht.1, ht.2.1, (hf 11 1 (by omega) (by omega)).trans ht.2.2.1, fun i hi => ⟨(hf 13 i (by omega) (by omega)).trans (ht.2.2.2.1 i hi).1, (hf 14 i (by omega) (by omega)).trans (ht.2.2.2.1 i hi).2.1, (hf 15 i (by omega) (by omega)).trans (ht.2.2.2.1 i hi).2.2⟩, ht.2.2.2.2⟩
def CodeAt (σ : Nat → Nat → Int32) (c : Nat) (cs : List Int32) : Prop := ∀ q y, cs[q]? = some y → σ 16 (c + q) = y
/-- the parser at token j with o open, cs written from c on -/
def StP (K : Nat → Int32) (h : AHp) (o c : Nat) (σ : Nat → Nat → Int32) (j : Nat) (cs : List Int32) : Prop := FrA h σ ∧ σ 11 7 = nI j ∧ σ 11 8 = K j ∧ σ 11 9 = nI o ∧ σ 11 11 = nI (c + cs.length) ∧ CodeAt σ c cs ∧ ∀ k, k < c → σ 16 k = hpI h 16 k
section STP
variable {K : Nat → Int32} {h : AHp} {o c j : Nat} {σ : Nat → Nat → Int32} {cs : List Int32}
theorem StP.at (hp : StP K h o c σ j cs) : StP K (σ, h.2) o (c + cs.length) σ j [] := ⟨fun _ _ _ _ => rfl, hp.2.1, hp.2.2.1, hp.2.2.2.1, hp.2.2.2.2.1, (by intro q y z; simp at z), fun _ _ => rfl⟩
theorem StP.go (hp : StP K h o c σ j cs) (i : Nat) : StP K h o c (stI (stI (σ, h.2) 11 7 (nI i)) 11 8 (K i)).1 i cs := by
  obtain ⟨h1, h2, h3, h4, h5, h6, h7⟩ := hp
  refine ⟨fun a k a1 a2 => ?_, rfl, rfl, h4, h5, fun q y z => h6 q y z, fun k hk => h7 k hk⟩
  show hpI (stI _ _ _ _) _ _ = _
  rw [hpI_st, if_neg (by omega), hpI_st, if_neg (by omega)]
  exact h1 a k a1 a2
theorem StP.opn (hp : StP K h o c σ j cs) (o' : Nat) : StP K h o' c (stI (σ, h.2) 11 9 (nI o')).1 j cs := by
  obtain ⟨h1, h2, h3, h4, h5, h6, h7⟩ := hp
  refine ⟨fun a k a1 a2 => ?_, h2, h3, rfl, h5, fun q y z => h6 q y z, fun k hk => h7 k hk⟩
  show hpI (stI _ _ _ _) _ _ = _
  rw [hpI_st, if_neg (by omega)]
  exact h1 a k a1 a2
theorem StP.emit (hp : StP K h o c σ j cs) (x : Int32) : StP K h o c (stI (stI (σ, h.2) 16 (c + cs.length) x) 11 11 (nI (c + cs.length + 1))).1 j (cs ++ [x]) := by
  obtain ⟨h1, h2, h3, h4, h5, h6, h7⟩ := hp
  have e16 : ∀ k, (stI (stI (σ, h.2) 16 (c + cs.length) x) 11 11 (nI (c + cs.length + 1))).1 16 k = if k = c + cs.length then x else σ 16 k := fun k => by
    show hpI (stI _ _ _ _) _ _ = _
    rw [hpI_st, if_neg (by omega), hpI_st]
    by_cases e : k = c + cs.length
    · rw [if_pos ⟨rfl, e⟩, if_pos e]
    · rw [if_neg (fun z => e z.2), if_neg e]
      rfl
  refine ⟨fun a k a1 a2 => ?_, h2, h3, h4, ?_, fun q y z => ?_, fun k hk => ?_⟩
  · show hpI (stI _ _ _ _) _ _ = _
    rw [hpI_st, if_neg (by omega), hpI_st, if_neg (by omega)]
    exact h1 a k a1 a2
  · show nI (c + cs.length + 1) = nI (c + (cs ++ [x]).length)
    rw [List.length_append]; rfl
  · rw [e16]
    by_cases e : q = cs.length
    · subst e
      rw [if_pos rfl]
      rw [List.getElem?_append_right (Nat.le_refl _), Nat.sub_self] at z
      exact Option.some.inj z
    · have hq : q < cs.length := by
        have := (List.getElem?_eq_some_iff.mp z).1
        rw [List.length_append] at this
        have e1 : [x].length = 1 := rfl
        omega
      rw [if_neg (by omega)]
      rw [List.getElem?_append_left hq] at z
      exact h6 q y z
  · rw [e16, if_neg (by omega)]; exact h7 k hk
theorem StP.sub (hp : StP K h o c σ j cs) {σ2 : Nat → Nat → Int32} {j2 : Nat} {cs2 : List Int32} (h2 : StP K (σ, h.2) o (c + cs.length) σ2 j2 cs2) : StP K h o c σ2 j2 (cs ++ cs2) := by
  obtain ⟨g1, g2, g3, g4, g5, g6, g7⟩ := h2
  obtain ⟨h1, -, -, -, -, h6, h7⟩ := hp
  refine ⟨h1.tr g1, g2, g3, g4, ?_, fun q y z => ?_, fun k hk => (g7 k (by omega)).trans (h7 k hk)⟩
  · rw [g5, List.length_append, Nat.add_assoc]
  · by_cases hq : q < cs.length
    · rw [List.getElem?_append_left hq] at z
      exact (g7 (c + q) (by omega)).trans (h6 q y z)
    · rw [List.getElem?_append_right (by omega)] at z
      have := g6 (q - cs.length) y z
      rwa [show c + cs.length + (q - cs.length) = c + q by omega] at this
end STP
/-- the answer of a reader -/
def PoR (K : Nat → Int32) (Pl : Nat → Nat) (h : AHp) (o c : Nat) (σ : Nat → Nat → Int32) (x : Int32) : PR → Prop
  | .inl f => x = 0 ∧ FrA h σ ∧ σ 11 2 = nI (Pl f)
  | .inr (j, cs, _) => x = 1 ∧ StP K h o c σ j cs
def CSub (G : Glb) (K W : Nat → Int32) (Pl : Nat → Nat) (n sz : Nat) (m : Mth) (d o : Nat) (sub : Nat → PR) : Prop := ∀ h i c, ShC h → TkC K W Pl n sz h → StP K h o c h.1 i [] → i ≤ n → c ≤ i → CP G m d 0 0 [.ref 11] h (fun r h' => ∃ σ x, r = some (.int x) ∧ h' = (σ, h.2) ∧ PoR K Pl h o c σ x (sub i))
theorem PoR.b {K : Nat → Int32} {Pl : Nat → Nat} {h : AHp} {o c : Nat} {σ : Nat → Nat → Int32} {x : Int32} {r : PR} (hp : PoR K Pl h o c σ x r) : x = 0 ∨ x = 1 := by
  rcases r with f | ⟨j, cs, v⟩
  · exact Or.inl hp.1
  · exact Or.inr hp.1
def CSubL (G : Glb) (K W : Nat → Int32) (Pl : Nat → Nat) (n sz : Nat) (m : Mth) (d o : Nat) (sub : Nat → PR) : Prop := ∀ h i c, ShC h → TkC K W Pl n sz h → StP K h o c h.1 i [] → i ≤ n → c ≤ i → i < n → CP G m d 0 0 [.ref 11] h (fun r h' => ∃ σ x, r = some (.int x) ∧ h' = (σ, h.2) ∧ PoR K Pl h o c σ x (sub i))
theorem PoR.of {K : Nat → Int32} {Pl : Nat → Nat} {h : AHp} {o c : Nat} {σ : Nat → Nat → Int32} {x : Int32} {r r' : PR} (hp : PoR K Pl h o c σ x r) (e : r' = r) : PoR K Pl h o c σ x r' := by rw [e]; exact hp
theorem qX10_goTo_0 : Dq cX10_goTo 0 (.aload_n 0) 1 1 := ⟨by decide +kernel, rfl⟩
theorem qX10_goTo_1 : Dq cX10_goTo 1 (.iload_n 1) 1 2 := ⟨by decide +kernel, rfl⟩
theorem qX10_goTo_2 : Dq cX10_goTo 2 (.putfield 74) 3 5 := ⟨by decide +kernel, rfl⟩
theorem qX10_goTo_5 : Dq cX10_goTo 5 (.aload_n 0) 1 6 := ⟨by decide +kernel, rfl⟩
theorem qX10_goTo_6 : Dq cX10_goTo 6 (.iload_n 1) 1 7 := ⟨by decide +kernel, rfl⟩
theorem qX10_goTo_7 : Dq cX10_goTo 7 (.iconst 0) 1 8 := ⟨by decide +kernel, rfl⟩
theorem qX10_goTo_8 : Dq cX10_goTo 8 (.aload_n 0) 1 9 := ⟨by decide +kernel, rfl⟩
theorem qX10_goTo_9 : Dq cX10_goTo 9 (.getfield 113) 3 12 := ⟨by decide +kernel, rfl⟩
theorem qX10_goTo_12 : Dq cX10_goTo 12 (.iconst 1) 1 13 := ⟨by decide +kernel, rfl⟩
theorem qX10_goTo_13 : Dq cX10_goTo 13 (.isub) 1 14 := ⟨by decide +kernel, rfl⟩
theorem qX10_goTo_14 : Dq cX10_goTo 14 (.invokestatic 31) 3 17 := ⟨by decide +kernel, rfl⟩
theorem qX10_goTo_17 : Dq cX10_goTo 17 (.ifCond .eq 12) 3 20 := ⟨by decide +kernel, rfl⟩
theorem qX10_goTo_20 : Dq cX10_goTo 20 (.aload_n 0) 1 21 := ⟨by decide +kernel, rfl⟩
theorem qX10_goTo_21 : Dq cX10_goTo 21 (.getfield 15) 3 24 := ⟨by decide +kernel, rfl⟩
theorem qX10_goTo_24 : Dq cX10_goTo 24 (.iload_n 1) 1 25 := ⟨by decide +kernel, rfl⟩
theorem qX10_goTo_25 : Dq cX10_goTo 25 (.iaload) 1 26 := ⟨by decide +kernel, rfl⟩
theorem qX10_goTo_26 : Dq cX10_goTo 26 (.goto 4) 3 29 := ⟨by decide +kernel, rfl⟩
theorem qX10_goTo_29 : Dq cX10_goTo 29 (.iconst 0) 1 30 := ⟨by decide +kernel, rfl⟩
theorem qX10_goTo_30 : Dq cX10_goTo 30 (.putfield 71) 3 33 := ⟨by decide +kernel, rfl⟩
theorem qX10_goTo_33 : Dq cX10_goTo 33 (.return_) 1 34 := ⟨by decide +kernel, rfl⟩
set_option maxRecDepth 100000 in
set_option maxHeartbeats 4000000 in
theorem c_goTo {G : Glb} {h : AHp} (hs : ShC h) {K W : Nat → Int32} {Pl : Nat → Nat} {n sz : Nat} (ht : TkC K W Pl n sz h) {i : Nat} (hi : i ≤ n + 1) : CP G m_X10_goTo 2 0 0 [.ref 11, .int (nI i)] h (fun r h' => r = none ∧ stI (stI h 11 7 (nI i)) 11 8 (K i) = h') := by
  suffices key : ∀ P : Option Value → AHp → Prop, (∀ r h', (r = none ∧ stI (stI h 11 7 (nI i)) 11 8 (K i) = h') → P r h') → CP G m_X10_goTo 2 0 0 [.ref 11, .int (nI i)] h P from key _ (fun _ _ z => z)
  intro P hP
  refine CP.of (by decide +kernel) (Nat.le_of_ble_eq_true rfl) fun X hX hR hnm => ?_
  show V X G 2 0 0 _ 0 [some (.ref 11), some (.int (nI i))] [] h
  have hn := ht.2.1
  refine v_aload_n hX rfl qX10_goTo_0 ?_
  refine v_iload_n hX rfl qX10_goTo_1 ?_
  refine v_putI hX p_X10_74 (hs.kd 11 rfl) (Or.inl rfl) qX10_goTo_2 ?_
  refine v_aload_n hX rfl qX10_goTo_5 ?_
  refine v_iload_n hX rfl qX10_goTo_6 ?_
  refine v_iconst hX li_0 qX10_goTo_7 ?_
  refine v_aload_n hX rfl qX10_goTo_8 ?_
  refine v_getIv hX g_X10_113 (Or.inl rfl) (hs.kd 11 rfl) (show _ = nI n from ht.1) qX10_goTo_9 ?_
  refine v_iconst hX li_1 qX10_goTo_12 ?_
  refine v_isub hX qX10_goTo_13 ?_
  refine v_callNq hX hR k_X10_31 (c_isWithin _ _ _) rfl (Nat.le_of_ble_eq_true rfl) rfl (Nat.le_of_ble_eq_true rfl) ⟨Nat.le_of_ble_eq_true rfl, Nat.le_of_ble_eq_true rfl⟩ qX10_goTo_14 ?_
  rintro _ _ ⟨rfl, rfl⟩
  first | refine v_if_eqB hX 29 qX10_goTo_17 rfl (fun q17 => ?_) (fun q17 => ?_) | refine v_if_eq hX 29 qX10_goTo_17 rfl (fun q17 => ?_) (fun q17 => ?_)
  · have hno : n ≤ i := Nat.le_of_not_lt fun z => q17 ⟨nI_pos' (by omega), (leM1 (by omega)).mpr (nI_lt z (by omega))⟩
    refine v_iconst hX li_0 qX10_goTo_29 ?_
    refine v_eqI (show _ = K i by first | rfl | exact (ht.2.2.2.2 i hno).1.symm) ?_
    refine v_putI hX p_X10_71 (hs.kd 11 rfl) (Or.inl rfl) qX10_goTo_30 ?_
    refine v_return hX qX10_goTo_33 (hP _ _ ?_)
    exact ⟨rfl, rfl⟩
  · have hyes : i < n := nI_lt' (by omega) (by omega) ((leM1 (by omega)).mp q17.2)
    refine v_aload_n hX rfl qX10_goTo_20 ?_
    refine v_getR hX g_X10_15 (hs.kd 11 rfl) (hs.rf 15 rfl) qX10_goTo_21 ?_
    refine v_iload_n hX rfl qX10_goTo_24 ?_
    refine v_ialdV hX (hs.kd 13 rfl) (hs.ln 13 rfl) (by exact ix_n (n := i) (by omega) rfl) (show _ = K i from (ht.2.2.2.1 i hyes).1) qX10_goTo_25 ?_
    refine v_goto hX 30 qX10_goTo_26 rfl ?_
    refine v_eqI (show _ = K i by first | rfl | exact (ht.2.2.2.2 i hno).1.symm) ?_
    refine v_putI hX p_X10_71 (hs.kd 11 rfl) (Or.inl rfl) qX10_goTo_30 ?_
    refine v_return hX qX10_goTo_33 (hP _ _ ?_)
    exact ⟨rfl, rfl⟩
theorem qX10_refuse_0 : Dq cX10_refuse 0 (.aload_n 0) 1 1 := ⟨by decide +kernel, rfl⟩
theorem qX10_refuse_1 : Dq cX10_refuse 1 (.aload_n 0) 1 2 := ⟨by decide +kernel, rfl⟩
theorem qX10_refuse_2 : Dq cX10_refuse 2 (.getfield 74) 3 5 := ⟨by decide +kernel, rfl⟩
theorem qX10_refuse_5 : Dq cX10_refuse 5 (.iconst 0) 1 6 := ⟨by decide +kernel, rfl⟩
theorem qX10_refuse_6 : Dq cX10_refuse 6 (.aload_n 0) 1 7 := ⟨by decide +kernel, rfl⟩
theorem qX10_refuse_7 : Dq cX10_refuse 7 (.getfield 113) 3 10 := ⟨by decide +kernel, rfl⟩
theorem qX10_refuse_10 : Dq cX10_refuse 10 (.iconst 1) 1 11 := ⟨by decide +kernel, rfl⟩
theorem qX10_refuse_11 : Dq cX10_refuse 11 (.isub) 1 12 := ⟨by decide +kernel, rfl⟩
theorem qX10_refuse_12 : Dq cX10_refuse 12 (.invokestatic 31) 3 15 := ⟨by decide +kernel, rfl⟩
theorem qX10_refuse_15 : Dq cX10_refuse 15 (.ifCond .eq 15) 3 18 := ⟨by decide +kernel, rfl⟩
theorem qX10_refuse_18 : Dq cX10_refuse 18 (.aload_n 0) 1 19 := ⟨by decide +kernel, rfl⟩
theorem qX10_refuse_19 : Dq cX10_refuse 19 (.getfield 21) 3 22 := ⟨by decide +kernel, rfl⟩
theorem qX10_refuse_22 : Dq cX10_refuse 22 (.aload_n 0) 1 23 := ⟨by decide +kernel, rfl⟩
theorem qX10_refuse_23 : Dq cX10_refuse 23 (.getfield 74) 3 26 := ⟨by decide +kernel, rfl⟩
theorem qX10_refuse_26 : Dq cX10_refuse 26 (.iaload) 1 27 := ⟨by decide +kernel, rfl⟩
theorem qX10_refuse_27 : Dq cX10_refuse 27 (.goto 7) 3 30 := ⟨by decide +kernel, rfl⟩
theorem qX10_refuse_30 : Dq cX10_refuse 30 (.aload_n 0) 1 31 := ⟨by decide +kernel, rfl⟩
theorem qX10_refuse_31 : Dq cX10_refuse 31 (.getfield 27) 3 34 := ⟨by decide +kernel, rfl⟩
theorem qX10_refuse_34 : Dq cX10_refuse 34 (.putfield 38) 3 37 := ⟨by decide +kernel, rfl⟩
theorem qX10_refuse_37 : Dq cX10_refuse 37 (.iconst 0) 1 38 := ⟨by decide +kernel, rfl⟩
theorem qX10_refuse_38 : Dq cX10_refuse 38 (.ireturn) 1 39 := ⟨by decide +kernel, rfl⟩
set_option maxRecDepth 100000 in
set_option maxHeartbeats 4000000 in
theorem c_refuse {G : Glb} {h : AHp} (hs : ShC h) {K W : Nat → Int32} {Pl : Nat → Nat} {n sz : Nat} (ht : TkC K W Pl n sz h) {i : Nat} (hi : i ≤ n) (h7 : hpI h 11 7 = nI i) : CP G m_X10_refuse 2 0 0 [.ref 11] h (fun r h' => r = some (.int 0) ∧ stI h 11 2 (nI (Pl i)) = h') := by
  suffices key : ∀ P : Option Value → AHp → Prop, (∀ r h', (r = some (.int 0) ∧ stI h 11 2 (nI (Pl i)) = h') → P r h') → CP G m_X10_refuse 2 0 0 [.ref 11] h P from key _ (fun _ _ z => z)
  intro P hP
  refine CP.of (by decide +kernel) (Nat.le_of_ble_eq_true rfl) fun X hX hR hnm => ?_
  show V X G 1 0 0 _ 0 [some (.ref 11)] [] h
  have hn := ht.2.1
  refine v_aload_n hX rfl qX10_refuse_0 ?_
  refine v_aload_n hX rfl qX10_refuse_1 ?_
  refine v_getIv hX g_X10_74 (Or.inl rfl) (hs.kd 11 rfl) h7 qX10_refuse_2 ?_
  refine v_iconst hX li_0 qX10_refuse_5 ?_
  refine v_aload_n hX rfl qX10_refuse_6 ?_
  refine v_getIv hX g_X10_113 (Or.inl rfl) (hs.kd 11 rfl) ht.1 qX10_refuse_7 ?_
  refine v_iconst hX li_1 qX10_refuse_10 ?_
  refine v_isub hX qX10_refuse_11 ?_
  refine v_callNq hX hR k_X10_31 (c_isWithin _ _ _) rfl (Nat.le_of_ble_eq_true rfl) rfl (Nat.le_of_ble_eq_true rfl) ⟨Nat.le_of_ble_eq_true rfl, Nat.le_of_ble_eq_true rfl⟩ qX10_refuse_12 ?_
  rintro _ _ ⟨rfl, rfl⟩
  first | refine v_if_eqB hX 30 qX10_refuse_15 rfl (fun q15 => ?_) (fun q15 => ?_) | refine v_if_eq hX 30 qX10_refuse_15 rfl (fun q15 => ?_) (fun q15 => ?_)
  · have hno : n ≤ i := Nat.le_of_not_lt fun z => q15 ⟨nI_pos' (by omega), (leM1 (by omega)).mpr (nI_lt z (by omega))⟩
    refine v_aload_n hX rfl qX10_refuse_30 ?_
    refine v_getIv hX g_X10_27 (Or.inl rfl) (hs.kd 11 rfl) ht.2.2.1 qX10_refuse_31 ?_
    refine v_eqI (show _ = nI (Pl i) by first | rfl | rw [(ht.2.2.2.2 i hno).2]) ?_
    refine v_putI hX p_X10_38 (hs.kd 11 rfl) (Or.inl rfl) qX10_refuse_34 ?_
    refine v_iconst hX li_0 qX10_refuse_37 ?_
    refine v_zreturn hX (by first | exact Or.inl rfl | exact Or.inr rfl | exact bz01 _) qX10_refuse_38 (hP _ _ ?_)
    exact ⟨rfl, rfl⟩
  · have hyes : i < n := nI_lt' (by omega) (by omega) ((leM1 (by omega)).mp q15.2)
    refine v_aload_n hX rfl qX10_refuse_18 ?_
    refine v_getR hX g_X10_21 (hs.kd 11 rfl) (hs.rf 17 rfl) qX10_refuse_19 ?_
    refine v_aload_n hX rfl qX10_refuse_22 ?_
    refine v_getIv hX g_X10_74 (Or.inl rfl) (hs.kd 11 rfl) h7 qX10_refuse_23 ?_
    refine v_ialdV hX (hs.kd 15 rfl) (hs.ln 15 rfl) (by exact ix_n (n := i) (by omega) rfl) (ht.2.2.2.1 i hyes).2.2 qX10_refuse_26 ?_
    refine v_goto hX 34 qX10_refuse_27 rfl ?_
    refine v_eqI (show _ = nI (Pl i) by first | rfl | rw [(ht.2.2.2.2 i hno).2]) ?_
    refine v_putI hX p_X10_38 (hs.kd 11 rfl) (Or.inl rfl) qX10_refuse_34 ?_
    refine v_iconst hX li_0 qX10_refuse_37 ?_
    refine v_zreturn hX (by first | exact Or.inl rfl | exact Or.inr rfl | exact bz01 _) qX10_refuse_38 (hP _ _ ?_)
    exact ⟨rfl, rfl⟩
theorem qX10_worthHere_0 : Dq cX10_worthHere 0 (.aload_n 0) 1 1 := ⟨by decide +kernel, rfl⟩
theorem qX10_worthHere_1 : Dq cX10_worthHere 1 (.getfield 74) 3 4 := ⟨by decide +kernel, rfl⟩
theorem qX10_worthHere_4 : Dq cX10_worthHere 4 (.iconst 0) 1 5 := ⟨by decide +kernel, rfl⟩
theorem qX10_worthHere_5 : Dq cX10_worthHere 5 (.aload_n 0) 1 6 := ⟨by decide +kernel, rfl⟩
theorem qX10_worthHere_6 : Dq cX10_worthHere 6 (.getfield 113) 3 9 := ⟨by decide +kernel, rfl⟩
theorem qX10_worthHere_9 : Dq cX10_worthHere 9 (.iconst 1) 1 10 := ⟨by decide +kernel, rfl⟩
theorem qX10_worthHere_10 : Dq cX10_worthHere 10 (.isub) 1 11 := ⟨by decide +kernel, rfl⟩
theorem qX10_worthHere_11 : Dq cX10_worthHere 11 (.invokestatic 31) 3 14 := ⟨by decide +kernel, rfl⟩
theorem qX10_worthHere_14 : Dq cX10_worthHere 14 (.ifCond .eq 15) 3 17 := ⟨by decide +kernel, rfl⟩
theorem qX10_worthHere_17 : Dq cX10_worthHere 17 (.aload_n 0) 1 18 := ⟨by decide +kernel, rfl⟩
theorem qX10_worthHere_18 : Dq cX10_worthHere 18 (.getfield 18) 3 21 := ⟨by decide +kernel, rfl⟩
theorem qX10_worthHere_21 : Dq cX10_worthHere 21 (.aload_n 0) 1 22 := ⟨by decide +kernel, rfl⟩
theorem qX10_worthHere_22 : Dq cX10_worthHere 22 (.getfield 74) 3 25 := ⟨by decide +kernel, rfl⟩
theorem qX10_worthHere_25 : Dq cX10_worthHere 25 (.iaload) 1 26 := ⟨by decide +kernel, rfl⟩
theorem qX10_worthHere_26 : Dq cX10_worthHere 26 (.goto 4) 3 29 := ⟨by decide +kernel, rfl⟩
theorem qX10_worthHere_30 : Dq cX10_worthHere 30 (.ireturn) 1 31 := ⟨by decide +kernel, rfl⟩
set_option maxRecDepth 100000 in
set_option maxHeartbeats 4000000 in
theorem c_worthHere {G : Glb} {h : AHp} (hs : ShC h) {K W : Nat → Int32} {Pl : Nat → Nat} {n sz : Nat} (ht : TkC K W Pl n sz h) {i : Nat} (hi : i < n) (h7 : hpI h 11 7 = nI i) : CP G m_X10_worthHere 2 0 0 [.ref 11] h (fun r h' => r = some (.int (W i)) ∧ h = h') := by
  suffices key : ∀ P : Option Value → AHp → Prop, (∀ r h', (r = some (.int (W i)) ∧ h = h') → P r h') → CP G m_X10_worthHere 2 0 0 [.ref 11] h P from key _ (fun _ _ z => z)
  intro P hP
  refine CP.of (by decide +kernel) (Nat.le_of_ble_eq_true rfl) fun X hX hR hnm => ?_
  show V X G 1 0 0 _ 0 [some (.ref 11)] [] h
  have hn := ht.2.1
  refine v_aload_n hX rfl qX10_worthHere_0 ?_
  refine v_getIv hX g_X10_74 (Or.inl rfl) (hs.kd 11 rfl) h7 qX10_worthHere_1 ?_
  refine v_iconst hX li_0 qX10_worthHere_4 ?_
  refine v_aload_n hX rfl qX10_worthHere_5 ?_
  refine v_getIv hX g_X10_113 (Or.inl rfl) (hs.kd 11 rfl) ht.1 qX10_worthHere_6 ?_
  refine v_iconst hX li_1 qX10_worthHere_9 ?_
  refine v_isub hX qX10_worthHere_10 ?_
  refine v_callNq hX hR k_X10_31 (c_isWithin _ _ _) rfl (Nat.le_of_ble_eq_true rfl) rfl (Nat.le_of_ble_eq_true rfl) ⟨Nat.le_of_ble_eq_true rfl, Nat.le_of_ble_eq_true rfl⟩ qX10_worthHere_11 ?_
  rintro _ _ ⟨rfl, rfl⟩
  first | refine v_if_eqB hX 29 qX10_worthHere_14 rfl (fun q14 => ?_) (fun q14 => ?_) | refine v_if_eq hX 29 qX10_worthHere_14 rfl (fun q14 => ?_) (fun q14 => ?_)
  · exact absurd ⟨nI_pos' (by omega), (leM1 (by omega)).mpr (nI_lt hi (by omega))⟩ q14
  · skip
    refine v_aload_n hX rfl qX10_worthHere_17 ?_
    refine v_getR hX g_X10_18 (hs.kd 11 rfl) (hs.rf 16 rfl) qX10_worthHere_18 ?_
    refine v_aload_n hX rfl qX10_worthHere_21 ?_
    refine v_getIv hX g_X10_74 (Or.inl rfl) (hs.kd 11 rfl) h7 qX10_worthHere_22 ?_
    refine v_ialdV hX (hs.kd 14 rfl) (hs.ln 14 rfl) (by exact ix_n (n := i) (by omega) rfl) (ht.2.2.2.1 i hi).2.1 qX10_worthHere_25 ?_
    refine v_goto hX 30 qX10_worthHere_26 rfl ?_
    refine v_ireturn hX qX10_worthHere_30 (hP _ _ ?_)
    exact ⟨rfl, rfl⟩
theorem qX10_emit_0 : Dq cX10_emit 0 (.aload_n 0) 1 1 := ⟨by decide +kernel, rfl⟩
theorem qX10_emit_1 : Dq cX10_emit 1 (.getfield 44) 3 4 := ⟨by decide +kernel, rfl⟩
theorem qX10_emit_4 : Dq cX10_emit 4 (.sipush 160) 3 7 := ⟨by decide +kernel, rfl⟩
theorem qX10_emit_7 : Dq cX10_emit 7 (.if_icmp .ge 23) 3 10 := ⟨by decide +kernel, rfl⟩
theorem qX10_emit_10 : Dq cX10_emit 10 (.aload_n 0) 1 11 := ⟨by decide +kernel, rfl⟩
theorem qX10_emit_11 : Dq cX10_emit 11 (.getfield 24) 3 14 := ⟨by decide +kernel, rfl⟩
theorem qX10_emit_14 : Dq cX10_emit 14 (.aload_n 0) 1 15 := ⟨by decide +kernel, rfl⟩
theorem qX10_emit_15 : Dq cX10_emit 15 (.getfield 44) 3 18 := ⟨by decide +kernel, rfl⟩
theorem qX10_emit_18 : Dq cX10_emit 18 (.iload_n 1) 1 19 := ⟨by decide +kernel, rfl⟩
theorem qX10_emit_19 : Dq cX10_emit 19 (.iastore) 1 20 := ⟨by decide +kernel, rfl⟩
theorem qX10_emit_20 : Dq cX10_emit 20 (.aload_n 0) 1 21 := ⟨by decide +kernel, rfl⟩
theorem qX10_emit_21 : Dq cX10_emit 21 (.dup) 1 22 := ⟨by decide +kernel, rfl⟩
theorem qX10_emit_22 : Dq cX10_emit 22 (.getfield 44) 3 25 := ⟨by decide +kernel, rfl⟩
theorem qX10_emit_25 : Dq cX10_emit 25 (.iconst 1) 1 26 := ⟨by decide +kernel, rfl⟩
theorem qX10_emit_26 : Dq cX10_emit 26 (.iadd) 1 27 := ⟨by decide +kernel, rfl⟩
theorem qX10_emit_27 : Dq cX10_emit 27 (.putfield 44) 3 30 := ⟨by decide +kernel, rfl⟩
theorem qX10_emit_30 : Dq cX10_emit 30 (.return_) 1 31 := ⟨by decide +kernel, rfl⟩
set_option maxRecDepth 100000 in
set_option maxHeartbeats 4000000 in
theorem c_emit {G : Glb} {h : AHp} (hs : ShC h) {c : Nat} (hc : c < 160) (h11 : hpI h 11 11 = nI c) (x : Int32) : CP G m_X10_emit 1 0 0 [.ref 11, .int x] h (fun r h' => r = none ∧ stI (stI h 16 c x) 11 11 (nI (c + 1)) = h') := by
  suffices key : ∀ P : Option Value → AHp → Prop, (∀ r h', (r = none ∧ stI (stI h 16 c x) 11 11 (nI (c + 1)) = h') → P r h') → CP G m_X10_emit 1 0 0 [.ref 11, .int x] h P from key _ (fun _ _ z => z)
  intro P hP
  refine CP.of (by decide +kernel) (Nat.le_of_ble_eq_true rfl) fun X hX hR hnm => ?_
  show V X G 2 0 0 _ 0 [some (.ref 11), some (.int x)] [] h
  refine v_aload_n hX rfl qX10_emit_0 ?_
  refine v_getIv hX g_X10_44 (Or.inl rfl) (hs.kd 11 rfl) h11 qX10_emit_1 ?_
  refine v_sipush hX ls_160 qX10_emit_4 ?_
  refine v_icmp_geS hX 30 qX10_emit_7 rfl (fun q7 => ?_) (fun q7 => ?_)
  · exact absurd q7 (nI_ge (a := c) (b := 160) hc (by omega))
  · skip
    refine v_aload_n hX rfl qX10_emit_10 ?_
    refine v_getR hX g_X10_24 (hs.kd 11 rfl) (hs.rf 18 rfl) qX10_emit_11 ?_
    refine v_aload_n hX rfl qX10_emit_14 ?_
    refine v_getIv hX g_X10_44 (Or.inl rfl) (hs.kd 11 rfl) h11 qX10_emit_15 ?_
    refine v_iload_n hX rfl qX10_emit_18 ?_
    refine v_iastJ hX (hs.kd 16 rfl) (hs.ln 16 rfl) (by exact ix_n (n := c) (by omega) rfl) qX10_emit_19 ?_
    refine v_aload_n hX rfl qX10_emit_20 ?_
    refine v_dup hX rfl qX10_emit_21 ?_
    refine v_getIv hX g_X10_44 (Or.inl rfl) (hs.kd 11 rfl) (show _ = nI c from h11) qX10_emit_22 ?_
    refine v_iconst hX li_1 qX10_emit_25 ?_
    refine v_iadd hX qX10_emit_26 ?_
    refine v_eqI (nI_1 _) ?_
    refine v_putI hX p_X10_44 (hs.kd 11 rfl) (Or.inl rfl) qX10_emit_27 ?_
    refine v_return hX qX10_emit_30 (hP _ _ ?_)
    exact ⟨rfl, rfl⟩
theorem qX10_enter_0 : Dq cX10_enter 0 (.aload_n 0) 1 1 := ⟨by decide +kernel, rfl⟩
theorem qX10_enter_1 : Dq cX10_enter 1 (.getfield 41) 3 4 := ⟨by decide +kernel, rfl⟩
theorem qX10_enter_4 : Dq cX10_enter 4 (.iconst 5) 1 5 := ⟨by decide +kernel, rfl⟩
theorem qX10_enter_5 : Dq cX10_enter 5 (.if_icmp .lt 8) 3 8 := ⟨by decide +kernel, rfl⟩
theorem qX10_enter_8 : Dq cX10_enter 8 (.aload_n 0) 1 9 := ⟨by decide +kernel, rfl⟩
theorem qX10_enter_9 : Dq cX10_enter 9 (.invokevirtual 110) 3 12 := ⟨by decide +kernel, rfl⟩
theorem qX10_enter_12 : Dq cX10_enter 12 (.ireturn) 1 13 := ⟨by decide +kernel, rfl⟩
theorem qX10_enter_13 : Dq cX10_enter 13 (.aload_n 0) 1 14 := ⟨by decide +kernel, rfl⟩
theorem qX10_enter_14 : Dq cX10_enter 14 (.dup) 1 15 := ⟨by decide +kernel, rfl⟩
theorem qX10_enter_15 : Dq cX10_enter 15 (.getfield 41) 3 18 := ⟨by decide +kernel, rfl⟩
theorem qX10_enter_18 : Dq cX10_enter 18 (.iconst 1) 1 19 := ⟨by decide +kernel, rfl⟩
theorem qX10_enter_19 : Dq cX10_enter 19 (.iadd) 1 20 := ⟨by decide +kernel, rfl⟩
theorem qX10_enter_20 : Dq cX10_enter 20 (.putfield 41) 3 23 := ⟨by decide +kernel, rfl⟩
theorem qX10_enter_23 : Dq cX10_enter 23 (.aload_n 0) 1 24 := ⟨by decide +kernel, rfl⟩
theorem qX10_enter_24 : Dq cX10_enter 24 (.aload_n 0) 1 25 := ⟨by decide +kernel, rfl⟩
theorem qX10_enter_25 : Dq cX10_enter 25 (.getfield 74) 3 28 := ⟨by decide +kernel, rfl⟩
theorem qX10_enter_28 : Dq cX10_enter 28 (.iconst 1) 1 29 := ⟨by decide +kernel, rfl⟩
theorem qX10_enter_29 : Dq cX10_enter 29 (.iadd) 1 30 := ⟨by decide +kernel, rfl⟩
theorem qX10_enter_30 : Dq cX10_enter 30 (.invokevirtual 47) 3 33 := ⟨by decide +kernel, rfl⟩
theorem qX10_enter_33 : Dq cX10_enter 33 (.iconst 1) 1 34 := ⟨by decide +kernel, rfl⟩
theorem qX10_enter_34 : Dq cX10_enter 34 (.ireturn) 1 35 := ⟨by decide +kernel, rfl⟩
set_option maxRecDepth 100000 in
set_option maxHeartbeats 4000000 in
theorem c_enter {G : Glb} {h : AHp} (hs : ShC h) {K W : Nat → Int32} {Pl : Nat → Nat} {n sz : Nat} (ht : TkC K W Pl n sz h) {i o : Nat} (hi : i ≤ n) (ho : o ≤ 5) (h7 : hpI h 11 7 = nI i) (h9 : hpI h 11 9 = nI o) : CP G m_X10_enter 3 0 0 [.ref 11] h (fun r h' => (o < 5 ∧ r = some (.int 1) ∧ stI (stI (stI h 11 9 (nI (o + 1))) 11 7 (nI (i + 1))) 11 8 (K (i + 1)) = h') ∨ (¬ o < 5 ∧ r = some (.int 0) ∧ stI h 11 2 (nI (Pl i)) = h')) := by
  suffices key : ∀ P : Option Value → AHp → Prop, (∀ r h', ((o < 5 ∧ r = some (.int 1) ∧ stI (stI (stI h 11 9 (nI (o + 1))) 11 7 (nI (i + 1))) 11 8 (K (i + 1)) = h') ∨ (¬ o < 5 ∧ r = some (.int 0) ∧ stI h 11 2 (nI (Pl i)) = h')) → P r h') → CP G m_X10_enter 3 0 0 [.ref 11] h P from key _ (fun _ _ z => z)
  intro P hP
  refine CP.of (by decide +kernel) (Nat.le_of_ble_eq_true rfl) fun X hX hR hnm => ?_
  show V X G 1 0 0 _ 0 [some (.ref 11)] [] h
  have hn := ht.2.1
  refine v_aload_n hX rfl qX10_enter_0 ?_
  refine v_getIv hX g_X10_41 (Or.inl rfl) (hs.kd 11 rfl) h9 qX10_enter_1 ?_
  refine v_iconst hX li_5 qX10_enter_4 ?_
  refine v_icmp_ltS hX 13 qX10_enter_5 rfl (fun q5 => ?_) (fun q5 => ?_)
  · have ho5 : o < 5 := nI_lt' (i := o) (s := 5) (by omega) (by omega) q5
    refine v_aload_n hX rfl qX10_enter_13 ?_
    refine v_dup hX rfl qX10_enter_14 ?_
    refine v_getIv hX g_X10_41 (Or.inl rfl) (hs.kd 11 rfl) h9 qX10_enter_15 ?_
    refine v_iconst hX li_1 qX10_enter_18 ?_
    refine v_iadd hX qX10_enter_19 ?_
    refine v_eqI (nI_1 _) ?_
    refine v_putI hX p_X10_41 (hs.kd 11 rfl) (Or.inl rfl) qX10_enter_20 ?_
    refine v_aload_n hX rfl qX10_enter_23 ?_
    refine v_aload_n hX rfl qX10_enter_24 ?_
    refine v_getIv hX g_X10_74 (Or.inl rfl) (hs.kd 11 rfl) (show _ = nI i from h7) qX10_enter_25 ?_
    refine v_iconst hX li_1 qX10_enter_28 ?_
    refine v_iadd hX qX10_enter_29 ?_
    refine v_eqI (nI_1 _) ?_
    refine v_callVq hX hR k_X10_47 (hs.kd 11 rfl) (c_goTo (by exact hs) (by exact (show TkC K W Pl n sz (stI h 11 9 (nI (o + 1))) from ht)) (i := i + 1) (by omega)) rfl (Nat.le_of_ble_eq_true rfl) rfl (Nat.le_of_ble_eq_true rfl) ⟨Nat.le_of_ble_eq_true rfl, Nat.le_of_ble_eq_true rfl⟩ qX10_enter_30 ?_
    rintro _ _ ⟨rfl, rfl⟩
    refine v_iconst hX li_1 qX10_enter_33 ?_
    refine v_zreturn hX (by first | exact Or.inl rfl | exact Or.inr rfl | exact bz01 _) qX10_enter_34 (hP _ _ ?_)
    exact Or.inl ⟨ho5, rfl, rfl⟩
  · have ho5 : ¬ o < 5 := Nat.not_lt.mpr (nI_le' (i := 5) (s := o) (by omega) (by omega) q5)
    refine v_aload_n hX rfl qX10_enter_8 ?_
    refine v_callVq hX hR k_X10_110 (hs.kd 11 rfl) (c_refuse (by exact hs) (by exact ht) (by exact hi) (by exact h7)) rfl (Nat.le_of_ble_eq_true rfl) rfl (Nat.le_of_ble_eq_true rfl) ⟨Nat.le_of_ble_eq_true rfl, Nat.le_of_ble_eq_true rfl⟩ qX10_enter_9 ?_
    rintro _ _ ⟨rfl, rfl⟩
    refine v_zreturn hX (by first | exact Or.inl rfl | exact Or.inr rfl | exact bz01 _) qX10_enter_12 (hP _ _ ?_)
    exact Or.inr ⟨ho5, rfl, rfl⟩
theorem qX10_expect_0 : Dq cX10_expect 0 (.aload_n 0) 1 1 := ⟨by decide +kernel, rfl⟩
theorem qX10_expect_1 : Dq cX10_expect 1 (.getfield 71) 3 4 := ⟨by decide +kernel, rfl⟩
theorem qX10_expect_4 : Dq cX10_expect 4 (.iload_n 1) 1 5 := ⟨by decide +kernel, rfl⟩
theorem qX10_expect_5 : Dq cX10_expect 5 (.if_icmp .eq 8) 3 8 := ⟨by decide +kernel, rfl⟩
theorem qX10_expect_8 : Dq cX10_expect 8 (.aload_n 0) 1 9 := ⟨by decide +kernel, rfl⟩
theorem qX10_expect_9 : Dq cX10_expect 9 (.invokevirtual 110) 3 12 := ⟨by decide +kernel, rfl⟩
theorem qX10_expect_12 : Dq cX10_expect 12 (.ireturn) 1 13 := ⟨by decide +kernel, rfl⟩
theorem qX10_expect_13 : Dq cX10_expect 13 (.aload_n 0) 1 14 := ⟨by decide +kernel, rfl⟩
theorem qX10_expect_14 : Dq cX10_expect 14 (.aload_n 0) 1 15 := ⟨by decide +kernel, rfl⟩
theorem qX10_expect_15 : Dq cX10_expect 15 (.getfield 74) 3 18 := ⟨by decide +kernel, rfl⟩
theorem qX10_expect_18 : Dq cX10_expect 18 (.iconst 1) 1 19 := ⟨by decide +kernel, rfl⟩
theorem qX10_expect_19 : Dq cX10_expect 19 (.iadd) 1 20 := ⟨by decide +kernel, rfl⟩
theorem qX10_expect_20 : Dq cX10_expect 20 (.invokevirtual 47) 3 23 := ⟨by decide +kernel, rfl⟩
theorem qX10_expect_23 : Dq cX10_expect 23 (.iconst 1) 1 24 := ⟨by decide +kernel, rfl⟩
theorem qX10_expect_24 : Dq cX10_expect 24 (.ireturn) 1 25 := ⟨by decide +kernel, rfl⟩
set_option maxRecDepth 100000 in
set_option maxHeartbeats 4000000 in
theorem c_expect {G : Glb} {h : AHp} (hs : ShC h) {K W : Nat → Int32} {Pl : Nat → Nat} {n sz : Nat} (ht : TkC K W Pl n sz h) {i : Nat} (hi : i ≤ n) (h7 : hpI h 11 7 = nI i) (h8 : hpI h 11 8 = K i) (w : Int32) : CP G m_X10_expect 3 0 0 [.ref 11, .int w] h (fun r h' => (K i = w ∧ r = some (.int 1) ∧ stI (stI h 11 7 (nI (i + 1))) 11 8 (K (i + 1)) = h') ∨ (¬ K i = w ∧ r = some (.int 0) ∧ stI h 11 2 (nI (Pl i)) = h')) := by
  suffices key : ∀ P : Option Value → AHp → Prop, (∀ r h', ((K i = w ∧ r = some (.int 1) ∧ stI (stI h 11 7 (nI (i + 1))) 11 8 (K (i + 1)) = h') ∨ (¬ K i = w ∧ r = some (.int 0) ∧ stI h 11 2 (nI (Pl i)) = h')) → P r h') → CP G m_X10_expect 3 0 0 [.ref 11, .int w] h P from key _ (fun _ _ z => z)
  intro P hP
  refine CP.of (by decide +kernel) (Nat.le_of_ble_eq_true rfl) fun X hX hR hnm => ?_
  show V X G 2 0 0 _ 0 [some (.ref 11), some (.int w)] [] h
  have hn := ht.2.1
  refine v_aload_n hX rfl qX10_expect_0 ?_
  refine v_getIv hX g_X10_71 (Or.inl rfl) (hs.kd 11 rfl) h8 qX10_expect_1 ?_
  refine v_iload_n hX rfl qX10_expect_4 ?_
  refine v_icmp_eq hX 13 qX10_expect_5 rfl (fun q5 => ?_) (fun q5 => ?_)
  · skip
    refine v_aload_n hX rfl qX10_expect_13 ?_
    refine v_aload_n hX rfl qX10_expect_14 ?_
    refine v_getIv hX g_X10_74 (Or.inl rfl) (hs.kd 11 rfl) h7 qX10_expect_15 ?_
    refine v_iconst hX li_1 qX10_expect_18 ?_
    refine v_iadd hX qX10_expect_19 ?_
    refine v_eqI (nI_1 _) ?_
    refine v_callVq hX hR k_X10_47 (hs.kd 11 rfl) (c_goTo (by exact hs) (by exact ht) (i := i + 1) (by omega)) rfl (Nat.le_of_ble_eq_true rfl) rfl (Nat.le_of_ble_eq_true rfl) ⟨Nat.le_of_ble_eq_true rfl, Nat.le_of_ble_eq_true rfl⟩ qX10_expect_20 ?_
    rintro _ _ ⟨rfl, rfl⟩
    refine v_iconst hX li_1 qX10_expect_23 ?_
    refine v_zreturn hX (by first | exact Or.inl rfl | exact Or.inr rfl | exact bz01 _) qX10_expect_24 (hP _ _ ?_)
    exact Or.inl ⟨q5, rfl, rfl⟩
  · skip
    refine v_aload_n hX rfl qX10_expect_8 ?_
    refine v_callVq hX hR k_X10_110 (hs.kd 11 rfl) (c_refuse (by exact hs) (by exact ht) (by exact hi) (by exact h7)) rfl (Nat.le_of_ble_eq_true rfl) rfl (Nat.le_of_ble_eq_true rfl) ⟨Nat.le_of_ble_eq_true rfl, Nat.le_of_ble_eq_true rfl⟩ qX10_expect_9 ?_
    rintro _ _ ⟨rfl, rfl⟩
    refine v_zreturn hX (by first | exact Or.inl rfl | exact Or.inr rfl | exact bz01 _) qX10_expect_12 (hP _ _ ?_)
    exact Or.inr ⟨q5, rfl, rfl⟩
section PLP
variable {K : Nat → Int32} {op : Int32 → Option Int32} {sub : Nat → PR} {f j : Nat} {cs : List Int32} {v : (Nat → Int32) → Int32}
theorem pLoop_no (h : op (K j) = none) : pLoop K op sub f j cs v = .inr (j, cs, v) := by
  cases f with
  | zero => rfl
  | succ f => unfold pLoop; rw [h]
theorem pLoop_in {c : Int32} (h : op (K j) = some c) {g : Nat} (h2 : sub (j + 1) = .inl g) : pLoop K op sub (f + 1) j cs v = .inl g := by
  unfold pLoop; rw [h]; show (match sub (j + 1) with | .inl g => (.inl g : PR) | .inr (j, cs2, v2) => _) = _; rw [h2]
theorem pLoop_go {c : Int32} (h : op (K j) = some c) {j2 : Nat} {cs2 : List Int32} {v2 : (Nat → Int32) → Int32} (h2 : sub (j + 1) = .inr (j2, cs2, v2)) : pLoop K op sub (f + 1) j cs v = pLoop K op sub f j2 (cs ++ cs2 ++ [c]) (fun env => joinI c (v env) (v2 env)) := by
  rw [pLoop, h]; show (match sub (j + 1) with | .inl g => (.inl g : PR) | .inr (j, cs2, v2) => _) = _; rw [h2]
theorem pSeq_in {n i g : Nat} (h : sub i = .inl g) : pSeq K n op sub i = .inl g := by unfold pSeq; rw [h]
theorem pSeq_go {n i : Nat} (h : sub i = .inr (j, cs, v)) : pSeq K n op sub i = pLoop K op sub n j cs v := by unfold pSeq; rw [h]
end PLP
