/-! all levels; a part; the whole text of the class, its tokens given -/
section LVC
variable {G : Glb} {K W : Nat → Int32} {Pl : Nat → Nat} {n sz : Nat}
theorem c_lvl (hK : ∀ i, n ≤ i → K i = 0) (h2 : ∀ i, K i = 2 → 0 ≤ W i) (h3 : ∀ i, K i = 3 → -6 ≤ W i ∧ W i < 0) {room : Bool} {l1 ln lo : Nat → PR} {o e N : Nat} (hroom : room = true ↔ o < 5) (ho5 : o ≤ 5) (he : 10 ≤ e) (hN : 1 ≤ N) (c1 : o < 5 → CSub G K W Pl n sz m_X10_readOne e (o + 1) l1) (cn : o < 5 → CSub G K W Pl n sz m_X10_readNot (e + 4) (o + 1) ln) (co : o < 5 → CSub G K W Pl n sz m_X10_readOr (e + 6) (o + 1) lo) (k1 : o < 5 → SubOK n l1 N) (kn : o < 5 → SubOK n ln (N + 3)) (ko : o < 5 → SubOK n lo N) :
    CSub G K W Pl n sz m_X10_readOne (e + 8) o (pOne K W room l1 lo) ∧ CSub G K W Pl n sz m_X10_readNot (e + 12) o (lvN K n room (pOne K W room l1 lo) ln) ∧ CSub G K W Pl n sz m_X10_readOr (e + 14) o (lvO K n (lvN K n room (pOne K W room l1 lo) ln)) := by
  have ng : CSubL G K W Pl n sz m_X10_readNegated (e + 7) o (fun i => if room = true then neP (l1 (i + 1)) else .inl i) := c_readNegated (d := e + 6) (by omega) hroom ho5 (d2 := e) (by omega) c1 k1
  have br : CSubL G K W Pl n sz m_X10_readBracket (e + 7) o (fun i => if room = true then clP K (lo (i + 1)) else .inl i) := c_readBracket (d := e + 6) (by omega) hroom ho5 (d2 := e + 6) (by omega) co ko
  have a1 : CSub G K W Pl n sz m_X10_readOne (e + 8) o (pOne K W room l1 lo) := c_readOne (d := e + 7) (by omega) ng br hK
  have s1 : SubOK n (pOne K W room l1 lo) N := pOne_ok hK h2 h3 (fun z => k1 (hroom.mp z)) (fun z => ko (hroom.mp z)) hN
  have a2 : CSub G K W Pl n sz m_X10_readTerm (e + 9) o (pSeq K n opT (pOne K W room l1 lo)) := c_readTerm (d := e + 8) (by omega) a1 s1 hK
  have s2 := pSeq_ok hK opT_ok s1
  have a3 : CSub G K W Pl n sz m_X10_readSum (e + 10) o (lvS K n (pOne K W room l1 lo)) := c_readSum (d := e + 9) (by omega) a2 s2 hK
  have s3 : SubOK n (lvS K n (pOne K W room l1 lo)) (N + 1 + 1) := pSeq_ok hK opS_ok s2
  have a4 : CSub G K W Pl n sz m_X10_readComparison (e + 11) o (pCmp K (lvS K n (pOne K W room l1 lo))) := c_readComparison (d := e + 10) (by omega) a3 s3 hK
  have s4 := pCmp_ok (K := K) s3
  have a5 : CSub G K W Pl n sz m_X10_readNot (e + 12) o (lvN K n room (pOne K W room l1 lo) ln) := c_readNot (d := e + 11) (by omega) hroom ho5 (d2 := e + 4) (by omega) cn a4 kn hK
  have s5 : SubOK n (lvN K n room (pOne K W room l1 lo) ln) (N + 3) := pNot_ok (fun z => kn (hroom.mp z)) s4
  have a6 : CSub G K W Pl n sz m_X10_readAnd (e + 13) o (pSeq K n opA (lvN K n room (pOne K W room l1 lo) ln)) := c_readAnd (d := e + 12) (by omega) a5 s5 hK
  have s6 := pSeq_ok hK opA_ok s5
  exact ⟨a1, a5, c_readOr (d := e + 13) (by omega) a6 s6 hK⟩
theorem c_lev (hK : ∀ i, n ≤ i → K i = 0) (h2 : ∀ i, K i = 2 → 0 ≤ W i) (h3 : ∀ i, K i = 3 → -6 ≤ W i ∧ W i < 0) : ∀ k o, o + k = 5 → CSub G K W Pl n sz m_X10_readOne (8 * k + 18) o (lev K W n k).1 ∧ CSub G K W Pl n sz m_X10_readNot (8 * k + 22) o (lev K W n k).2.1 ∧ CSub G K W Pl n sz m_X10_readOr (8 * k + 24) o (lev K W n k).2.2 := by
  intro k
  induction k with
  | zero =>
    intro o ho
    have hx : ¬ o < 5 := by omega
    exact c_lvl hK h2 h3 (e := 10) (N := 1) (o := o) (room := false) ⟨(fun z => nomatch z), fun z => absurd z hx⟩ (by omega) (by omega) (by omega) (fun z => absurd z hx) (fun z => absurd z hx) (fun z => absurd z hx) (fun z => absurd z hx) (fun z => absurd z hx) (fun z => absurd z hx)
  | succ k ih =>
    intro o ho
    obtain ⟨i1, i2, i3⟩ := ih (o + 1) (by omega)
    obtain ⟨s1, s2, s3⟩ := lev_ok hK h2 h3 k
    exact c_lvl hK h2 h3 (e := 8 * k + 18) (N := 5 * k + 6) (o := o) (room := true) ⟨fun _ => by omega, fun _ => rfl⟩ (by omega) (by omega) (by omega) (fun _ => i1) (fun _ => i2) (fun _ => i3) (fun _ => s1.mono (by omega)) (fun _ => s2.mono (by omega)) (fun _ => s3)
theorem pPart_ok (hK : ∀ i, n ≤ i → K i = 0) (h2 : ∀ i, K i = 2 → 0 ≤ W i) (h3 : ∀ i, K i = 3 → -6 ≤ W i ∧ W i < 0) (key : Int32) : SubOK n (pPart K W n key) 31 := by
  intro i j cs v h
  unfold pPart at h
  by_cases e : K i = key
  · rw [if_pos e] at h
    cases e1 : (lev K W n 5).2.2 (i + 1) with
    | inl f => rw [e1] at h; cases h
    | inr t =>
      obtain ⟨j1, c1, v1⟩ := t
      rw [e1] at h
      obtain ⟨g1, g2, g3, g4⟩ := (lev_ok hK h2 h3 5).2.2 _ _ _ _ e1
      have h : (if K j1 = 59 then (.inr (j1 + 1, c1, v1) : PR) else .inl j1) = .inr (j, cs, v) := h
      by_cases e2 : K j1 = 59
      · rw [if_pos e2] at h
        cases h
        have := kLt hK e2 (by decide)
        exact ⟨by omega, by omega, by omega, g4⟩
      · rw [if_neg e2] at h; cases h
  · rw [if_neg e] at h; cases h
theorem CodeAt.cat {σ σ' : Nat → Nat → Int32} {c : Nat} {cs cs2 : List Int32} (h : CodeAt σ c cs) (hk : ∀ k, k < c + cs.length → σ' 16 k = σ 16 k) (h2 : CodeAt σ' (c + cs.length) cs2) : CodeAt σ' c (cs ++ cs2) := by
  intro q y z
  by_cases hq : q < cs.length
  · rw [List.getElem?_append_left hq] at z
    exact (hk (c + q) (by omega)).trans (h q y z)
  · rw [List.getElem?_append_right (by omega)] at z
    have := h2 (q - cs.length) y z
    rwa [show c + cs.length + (q - cs.length) = c + q by omega] at this
end LVC
theorem qX10_readPart_0 : Dq cX10_readPart 0 (.aload_n 0) 1 1 := ⟨by decide +kernel, rfl⟩
theorem qX10_readPart_1 : Dq cX10_readPart 1 (.iload_n 1) 1 2 := ⟨by decide +kernel, rfl⟩
theorem qX10_readPart_2 : Dq cX10_readPart 2 (.invokevirtual 61) 3 5 := ⟨by decide +kernel, rfl⟩
theorem qX10_readPart_5 : Dq cX10_readPart 5 (.ifCond .eq 23) 3 8 := ⟨by decide +kernel, rfl⟩
theorem qX10_readPart_8 : Dq cX10_readPart 8 (.aload_n 0) 1 9 := ⟨by decide +kernel, rfl⟩
theorem qX10_readPart_9 : Dq cX10_readPart 9 (.invokevirtual 64) 3 12 := ⟨by decide +kernel, rfl⟩
theorem qX10_readPart_12 : Dq cX10_readPart 12 (.ifCond .eq 16) 3 15 := ⟨by decide +kernel, rfl⟩
theorem qX10_readPart_15 : Dq cX10_readPart 15 (.aload_n 0) 1 16 := ⟨by decide +kernel, rfl⟩
theorem qX10_readPart_16 : Dq cX10_readPart 16 (.bipush 59) 2 18 := ⟨by decide +kernel, rfl⟩
theorem qX10_readPart_18 : Dq cX10_readPart 18 (.invokevirtual 61) 3 21 := ⟨by decide +kernel, rfl⟩
theorem qX10_readPart_21 : Dq cX10_readPart 21 (.ifCond .eq 7) 3 24 := ⟨by decide +kernel, rfl⟩
theorem qX10_readPart_24 : Dq cX10_readPart 24 (.iconst 1) 1 25 := ⟨by decide +kernel, rfl⟩
theorem qX10_readPart_25 : Dq cX10_readPart 25 (.goto 4) 3 28 := ⟨by decide +kernel, rfl⟩
theorem qX10_readPart_28 : Dq cX10_readPart 28 (.iconst 0) 1 29 := ⟨by decide +kernel, rfl⟩
theorem qX10_readPart_29 : Dq cX10_readPart 29 (.ireturn) 1 30 := ⟨by decide +kernel, rfl⟩
set_option maxRecDepth 100000 in
set_option maxHeartbeats 4000000 in
theorem c_readPart {G : Glb} {K W : Nat → Int32} {Pl : Nat → Nat} {n sz : Nat} (hK : ∀ i, n ≤ i → K i = 0) (h2 : ∀ i, K i = 2 → 0 ≤ W i) (h3 : ∀ i, K i = 3 → -6 ≤ W i ∧ W i < 0) {key : Int32} (hkey : ¬ key = 0) (h : AHp) (i c : Nat) (hs : ShC h) (ht : TkC K W Pl n sz h) (hp0 : StP K h 0 c h.1 i []) (hi : i ≤ n) (hci : c ≤ i) : CP G m_X10_readPart 65 0 0 [.ref 11, .int key] h (fun r h' => ∃ σ x, r = some (.int x) ∧ h' = (σ, h.2) ∧ PoR K Pl h 0 c σ x (pPart K W n key i)) := by
  suffices key : ∀ P : Option Value → AHp → Prop, (∀ r h', (∃ σ x, r = some (.int x) ∧ h' = (σ, h.2) ∧ PoR K Pl h 0 c σ x (pPart K W n key i)) → P r h') → CP G m_X10_readPart 65 0 0 [.ref 11, .int key] h P from key _ (fun _ _ z => z)
  intro P hP
  refine CP.of (by decide +kernel) (Nat.le_of_ble_eq_true rfl) fun X hX hR hnm => ?_
  show V X G 2 0 0 _ 0 [some (.ref 11), some (.int key)] [] h
  have hn160 := ht.2.1
  refine v_aload_n hX rfl qX10_readPart_0 ?_
  refine v_iload_n hX rfl qX10_readPart_1 ?_
  refine v_callVq hX hR k_X10_61 (hs.kd 11 rfl) (c_expect (by exact hs) (by exact ht) (by exact hi) (by exact hp0.2.1) (by exact hp0.2.2.1) (by exact key)) rfl (Nat.le_of_ble_eq_true rfl) rfl (Nat.le_of_ble_eq_true rfl) ⟨Nat.le_of_ble_eq_true rfl, Nat.le_of_ble_eq_true rfl⟩ qX10_readPart_2 ?_
  rintro _ _ (⟨hq, rfl, rfl⟩ | ⟨hq, rfl, rfl⟩)
  · have hin : i < n := kLt hK hq hkey
    have hp3 := hp0.go (i + 1)
    first | refine v_if_eqB hX 28 qX10_readPart_5 rfl (fun q5 => ?_) (fun q5 => ?_) | refine v_if_eq hX 28 qX10_readPart_5 rfl (fun q5 => ?_) (fun q5 => ?_)
    · exact absurd q5 (by decide)
    · skip
      refine v_aload_n hX rfl qX10_readPart_8 ?_
      refine v_callVq hX hR k_X10_64 (hs.kd 11 rfl) ((c_lev hK h2 h3 5 0 rfl).2.2 _ (by exact (i + 1)) (by exact c) (by exact hs) (by exact (ht.fr hp3.1)) (by exact hp3.at) (by omega) (by omega)) rfl (Nat.le_of_ble_eq_true rfl) rfl (Nat.le_of_ble_eq_true rfl) ⟨Nat.le_of_ble_eq_true rfl, Nat.le_of_ble_eq_true rfl⟩ qX10_readPart_9 ?_
      rintro _ _ ⟨σ4, x4, rfl, rfl, hp4⟩
      rcases e3 : (lev K W n 5).2.2 (i + 1) with g | ⟨j3, cs3, v3⟩
      · rw [e3] at hp4
        obtain ⟨rfl, hfa, hfl⟩ := hp4
        first | refine v_if_eqB hX 28 qX10_readPart_12 rfl (fun q12 => ?_) (fun q12 => ?_) | refine v_if_eq hX 28 qX10_readPart_12 rfl (fun q12 => ?_) (fun q12 => ?_)
        · skip
          refine v_iconst hX li_0 qX10_readPart_28 ?_
          refine v_zreturn hX (by first | exact Or.inl rfl | exact Or.inr rfl | exact bz01 _) qX10_readPart_29 (hP _ _ ?_)
          exact ⟨σ4, 0, rfl, rfl, PoR.of (r := .inl g) ⟨rfl, hp3.1.tr hfa, hfl⟩ (by unfold pPart; rw [if_pos hq, e3])⟩
        · exact absurd rfl q12
      · rw [e3] at hp4
        obtain ⟨rfl, hst4⟩ := hp4
        obtain ⟨z1, z2, z3, -⟩ := (lev_ok hK h2 h3 5).2.2 _ _ _ _ e3
        have hp4 := hp3.sub hst4
        first | refine v_if_eqB hX 28 qX10_readPart_12 rfl (fun q12 => ?_) (fun q12 => ?_) | refine v_if_eq hX 28 qX10_readPart_12 rfl (fun q12 => ?_) (fun q12 => ?_)
        · exact absurd q12 (by decide)
        · skip
          refine v_aload_n hX rfl qX10_readPart_15 ?_
          refine v_bipush hX lb_59 qX10_readPart_16 ?_
          refine v_callVq hX hR k_X10_61 (hs.kd 11 rfl) (c_expect (h := (σ4, h.2)) (by exact hs) (by exact (ht.fr hp4.1)) (i := j3) (by exact z2) (by exact hp4.2.1) (by exact hp4.2.2.1) (by exact 59)) rfl (Nat.le_of_ble_eq_true rfl) rfl (Nat.le_of_ble_eq_true rfl) ⟨Nat.le_of_ble_eq_true rfl, Nat.le_of_ble_eq_true rfl⟩ qX10_readPart_18 ?_
          rintro _ _ (⟨hq2, rfl, rfl⟩ | ⟨hq2, rfl, rfl⟩)
          · have hp5 := hp4.go (j3 + 1)
            first | refine v_if_eqB hX 28 qX10_readPart_21 rfl (fun q21 => ?_) (fun q21 => ?_) | refine v_if_eq hX 28 qX10_readPart_21 rfl (fun q21 => ?_) (fun q21 => ?_)
            · exact absurd q21 (by decide)
            · skip
              refine v_iconst hX li_1 qX10_readPart_24 ?_
              refine v_goto hX 29 qX10_readPart_25 rfl ?_
              refine v_zreturn hX (by first | exact Or.inl rfl | exact Or.inr rfl | exact bz01 _) qX10_readPart_29 (hP _ _ ?_)
              exact ⟨_, 1, rfl, rfl, PoR.of (r := .inr (j3 + 1, cs3, v3)) ⟨rfl, hp5⟩ (by unfold pPart; rw [if_pos hq, e3]; exact if_pos hq2)⟩
          · skip
            first | refine v_if_eqB hX 28 qX10_readPart_21 rfl (fun q21 => ?_) (fun q21 => ?_) | refine v_if_eq hX 28 qX10_readPart_21 rfl (fun q21 => ?_) (fun q21 => ?_)
            · skip
              refine v_iconst hX li_0 qX10_readPart_28 ?_
              refine v_zreturn hX (by first | exact Or.inl rfl | exact Or.inr rfl | exact bz01 _) qX10_readPart_29 (hP _ _ ?_)
              exact ⟨(stI (σ4, h.2) 11 2 (nI (Pl j3))).1, 0, rfl, rfl, PoR.of (r := .inl j3) ⟨rfl, fun a k a1 a2 => by show hpI (stI _ _ _ _) _ _ = _; rw [hpI_st, if_neg (by omega)]; exact hp4.1 a k a1 a2, rfl⟩ (by unfold pPart; rw [if_pos hq, e3]; exact if_neg hq2)⟩
            · exact absurd rfl q21
  · skip
    first | refine v_if_eqB hX 28 qX10_readPart_5 rfl (fun q5 => ?_) (fun q5 => ?_) | refine v_if_eq hX 28 qX10_readPart_5 rfl (fun q5 => ?_) (fun q5 => ?_)
    · skip
      refine v_iconst hX li_0 qX10_readPart_28 ?_
      refine v_zreturn hX (by first | exact Or.inl rfl | exact Or.inr rfl | exact bz01 _) qX10_readPart_29 (hP _ _ ?_)
      exact ⟨(stI h 11 2 (nI (Pl i))).1, 0, rfl, rfl, PoR.of (r := .inl i) ⟨rfl, fun a k a1 a2 => by show hpI (stI _ _ _ _) _ _ = _; rw [hpI_st, if_neg (by omega)], rfl⟩ (if_neg hq)⟩
    · exact absurd rfl q5
