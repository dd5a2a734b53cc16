/-! text() of the class, over the state -/
/-- what text changes in the class -/
def FrTy (h : AHp) (σ : Nat → Nat → Int32) : Prop := ∀ a k, ¬ (a = 11 ∨ (13 ≤ a ∧ a ≤ 16) ∨ (a = 17 ∧ k = 2) ∨ a = 18 ∨ a = 19) → σ a k = hpI h a k
theorem CaOK.tv {h : AHp} {c c' : Nat} {T T' : TVt} {σ : Nat → Nat → Int32} (hc : CaOK h c T) (hf : FrTy h σ) (hcc : c ≤ c') (hT : ∀ t, t < c → T' t = T t) : CaOK (σ, h.2) c' T' := by
  intro q hq
  have e : ∀ a k, 20 ≤ a → σ a k = hpI h a k := fun a k ha => hf a k (by omega)
  rcases hc q hq with z | ⟨rl, t, hr, z1, z2, z3, z4, z5, z6, z7⟩
  · exact Or.inl ((e 22 q (by omega)).trans z)
  · refine Or.inr ⟨rl, t, hr, by omega, z2, z3, (e 22 q (by omega)).trans z4, ?_, ?_, ?_⟩
    · show σ 23 q = _
      rw [e 23 q (by omega), z5]; unfold dpI; rw [hT rl z1]
    · show σ 24 q = _
      rw [e 24 q (by omega), z6]; unfold seI; rw [hT rl z1]
    · show σ 25 q = _
      rw [e 25 q (by omega), z7]; unfold shI dpI; rw [hT rl z1]
theorem CV.txt {h : AHp} {E : Sst} (hc : CV h E) {σ : Nat → Nat → Int32} (hf : FrTy h σ) (h1 : σ 11 1 = 0) {c : Nat} {T : TVt} (hcc : sC E ≤ c) (hT : ∀ t, t < sC E → T t = sT E t) (hru : RuOK (σ, h.2) c T) (hok : EOK (setT (setY E 0 (sY E)) c T)) : CV (σ, h.2) (setT (setY E 0 (sY E)) c T) := by
  obtain ⟨z1, z2, z3, ⟨e, z4⟩, z5, z6, z7, z8, z9⟩ := hc
  refine ⟨z1, hru, z3.tv hf hcc hT, ⟨e, z4.fr z1 (hf 0 5 (by omega)) (fun a ha => hf a 0 (by omega))⟩, (bv_ext (h := (σ, h.2)) (h' := h) (B := 1) (B' := 1) (fun i k ho => by
    have : i ≤ 2 := by rcases ho with ⟨e, -⟩ | ⟨e, -⟩ <;> omega
    exact hf (1 + i) k (by omega))).trans z5, ?_, ⟨h1, fun i hi => absurd hi (Nat.not_lt_zero i)⟩, fun i hi => ?_, hok⟩
  · have e7 : bv (σ, h.2) 7 = bv h 7 := bv_ext (h := (σ, h.2)) (h' := h) (B := 7) (B' := 7) (fun i k ho => by
      have : i ≤ 2 := by rcases ho with ⟨e, -⟩ | ⟨e, -⟩ <;> omega
      exact hf (7 + i) k (by omega))
    have e03 : σ 0 3 = hpI h 0 3 := hf 0 3 (by omega)
    rcases z6 with ⟨w1, w2⟩ | ⟨w1, w2⟩
    · exact Or.inl ⟨w1, e03.trans w2⟩
    · exact Or.inr ⟨by rw [e7]; exact w1, e03.trans w2⟩
  · obtain ⟨g1, g2, g3⟩ := z8 i hi
    exact ⟨(hf _ 1 (by omega)).trans g1, (hf _ 2 (by omega)).trans g2, fun k hk => (hf _ k (by omega)).trans (g3 k hk)⟩
theorem cat_get {a b c : List Int32} {q : Nat} {x : Int32} (h : b[q]? = some x) : (a ++ b ++ c)[a.length + q]? = some x := by
  have hl := (List.getElem?_eq_some_iff.mp h).1
  rw [List.append_assoc, List.getElem?_append_right (by omega), Nat.add_sub_cancel_left, List.getElem?_append_left hl]
  exact h
theorem cat_get3 {a b c : List Int32} {q : Nat} {x : Int32} (h : c[q]? = some x) : (a ++ b ++ c)[a.length + b.length + q]? = some x := by
  rw [List.getElem?_append_right (by rw [List.length_append]; omega), List.length_append, Nat.add_sub_cancel_left]
  exact h
theorem qX11_text_0 : Dq cX11_text 0 (.aload_n 0) 1 1 := ⟨by decide +kernel, rfl⟩
theorem qX11_text_1 : Dq cX11_text 1 (.getfield 38) 3 4 := ⟨by decide +kernel, rfl⟩
theorem qX11_text_4 : Dq cX11_text 4 (.invokevirtual 164) 3 7 := ⟨by decide +kernel, rfl⟩
theorem qX11_text_7 : Dq cX11_text 7 (.ifCond .eq 6) 3 10 := ⟨by decide +kernel, rfl⟩
theorem qX11_text_10 : Dq cX11_text 10 (.bipush (-4)) 2 12 := ⟨by decide +kernel, rfl⟩
theorem qX11_text_12 : Dq cX11_text 12 (.ireturn) 1 13 := ⟨by decide +kernel, rfl⟩
theorem qX11_text_13 : Dq cX11_text 13 (.aload_n 0) 1 14 := ⟨by decide +kernel, rfl⟩
theorem qX11_text_14 : Dq cX11_text 14 (.getfield 31) 3 17 := ⟨by decide +kernel, rfl⟩
theorem qX11_text_17 : Dq cX11_text 17 (.invokevirtual 79) 3 20 := ⟨by decide +kernel, rfl⟩
theorem qX11_text_20 : Dq cX11_text 20 (.istore_n 1) 1 21 := ⟨by decide +kernel, rfl⟩
theorem qX11_text_21 : Dq cX11_text 21 (.aload_n 0) 1 22 := ⟨by decide +kernel, rfl⟩
theorem qX11_text_22 : Dq cX11_text 22 (.getfield 31) 3 25 := ⟨by decide +kernel, rfl⟩
theorem qX11_text_25 : Dq cX11_text 25 (.invokevirtual 87) 3 28 := ⟨by decide +kernel, rfl⟩
theorem qX11_text_28 : Dq cX11_text 28 (.iload_n 1) 1 29 := ⟨by decide +kernel, rfl⟩
theorem qX11_text_29 : Dq cX11_text 29 (.ifCond .ne 14) 3 32 := ⟨by decide +kernel, rfl⟩
theorem qX11_text_32 : Dq cX11_text 32 (.bipush (-100)) 2 34 := ⟨by decide +kernel, rfl⟩
theorem qX11_text_34 : Dq cX11_text 34 (.aload_n 0) 1 35 := ⟨by decide +kernel, rfl⟩
theorem qX11_text_35 : Dq cX11_text 35 (.getfield 31) 3 38 := ⟨by decide +kernel, rfl⟩
theorem qX11_text_38 : Dq cX11_text 38 (.getfield 167) 3 41 := ⟨by decide +kernel, rfl⟩
theorem qX11_text_41 : Dq cX11_text 41 (.isub) 1 42 := ⟨by decide +kernel, rfl⟩
theorem qX11_text_42 : Dq cX11_text 42 (.ireturn) 1 43 := ⟨by decide +kernel, rfl⟩
theorem qX11_text_43 : Dq cX11_text 43 (.aload_n 0) 1 44 := ⟨by decide +kernel, rfl⟩
theorem qX11_text_44 : Dq cX11_text 44 (.getfield 38) 3 47 := ⟨by decide +kernel, rfl⟩
theorem qX11_text_47 : Dq cX11_text 47 (.aload_n 0) 1 48 := ⟨by decide +kernel, rfl⟩
theorem qX11_text_48 : Dq cX11_text 48 (.getfield 31) 3 51 := ⟨by decide +kernel, rfl⟩
theorem qX11_text_51 : Dq cX11_text 51 (.invokevirtual 83) 3 54 := ⟨by decide +kernel, rfl⟩
theorem qX11_text_54 : Dq cX11_text 54 (.aload_n 0) 1 55 := ⟨by decide +kernel, rfl⟩
theorem qX11_text_55 : Dq cX11_text 55 (.getfield 38) 3 58 := ⟨by decide +kernel, rfl⟩
theorem qX11_text_58 : Dq cX11_text 58 (.getfield 170) 3 61 := ⟨by decide +kernel, rfl⟩
theorem qX11_text_61 : Dq cX11_text 61 (.iconst 1) 1 62 := ⟨by decide +kernel, rfl⟩
theorem qX11_text_62 : Dq cX11_text 62 (.isub) 1 63 := ⟨by decide +kernel, rfl⟩
theorem qX11_text_63 : Dq cX11_text 63 (.ireturn) 1 64 := ⟨by decide +kernel, rfl⟩
set_option maxRecDepth 100000 in
set_option maxHeartbeats 4000000 in
theorem c_text {G : Glb} {h : AHp} {E : Sst} (hc : CV h E) (hG : HST G) : CP G m_X11_text 67 0 0 [.ref 0] h (fun r h' => r = some (.int (textI E).1) ∧ ∃ σ, h' = (σ, h.2) ∧ CV (σ, h.2) (textI E).2 ∧ K38 h σ) := by
  suffices key : ∀ P : Option Value → AHp → Prop, (∀ r h', (r = some (.int (textI E).1) ∧ ∃ σ, h' = (σ, h.2) ∧ CV (σ, h.2) (textI E).2 ∧ K38 h σ) → P r h') → CP G m_X11_text 67 0 0 [.ref 0] h P from key _ (fun _ _ z => z)
  intro P hP
  have hs := hc.sh
  have hru := hc.ru
  have hca := hc.ca
  have hbe := hc.be
  have hok := hc.ok
  obtain ⟨hrl, hrl5⟩ := hbe.rl hok.1
  rw [bv0 (by omega) (by omega)] at hrl5
  have hh3 := hbe.2.2.2.1
  rw [bv0 (by omega) (by omega)] at hh3
  have hb : TpB (sY E) (sZ E) h := ⟨hc.tp.1, hok.2.2.2.2.2.1, hc.tp.2⟩
  refine CP.of (by decide +kernel) (Nat.le_of_ble_eq_true rfl) fun X hX hR hnm => ?_
  show V X G 2 0 0 _ 0 [some (.ref 0), none] [] h
  refine v_aload_n hX rfl qX11_text_0 ?_
  refine v_getR hX g_X11_38 (hs.kd 0 rfl) (hs.rf 5 rfl) qX11_text_1 ?_
  refine v_callVq hX hR k_X11_164 (hs.kd 17 rfl) (c_isFull (by exact hs)) rfl (Nat.le_of_ble_eq_true rfl) rfl (Nat.le_of_ble_eq_true rfl) ⟨Nat.le_of_ble_eq_true rfl, Nat.le_of_ble_eq_true rfl⟩ qX11_text_4 ?_
  rintro _ _ ⟨rfl, rfl⟩
  first | refine v_if_eqB hX 13 qX11_text_7 rfl (fun q7 => ?_) (fun q7 => ?_) | refine v_if_eq hX 13 qX11_text_7 rfl (fun q7 => ?_) (fun q7 => ?_)
  · have hl : sC E < 6 := by
      rcases Nat.lt_or_ge (sC E) 6 with z | z
      · exact z
      · exact absurd (show 6 ≤ hpI h 17 2 by rw [hru.1]; exact nI_le (a := 6) (b := sC E) z (by have := hok.1; omega)) q7
    refine v_aload_n hX rfl qX11_text_13 ?_
    refine v_getR hX g_X11_31 (hs.kd 0 rfl) (hs.rf 4 rfl) qX11_text_14 ?_
    refine v_callVq hX hR k_X11_79 (hs.kd 11 rfl) (c_readText (by exact hs) (by exact hb) (by exact hG)) rfl (Nat.le_of_ble_eq_true rfl) rfl (Nat.le_of_ble_eq_true rfl) ⟨Nat.le_of_ble_eq_true rfl, Nat.le_of_ble_eq_true rfl⟩ qX11_text_17 ?_
    rintro _ _ ⟨σ1, x1, rfl, rfl, hf1, hx1⟩
    refine v_istore_n hX (Nat.le_of_ble_eq_true rfl) rfl (ls' := [some _, some _]) rfl qX11_text_20 ?_
    refine v_aload_n hX rfl qX11_text_21 ?_
    refine v_getR hX g_X11_31 (hs.kd 0 rfl) (hs.rf 4 rfl) qX11_text_22 ?_
    refine v_callVq hX hR k_X11_87 (hs.kd 11 rfl) (c_tclear (by exact hs)) rfl (Nat.le_of_ble_eq_true rfl) rfl (Nat.le_of_ble_eq_true rfl) ⟨Nat.le_of_ble_eq_true rfl, Nat.le_of_ble_eq_true rfl⟩ qX11_text_25 ?_
    rintro _ _ ⟨rfl, rfl⟩
    rcases e1 : tTxt (sY E) (sZ E) with g | ⟨⟨c1, v1⟩, ⟨c2, v2⟩, ⟨c3, v3⟩⟩
    · rw [e1] at hx1
      obtain ⟨rfl, hfl⟩ := hx1
      refine v_iload_n hX rfl qX11_text_28 ?_
      first | refine v_if_neB hX 43 qX11_text_29 rfl (fun q29 => ?_) (fun q29 => ?_) | refine v_if_ne hX 43 qX11_text_29 rfl (fun q29 => ?_) (fun q29 => ?_)
      · exact absurd rfl q29
      · skip
        refine v_bipush hX lb_n100 qX11_text_32 ?_
        refine v_aload_n hX rfl qX11_text_34 ?_
        refine v_getR hX g_X11_31 (hs.kd 0 rfl) (hs.rf 4 rfl) qX11_text_35 ?_
        refine v_getIv hX g_X11_167 (Or.inl rfl) (hs.kd 11 rfl) (show _ = nI (pl (sY E) (sZ E) g) from hfl) qX11_text_38 ?_
        refine v_isub hX qX11_text_41 ?_
        refine v_ireturn hX qX11_text_42 (hP _ _ ?_)
        rw [textI, if_neg (by omega), e1]
        have hfy : FrTy h (stI (σ1, h.2) 11 1 0).1 := fun a k ha => by show hpI (stI _ _ _ _) _ _ = _; rw [hpI_st, if_neg (by omega)]; exact hf1 a k (by omega) (by omega)
        exact ⟨rfl, (stI (σ1, h.2) 11 1 0).1, rfl, hc.txt (c := sC E) (T := sT E) hfy rfl (Nat.le_refl _) (fun _ _ => rfl) (hru.fr (σ := (stI (σ1, h.2) 11 1 0).1) (hf1 17 2 (by omega) (by omega)) (funext fun k => hf1 18 k (by omega) (by omega)) (funext fun k => hf1 19 k (by omega) (by omega))) hok.tape0, fun a ha => funext fun k => hfy a k (by omega)⟩
    · rw [e1] at hx1
      obtain ⟨rfl, l12, l13, l11, l160, hcode, r1, r2, r3⟩ := hx1
      have hruQ : RuOK (stI (σ1, h.2) 11 1 0) (sC E) (sT E) := hru.fr (σ := (stI (σ1, h.2) 11 1 0).1) (hf1 17 2 (by omega) (by omega)) (funext fun k => hf1 18 k (by omega) (by omega)) (funext fun k => hf1 19 k (by omega) (by omega))
      obtain ⟨eb, hbE⟩ : ∃ b, hpI h 19 (sC E * 3) = nI b ∧ b ≤ 800 := by
        obtain ⟨-, -, E', -, E1, -, E3, -⟩ := hru
        exact ⟨E' (sC E * 3), (E1 _ (Nat.le_refl _)).1, by omega⟩
      have hbQ : hpI (stI (σ1, h.2) 11 1 0) 19 (sC E * 3) = nI eb := (hf1 19 (sC E * 3) (by omega) (by omega)).trans hbE.1
      refine v_iload_n hX rfl qX11_text_28 ?_
      first | refine v_if_neB hX 43 qX11_text_29 rfl (fun q29 => ?_) (fun q29 => ?_) | refine v_if_ne hX 43 qX11_text_29 rfl (fun q29 => ?_) (fun q29 => ?_)
      · skip
        refine v_aload_n hX rfl qX11_text_43 ?_
        refine v_getR hX g_X11_38 (hs.kd 0 rfl) (hs.rf 5 rfl) qX11_text_44 ?_
        refine v_aload_n hX rfl qX11_text_47 ?_
        refine v_getR hX g_X11_31 (hs.kd 0 rfl) (hs.rf 4 rfl) qX11_text_48 ?_
        refine v_callVq hX hR k_X11_83 (hs.kd 17 rfl) (c_addFrom (h := (stI (σ1, h.2) 11 1 0)) (by exact hs) (cnt := sC E) (b := eb) (n := c1.length + c2.length + c3.length) (n1 := c1.length) (n2 := c1.length + c2.length) (by exact hruQ.1) (by exact hl) (by exact hbQ) (by exact hbE.2) (by exact l11) (by exact l160) (by exact l12) (by exact l13)) rfl (Nat.le_of_ble_eq_true rfl) rfl (Nat.le_of_ble_eq_true rfl) ⟨Nat.le_of_ble_eq_true rfl, Nat.le_of_ble_eq_true rfl⟩ qX11_text_51 ?_
        rintro _ _ ⟨rfl, σ2, rfl, f2, a2, a18, a19, b1, b2, b3, bq⟩
        refine v_aload_n hX rfl qX11_text_54 ?_
        refine v_getR hX g_X11_38 (hs.kd 0 rfl) (hs.rf 5 rfl) qX11_text_55 ?_
        refine v_getIv hX g_X11_170 (Or.inl rfl) (hs.kd 17 rfl) (show _ = nI (sC E + 1) from a2) qX11_text_58 ?_
        refine v_iconst hX li_1 qX11_text_61 ?_
        refine v_isub hX qX11_text_62 ?_
        refine v_eqI (nI_pred _) ?_
        refine v_ireturn hX qX11_text_63 (hP _ _ ?_)
        rw [textI, if_neg (by omega), e1]
        have hfy : FrTy h σ2 := fun a k ha => (f2 a k (by omega)).trans (by rw [hpI_st, if_neg (by omega)]; exact hf1 a k (by omega) (by omega))
        have hcd : ∀ q x, (c1 ++ c2 ++ c3)[q]? = some x → σ2 18 (eb + q) = x := fun q x hq => by
          have hl2 := (List.getElem?_eq_some_iff.mp hq).1
          rw [List.length_append, List.length_append] at hl2
          rw [bq q hl2]
          have := hcode q x hq
          rwa [Nat.zero_add] at this
        have hnew := hruQ.new hl (σ := σ2) (b := eb) (n1 := c1.length) (n2 := c2.length) (n3 := c3.length) (V3 := tvR (.inr ((c1, v1), (c2, v2), (c3, v3)))) hbQ hbE.2 a2 a18 a19 b1 b2 b3 l160 (fun env => r1 (σ2 18) env eb [] (fun q x hq => hcd q x (by rw [List.append_assoc, List.getElem?_append_left (List.getElem?_eq_some_iff.mp hq).1]; exact hq)) (Nat.le_refl 31)) (fun env => r2 (σ2 18) env (eb + c1.length) [] (fun q x hq => by rw [Nat.add_assoc]; exact hcd _ x (cat_get hq)) (Nat.le_refl 31)) (fun env => r3 (σ2 18) env (eb + (c1.length + c2.length)) [] (fun q x hq => by rw [Nat.add_assoc]; exact hcd _ x (cat_get3 hq)) (Nat.le_refl 31))
        exact ⟨rfl, σ2, rfl, hc.txt (c := sC E + 1) hfy ((f2 11 1 (by omega)).trans rfl) (Nat.le_succ _) (fun t ht => if_neg (by omega)) hnew (hok.txt hl _), fun a ha => funext fun k => hfy a k (by omega)⟩
      · exact absurd q29 (by decide)
  · have hl : sC E = 6 := by
      have z : (6 : Int32) ≤ hpI h 17 2 := q7
      rw [hru.1] at z
      have := nI_le' (i := 6) (s := sC E) (by omega) (by have := hok.1; omega) z
      have := hok.1
      omega
    refine v_bipush hX lb_n4 qX11_text_10 ?_
    refine v_ireturn hX qX11_text_12 (hP _ _ ?_)
    rw [textI, if_pos hl]
    exact ⟨rfl, h.1, rfl, hc, fun a _ => rfl⟩
