/-! the lookers by their kinds, called from outside -/
def fgt : List (Option Value) → List (Option Value) → Prop
  | [], [] => True
  | a :: l, b :: l' => (b = none ∨ b = a) ∧ fgt l l'
  | _, _ => False
theorem fgt_sub : ∀ {ls ls' : List (Option Value)}, fgt ls ls' → ∀ (i : Nat) (v : Value), ls'[i]? = some (some v) → ls[i]? = some (some v) := by
  intro ls
  induction ls with
  | nil => intro ls' h; cases ls' with
    | nil => intro i v hv; exact hv
    | cons b l => exact absurd h (fun z => z)
  | cons a l ih => intro ls' h; cases ls' with
    | nil => exact absurd h (fun z => z)
    | cons b l' =>
      intro i v hv
      cases i with
      | zero =>
        rcases h.1 with e | e
        · subst e; simp at hv
        · subst e; exact hv
      | succ i => simpa using ih h.2 i v (by simpa using hv)
/-- what is known of the locals may be forgotten -/
theorem v_forget {X : Cx} {G : Glb} {nL k n pc : Nat} {Q : State → Prop} {ls ls' : List (Option Value)} {st : List Value} {h : AHp} (e : fgt ls ls') (kk : V X G nL k n Q pc ls' st h) : V X G nL k n Q pc ls st h := fun H locs la hW hS hL => kk H locs la hW hS (hL.to (fgt_sub e))
theorem ws_a : Cond.methodLink RX3 21 (⟨"RingInSand$Plate", "stamps", "()I"⟩ : MethodName) ∈ TG := tg_mem 776 (by decide +kernel) (by decide +kernel)
theorem ws_b : Cond.sameMethod "RingInSand$Plate" "RingInSand$Eyes" "stamps" "()I" ∈ TG := tg_mem 777 (by decide +kernel) (by decide +kernel)
theorem ws_c : Cond.superclass RX3 RX4 ∈ TG := tg_mem 693 (by decide +kernel) (by decide +kernel)
theorem ws_d : Cond.superclass RX4 RX1 ∈ TG := tg_mem 677 (by decide +kernel) (by decide +kernel)
theorem ws_e : Cond.instanceMethod yX1_stamps ∈ TG := tg_mem 766 (by decide +kernel) (by decide +kernel)
section VSS2
variable {X : Cx} {G : Glb} {cc : ByteArray} {nL k n pc pc' : Nat} {rt : Option FieldType} {Q : State → Prop} {ls : List (Option Value)} {st : List Value} {h : AHp} {P : Option Value → AHp → Prop} {d d' kc ks : Nat}
theorem sub2 {vm : Vm} {a b : ClassId} {ka : Class} (h1 : vm.classes[a]? = some ka) (h2 : ka.super = some b) : vm.isSubclass a b = true := by
  have hz : a < vm.classes.size := (Array.getElem?_eq_some_iff.mp h1).1
  obtain ⟨z, hz2⟩ : ∃ z, vm.classes.size = z + 1 := ⟨vm.classes.size - 1, (Nat.succ_pred_eq_of_pos (Nat.lt_of_le_of_lt (Nat.zero_le _) hz)).symm⟩
  show vm.isSubclassAux (vm.classes.size + 1) a b = true
  rw [hz2]
  simp [Vm.isSubclassAux, h1, h2]
/-- super.stamps() of a LAD: its own superclass has none, so it is the one above's -/
theorem v_superStamps (hX : OKx X G RX3 cc nL rt) (hR : xR X = rmC d kc ks) {a : Nat} (hk : Kd h a 3) (hc : CP G m_X1_stamps d' 0 0 [.ref a] h P) (hd' : d' < d) (hcat : (st.map fun v => v.category).sum ≤ 8) (hroom : k ≤ kc ∧ n ≤ ks) (hd : Dq cc pc (.invokespecial 21) 3 pc') (kk : ∀ r h', P r h' → V X G nL k n Q pc' ls (r.toList ++ st) h') : V X G nL k n Q pc ls (.ref a :: st) h := by
  obtain ⟨hd, rfl⟩ := hd
  refine v_run (mc := 0) (ms := 0) (a := #[Value.ref (gAd G a)]) hX (fun H locs la hW hS hL => ?_) kk
  have hw := hX.2.2.2.2.2.1
  have hI := mi_X1_stamps
  have hroomC := roomC (M := m_X1_stamps) (mc := 0) (ms := 0) hR hd' hI.2.2.2
  have hp := preV (C := RX3) (ci := 3) (T := TX3) (N := 1) (av := []) hX hW hk rfl (by omega)
  have hcode : (Cond.code yX1_stamps cX1_stamps 1 (some .int)).before (xa X) (xs X) = true := hw _ hI.1
  have hG := good_all hI.1
  have hB : Back (xl X) (xR X) (xp X) (xe X) (xb X) (xs X) (xa X) yX1_stamps 3 8 (PreOf (xR X) 0 0 (Pcx G [.ref a] h)) (PostOf (Qp G P) 0 0 (AsG G)) := back_of (bytes := cX1_stamps) (maxL := 1) (ret := some .int) (hc (xl X)) hp.1 rfl rfl hroomC.1 hroomC.2 (pay_in hw hG) List.mem_cons_self (fun a' U hW => word_at hW (Or.inl (by first | rfl | simp [Cond.onTables, Cond.keeps, Cond.steady])) (hw _ hI.2.1))
  obtain ⟨-, ⟨cellB, hcB, hoB, hclB⟩, hPc⟩ := hp
  obtain ⟨hfc, kB, hkB, -⟩ := (hX.2.2.2.2.2.2.1.1.1 3 _ rfl).2
  rw [Option.some.inj (hfc.symm.trans hclB)] at hkB
  intro T hT Z
  obtain ⟨mk, methM, hnamed, hmethM, hstM, habM⟩ := Cond.instanceMethod_spec (hw _ ws_e)
  obtain ⟨methM', cM, hmethM', -, -, -, -, -, -, hsigM⟩ := Cond.code_spec hnamed hcode
  cases hmethM.symm.trans hmethM'
  obtain ⟨ps, dk, kp, hps, hdk, hkp, hsuper, -, -, hnid⟩ := Cond.superclass_spec hX.2.2.2.2.1 (hw _ ws_c)
  obtain ⟨ps2, dk2, kp2, hps2, hdk2, hkp2, hsuper2, -, -, -⟩ := Cond.superclass_spec hps (hw _ ws_d)
  have hpm : ps2 = mk.cls := Option.some.inj (hps2.symm.trans (findClass_of_methodNamed hnamed))
  have hsub : (xs X).vm.isSubclass ps mk.cls = true := by rw [← hpm]; exact sub2 hdk2 hsuper2
  obtain ⟨vm₁, X₁, hstep₁⟩ := Z.invokespecialUp hX.1 hX.2.2.2.2.1 (hw _ ws_a) (hw _ ws_b) hnamed hmethM hstM habM (by decide +kernel) hdk hnid hps hsuper hsub (a := gAd G a) (cell := cellB) (by rw [hT]; exact hcB)
    (fun z h => by rw [h] at hoB; cases hoB) hkB (g := F0 (xm X) pc la ((Value.ref a :: st).map (cv G))) rfl (argsL := []) (rest := st.map (cv G)) (by
      have h1 := hsigM
      have h2 : (parseMethodDescriptor yX1_stamps.desc).map (fun d => d.parameters.length) = some 0 := by decide +kernel
      rw [h1] at h2
      exact (Option.some.inj h2).symm) rfl (by rw [hX.2.1]; exact hd)
  obtain ⟨v, ⟨U', l2, c2, s2⟩, X', ⟨g', mk', t, L, e1, e2, hq, h1, hL', h2, h3⟩, hsteps⟩ := hB (xm X) (xM X) (xc X) ⟨T.setVm vm₁, locs, k, n⟩ { F0 (xm X) pc la ((Value.ref a :: st).map (cv G)) with stack := st.map (cv G) } (.invokespecial 21) mk #[Value.ref (gAd G a)] X₁ rfl (hL.1.trans hX.2.2.2.1.symm) (by rw [hX.2.1]; exact hd) (lv_room (catS hcat)) (X₁.named hnamed) ⟨(fitR (mc := 0) (ms := 0) hR hroom).1, (fitR (mc := 0) (ms := 0) hR hroom).2, hPc (T.setVm vm₁) hT X₁.warmed⟩
  dsimp only [Pt.U, Pt.locs, Pt.cells, Pt.slots] at X' e1 e2 h1 h2 h3 hsteps
  subst h1; subst h2; subst h3
  exact ⟨v, (T.setVm vm₁).calling g' mk' #[Value.ref (gAd G a)], t, U', L, hT, X', hL', e1, e2, hq, fun target h => hstep₁ _ (by rw [doInvoke_state]; exact hsteps.trans h)⟩
end VSS2
theorem qX3_stamps_0 : Dq cX3_stamps 0 (.aload_n 0) 1 1 := ⟨by decide +kernel, rfl⟩
theorem qX3_stamps_1 : Dq cX3_stamps 1 (.invokespecial 21) 3 4 := ⟨by decide +kernel, rfl⟩
theorem qX3_stamps_4 : Dq cX3_stamps 4 (.aload_n 0) 1 5 := ⟨by decide +kernel, rfl⟩
theorem qX3_stamps_5 : Dq cX3_stamps 5 (.getfield 11) 3 8 := ⟨by decide +kernel, rfl⟩
theorem qX3_stamps_8 : Dq cX3_stamps 8 (.iadd) 1 9 := ⟨by decide +kernel, rfl⟩
theorem qX3_stamps_9 : Dq cX3_stamps 9 (.ireturn) 1 10 := ⟨by decide +kernel, rfl⟩
set_option maxRecDepth 100000 in
set_option maxHeartbeats 4000000 in
theorem c_X3_stamps_3 {G : Glb} {h : AHp} {a : Nat} (hk : Kd h a 3)  : CP G m_X3_stamps 3 0 0 [.ref a] h (fun r h' => r = some (.int (2 + hpI h a 0)) ∧ h = h') := by
  suffices key : ∀ P : Option Value → AHp → Prop, (∀ r h', (r = some (.int (2 + hpI h a 0)) ∧ h = h') → P r h') → CP G m_X3_stamps 3 0 0 [.ref a] h P from key _ (fun _ _ z => z)
  intro P hP
  refine CP.of (by decide +kernel) (Nat.le_of_ble_eq_true rfl) fun X hX hR hnm => ?_
  show V X G 1 0 0 _ 0 [some (.ref a)] [] h
  refine v_aload_n hX rfl qX3_stamps_0 ?_
  refine v_superStamps hX hR hk (c_X1_stamps_3 hk) (Nat.le_of_ble_eq_true rfl) (Nat.le_of_ble_eq_true rfl) ⟨Nat.le_of_ble_eq_true rfl, Nat.le_of_ble_eq_true rfl⟩ qX3_stamps_1 ?_
  rintro _ _ ⟨rfl, rfl⟩
  refine v_aload_n hX rfl qX3_stamps_4 ?_
  refine v_getI hX g_X3_11 (Or.inl rfl) hk qX3_stamps_5 ?_
  refine v_iadd hX qX3_stamps_8 ?_
  refine v_ireturn hX qX3_stamps_9 (hP _ _ ?_)
  exact ⟨rfl, rfl⟩
theorem qX11_goodHere_0 : Dq cX11_goodHere 0 (.aload_n 0) 1 1 := ⟨by decide +kernel, rfl⟩
theorem qX11_goodHere_1 : Dq cX11_goodHere 1 (.getfield 38) 3 4 := ⟨by decide +kernel, rfl⟩
theorem qX11_goodHere_4 : Dq cX11_goodHere 4 (.getfield 127) 3 7 := ⟨by decide +kernel, rfl⟩
theorem qX11_goodHere_7 : Dq cX11_goodHere 7 (.ifCond .eq 7) 3 10 := ⟨by decide +kernel, rfl⟩
theorem qX11_goodHere_10 : Dq cX11_goodHere 10 (.iconst 0) 1 11 := ⟨by decide +kernel, rfl⟩
theorem qX11_goodHere_11 : Dq cX11_goodHere 11 (.goto 27) 3 14 := ⟨by decide +kernel, rfl⟩
theorem qX11_goodHere_14 : Dq cX11_goodHere 14 (.aload_n 1) 1 15 := ⟨by decide +kernel, rfl⟩
theorem qX11_goodHere_15 : Dq cX11_goodHere 15 (.aload_n 0) 1 16 := ⟨by decide +kernel, rfl⟩
theorem qX11_goodHere_16 : Dq cX11_goodHere 16 (.getfield 38) 3 19 := ⟨by decide +kernel, rfl⟩
theorem qX11_goodHere_19 : Dq cX11_goodHere 19 (.getfield 124) 3 22 := ⟨by decide +kernel, rfl⟩
theorem qX11_goodHere_22 : Dq cX11_goodHere 22 (.aload_n 0) 1 23 := ⟨by decide +kernel, rfl⟩
theorem qX11_goodHere_23 : Dq cX11_goodHere 23 (.getfield 38) 3 26 := ⟨by decide +kernel, rfl⟩
theorem qX11_goodHere_26 : Dq cX11_goodHere 26 (.getfield 131) 3 29 := ⟨by decide +kernel, rfl⟩
theorem qX11_goodHere_29 : Dq cX11_goodHere 29 (.invokevirtual 365) 3 32 := ⟨by decide +kernel, rfl⟩
theorem qX11_goodHere_32 : Dq cX11_goodHere 32 (.iconst 0) 1 33 := ⟨by decide +kernel, rfl⟩
theorem qX11_goodHere_33 : Dq cX11_goodHere 33 (.bipush 100) 2 35 := ⟨by decide +kernel, rfl⟩
theorem qX11_goodHere_35 : Dq cX11_goodHere 35 (.invokestatic 368) 3 38 := ⟨by decide +kernel, rfl⟩
theorem qX11_goodHere_38 : Dq cX11_goodHere 38 (.ireturn) 1 39 := ⟨by decide +kernel, rfl⟩
set_option maxRecDepth 100000 in
set_option maxHeartbeats 4000000 in
theorem c_goodHere {G : Glb} {h : AHp} (hs : ShC h) {k a : Nat} {nn : Int32} (hk6 : k < 6) (hk : Kd h a (kcl k)) (hn : hpI h a 0 = nn)  : CP G m_X11_goodHere 4 0 0 [.ref 0, .ref a] h (fun r h' => r = some (.int (if hpI h 17 11 = 0 then bnd (fdR k nn (hpI h 17 10) (hpI h 17 12)) 0 100 else 0)) ∧ h = h') := by
  suffices key : ∀ P : Option Value → AHp → Prop, (∀ r h', (r = some (.int (if hpI h 17 11 = 0 then bnd (fdR k nn (hpI h 17 10) (hpI h 17 12)) 0 100 else 0)) ∧ h = h') → P r h') → CP G m_X11_goodHere 4 0 0 [.ref 0, .ref a] h P from key _ (fun _ _ z => z)
  intro P hP
  refine CP.of (by decide +kernel) (Nat.le_of_ble_eq_true rfl) fun X hX hR hnm => ?_
  show V X G 2 0 0 _ 0 [some (.ref 0), some (.ref a)] [] h
  subst hn
  refine v_aload_n hX rfl qX11_goodHere_0 ?_
  refine v_getR hX g_X11_38 (hs.kd 0 rfl) (hs.rf 5 rfl) qX11_goodHere_1 ?_
  refine v_getI hX g_X11_127 (Or.inr rfl) (hs.kd 17 rfl) qX11_goodHere_4 ?_
  first | refine v_if_eqB hX 14 qX11_goodHere_7 rfl (fun q7 => ?_) (fun q7 => ?_) | refine v_if_eq hX 14 qX11_goodHere_7 rfl (fun q7 => ?_) (fun q7 => ?_)
  · skip
    refine v_aload_n hX rfl qX11_goodHere_14 ?_
    refine v_aload_n hX rfl qX11_goodHere_15 ?_
    refine v_getR hX g_X11_38 (hs.kd 0 rfl) (hs.rf 5 rfl) qX11_goodHere_16 ?_
    refine v_getI hX g_X11_124 (Or.inl rfl) (hs.kd 17 rfl) qX11_goodHere_19 ?_
    refine v_aload_n hX rfl qX11_goodHere_22 ?_
    refine v_getR hX g_X11_38 (hs.kd 0 rfl) (hs.rf 5 rfl) qX11_goodHere_23 ?_
    refine v_getI hX g_X11_131 (Or.inl rfl) (hs.kd 17 rfl) qX11_goodHere_26 ?_
    have hk0 : k = 0 ∨ k = 1 ∨ k = 2 ∨ k = 3 ∨ k = 4 ∨ k = 5 := by omega
    rcases hk0 with rfl | rfl | rfl | rfl | rfl | rfl
    · skip
      refine v_callUq hX hR k_X11_365_1 hk (c_X1_finds_1 (by exact hk) _ _) rfl (Nat.le_of_ble_eq_true rfl) rfl (Nat.le_of_ble_eq_true rfl) ⟨Nat.le_of_ble_eq_true rfl, Nat.le_of_ble_eq_true rfl⟩ qX11_goodHere_29 ?_
      rintro _ _ ⟨rfl, rfl⟩
      refine v_iconst hX li_0 qX11_goodHere_32 ?_
      refine v_bipush hX lb_100 qX11_goodHere_33 ?_
      refine v_callSq hX hR k_X11_368 (c_bounded _ _ _) rfl (Nat.le_of_ble_eq_true rfl) rfl (Nat.le_of_ble_eq_true rfl) ⟨Nat.le_of_ble_eq_true rfl, Nat.le_of_ble_eq_true rfl⟩ qX11_goodHere_35 ?_
      rintro _ _ ⟨rfl, rfl⟩
      refine v_ireturn hX qX11_goodHere_38 (hP _ _ ?_)
      first | exact ⟨(congrArg (fun z => some (Value.int z)) (if_pos q7)).symm, rfl⟩ | exact ⟨(congrArg (fun z => some (Value.int z)) (if_neg q7)).symm, rfl⟩
    · skip
      refine v_callUq hX hR k_X11_365_2 hk (c_X2_finds_2 (by exact hk) _ _) rfl (Nat.le_of_ble_eq_true rfl) rfl (Nat.le_of_ble_eq_true rfl) ⟨Nat.le_of_ble_eq_true rfl, Nat.le_of_ble_eq_true rfl⟩ qX11_goodHere_29 ?_
      rintro _ _ ⟨rfl, rfl⟩
      refine v_iconst hX li_0 qX11_goodHere_32 ?_
      refine v_bipush hX lb_100 qX11_goodHere_33 ?_
      refine v_callSq hX hR k_X11_368 (c_bounded _ _ _) rfl (Nat.le_of_ble_eq_true rfl) rfl (Nat.le_of_ble_eq_true rfl) ⟨Nat.le_of_ble_eq_true rfl, Nat.le_of_ble_eq_true rfl⟩ qX11_goodHere_35 ?_
      rintro _ _ ⟨rfl, rfl⟩
      refine v_ireturn hX qX11_goodHere_38 (hP _ _ ?_)
      first | exact ⟨(congrArg (fun z => some (Value.int z)) (if_pos q7)).symm, rfl⟩ | exact ⟨(congrArg (fun z => some (Value.int z)) (if_neg q7)).symm, rfl⟩
    · skip
      refine v_callUq hX hR k_X11_365_7 hk (c_X7_finds_7 (by exact hk) _ _) rfl (Nat.le_of_ble_eq_true rfl) rfl (Nat.le_of_ble_eq_true rfl) ⟨Nat.le_of_ble_eq_true rfl, Nat.le_of_ble_eq_true rfl⟩ qX11_goodHere_29 ?_
      rintro _ _ ⟨rfl, rfl⟩
      refine v_iconst hX li_0 qX11_goodHere_32 ?_
      refine v_bipush hX lb_100 qX11_goodHere_33 ?_
      refine v_callSq hX hR k_X11_368 (c_bounded _ _ _) rfl (Nat.le_of_ble_eq_true rfl) rfl (Nat.le_of_ble_eq_true rfl) ⟨Nat.le_of_ble_eq_true rfl, Nat.le_of_ble_eq_true rfl⟩ qX11_goodHere_35 ?_
      rintro _ _ ⟨rfl, rfl⟩
      refine v_ireturn hX qX11_goodHere_38 (hP _ _ ?_)
      first | exact ⟨(congrArg (fun z => some (Value.int z)) (if_pos q7)).symm, rfl⟩ | exact ⟨(congrArg (fun z => some (Value.int z)) (if_neg q7)).symm, rfl⟩
    · skip
      refine v_callUq hX hR k_X11_365_4 hk (c_X4_finds_4 (by exact hk) _ _) rfl (Nat.le_of_ble_eq_true rfl) rfl (Nat.le_of_ble_eq_true rfl) ⟨Nat.le_of_ble_eq_true rfl, Nat.le_of_ble_eq_true rfl⟩ qX11_goodHere_29 ?_
      rintro _ _ ⟨rfl, rfl⟩
      refine v_iconst hX li_0 qX11_goodHere_32 ?_
      refine v_bipush hX lb_100 qX11_goodHere_33 ?_
      refine v_callSq hX hR k_X11_368 (c_bounded _ _ _) rfl (Nat.le_of_ble_eq_true rfl) rfl (Nat.le_of_ble_eq_true rfl) ⟨Nat.le_of_ble_eq_true rfl, Nat.le_of_ble_eq_true rfl⟩ qX11_goodHere_35 ?_
      rintro _ _ ⟨rfl, rfl⟩
      refine v_ireturn hX qX11_goodHere_38 (hP _ _ ?_)
      first | exact ⟨(congrArg (fun z => some (Value.int z)) (if_pos q7)).symm, rfl⟩ | exact ⟨(congrArg (fun z => some (Value.int z)) (if_neg q7)).symm, rfl⟩
    · skip
      refine v_callUq hX hR k_X11_365_8 hk (c_X8_finds_8 (by exact hk) _ _) rfl (Nat.le_of_ble_eq_true rfl) rfl (Nat.le_of_ble_eq_true rfl) ⟨Nat.le_of_ble_eq_true rfl, Nat.le_of_ble_eq_true rfl⟩ qX11_goodHere_29 ?_
      rintro _ _ ⟨rfl, rfl⟩
      refine v_iconst hX li_0 qX11_goodHere_32 ?_
      refine v_bipush hX lb_100 qX11_goodHere_33 ?_
      refine v_callSq hX hR k_X11_368 (c_bounded _ _ _) rfl (Nat.le_of_ble_eq_true rfl) rfl (Nat.le_of_ble_eq_true rfl) ⟨Nat.le_of_ble_eq_true rfl, Nat.le_of_ble_eq_true rfl⟩ qX11_goodHere_35 ?_
      rintro _ _ ⟨rfl, rfl⟩
      refine v_ireturn hX qX11_goodHere_38 (hP _ _ ?_)
      first | exact ⟨(congrArg (fun z => some (Value.int z)) (if_pos q7)).symm, rfl⟩ | exact ⟨(congrArg (fun z => some (Value.int z)) (if_neg q7)).symm, rfl⟩
    · skip
      refine v_callUq hX hR k_X11_365_3 hk (c_X3_finds_3 (by exact hk) _ _) rfl (Nat.le_of_ble_eq_true rfl) rfl (Nat.le_of_ble_eq_true rfl) ⟨Nat.le_of_ble_eq_true rfl, Nat.le_of_ble_eq_true rfl⟩ qX11_goodHere_29 ?_
      rintro _ _ ⟨rfl, rfl⟩
      refine v_iconst hX li_0 qX11_goodHere_32 ?_
      refine v_bipush hX lb_100 qX11_goodHere_33 ?_
      refine v_callSq hX hR k_X11_368 (c_bounded _ _ _) rfl (Nat.le_of_ble_eq_true rfl) rfl (Nat.le_of_ble_eq_true rfl) ⟨Nat.le_of_ble_eq_true rfl, Nat.le_of_ble_eq_true rfl⟩ qX11_goodHere_35 ?_
      rintro _ _ ⟨rfl, rfl⟩
      refine v_ireturn hX qX11_goodHere_38 (hP _ _ ?_)
      first | exact ⟨(congrArg (fun z => some (Value.int z)) (if_pos q7)).symm, rfl⟩ | exact ⟨(congrArg (fun z => some (Value.int z)) (if_neg q7)).symm, rfl⟩
  · skip
    refine v_iconst hX li_0 qX11_goodHere_10 ?_
    refine v_goto hX 38 qX11_goodHere_11 rfl ?_
    refine v_ireturn hX qX11_goodHere_38 (hP _ _ ?_)
    first | exact ⟨(congrArg (fun z => some (Value.int z)) (if_pos q7)).symm, rfl⟩ | exact ⟨(congrArg (fun z => some (Value.int z)) (if_neg q7)).symm, rfl⟩
theorem qX11_takesOf_0 : Dq cX11_takesOf 0 (.iconst 1) 1 1 := ⟨by decide +kernel, rfl⟩
theorem qX11_takesOf_1 : Dq cX11_takesOf 1 (.aload_n 0) 1 2 := ⟨by decide +kernel, rfl⟩
theorem qX11_takesOf_2 : Dq cX11_takesOf 2 (.invokevirtual 372) 3 5 := ⟨by decide +kernel, rfl⟩
theorem qX11_takesOf_5 : Dq cX11_takesOf 5 (.invokestatic 335) 3 8 := ⟨by decide +kernel, rfl⟩
theorem qX11_takesOf_8 : Dq cX11_takesOf 8 (.ireturn) 1 9 := ⟨by decide +kernel, rfl⟩
set_option maxRecDepth 100000 in
set_option maxHeartbeats 4000000 in
theorem c_takesOf {G : Glb} {h : AHp} (hs : ShC h) {k a : Nat} {nn : Int32} (hk6 : k < 6) (hk : Kd h a (kcl k)) (hn : hpI h a 0 = nn)  : CP G m_X11_takesOf 4 0 0 [.ref a] h (fun r h' => r = some (.int (mxI 1 (tkR k nn))) ∧ h = h') := by
  suffices key : ∀ P : Option Value → AHp → Prop, (∀ r h', (r = some (.int (mxI 1 (tkR k nn))) ∧ h = h') → P r h') → CP G m_X11_takesOf 4 0 0 [.ref a] h P from key _ (fun _ _ z => z)
  intro P hP
  refine CP.of (by decide +kernel) (Nat.le_of_ble_eq_true rfl) fun X hX hR hnm => ?_
  show V X G 1 0 0 _ 0 [some (.ref a)] [] h
  subst hn
  refine v_iconst hX li_1 qX11_takesOf_0 ?_
  refine v_aload_n hX rfl qX11_takesOf_1 ?_
  have hk0 : k = 0 ∨ k = 1 ∨ k = 2 ∨ k = 3 ∨ k = 4 ∨ k = 5 := by omega
  rcases hk0 with rfl | rfl | rfl | rfl | rfl | rfl
  · skip
    refine v_callUq hX hR k_X11_372_1 hk (c_X1_takes_1 (by exact hk)) rfl (Nat.le_of_ble_eq_true rfl) rfl (Nat.le_of_ble_eq_true rfl) ⟨Nat.le_of_ble_eq_true rfl, Nat.le_of_ble_eq_true rfl⟩ qX11_takesOf_2 ?_
    rintro _ _ ⟨rfl, rfl⟩
    refine v_max hX hR (Nat.le_of_ble_eq_true rfl) k_X11_335 (Nat.le_of_ble_eq_true rfl) ⟨Nat.le_of_ble_eq_true rfl, Nat.le_of_ble_eq_true rfl⟩ qX11_takesOf_5 ?_
    refine v_ireturn hX qX11_takesOf_8 (hP _ _ ?_)
    exact ⟨rfl, rfl⟩
  · skip
    refine v_callUq hX hR k_X11_372_2 hk (c_X2_takes_2 (by exact hk)) rfl (Nat.le_of_ble_eq_true rfl) rfl (Nat.le_of_ble_eq_true rfl) ⟨Nat.le_of_ble_eq_true rfl, Nat.le_of_ble_eq_true rfl⟩ qX11_takesOf_2 ?_
    rintro _ _ ⟨rfl, rfl⟩
    refine v_max hX hR (Nat.le_of_ble_eq_true rfl) k_X11_335 (Nat.le_of_ble_eq_true rfl) ⟨Nat.le_of_ble_eq_true rfl, Nat.le_of_ble_eq_true rfl⟩ qX11_takesOf_5 ?_
    refine v_ireturn hX qX11_takesOf_8 (hP _ _ ?_)
    exact ⟨rfl, rfl⟩
  · skip
    refine v_callUq hX hR k_X11_372_7 hk (c_X7_takes_7 (by exact hk)) rfl (Nat.le_of_ble_eq_true rfl) rfl (Nat.le_of_ble_eq_true rfl) ⟨Nat.le_of_ble_eq_true rfl, Nat.le_of_ble_eq_true rfl⟩ qX11_takesOf_2 ?_
    rintro _ _ ⟨rfl, rfl⟩
    refine v_max hX hR (Nat.le_of_ble_eq_true rfl) k_X11_335 (Nat.le_of_ble_eq_true rfl) ⟨Nat.le_of_ble_eq_true rfl, Nat.le_of_ble_eq_true rfl⟩ qX11_takesOf_5 ?_
    refine v_ireturn hX qX11_takesOf_8 (hP _ _ ?_)
    exact ⟨rfl, rfl⟩
  · skip
    refine v_callUq hX hR k_X11_372_4 hk (c_X4_takes_4 (by exact hk)) rfl (Nat.le_of_ble_eq_true rfl) rfl (Nat.le_of_ble_eq_true rfl) ⟨Nat.le_of_ble_eq_true rfl, Nat.le_of_ble_eq_true rfl⟩ qX11_takesOf_2 ?_
    rintro _ _ ⟨rfl, rfl⟩
    refine v_max hX hR (Nat.le_of_ble_eq_true rfl) k_X11_335 (Nat.le_of_ble_eq_true rfl) ⟨Nat.le_of_ble_eq_true rfl, Nat.le_of_ble_eq_true rfl⟩ qX11_takesOf_5 ?_
    refine v_ireturn hX qX11_takesOf_8 (hP _ _ ?_)
    exact ⟨rfl, rfl⟩
  · skip
    refine v_callUq hX hR k_X11_372_8 hk (c_X8_takes_8 (by exact hk)) rfl (Nat.le_of_ble_eq_true rfl) rfl (Nat.le_of_ble_eq_true rfl) ⟨Nat.le_of_ble_eq_true rfl, Nat.le_of_ble_eq_true rfl⟩ qX11_takesOf_2 ?_
    rintro _ _ ⟨rfl, rfl⟩
    refine v_max hX hR (Nat.le_of_ble_eq_true rfl) k_X11_335 (Nat.le_of_ble_eq_true rfl) ⟨Nat.le_of_ble_eq_true rfl, Nat.le_of_ble_eq_true rfl⟩ qX11_takesOf_5 ?_
    refine v_ireturn hX qX11_takesOf_8 (hP _ _ ?_)
    exact ⟨rfl, rfl⟩
  · skip
    refine v_callUq hX hR k_X11_372_3 hk (c_X3_takes_3 (by exact hk)) rfl (Nat.le_of_ble_eq_true rfl) rfl (Nat.le_of_ble_eq_true rfl) ⟨Nat.le_of_ble_eq_true rfl, Nat.le_of_ble_eq_true rfl⟩ qX11_takesOf_2 ?_
    rintro _ _ ⟨rfl, rfl⟩
    refine v_max hX hR (Nat.le_of_ble_eq_true rfl) k_X11_335 (Nat.le_of_ble_eq_true rfl) ⟨Nat.le_of_ble_eq_true rfl, Nat.le_of_ble_eq_true rfl⟩ qX11_takesOf_5 ?_
    refine v_ireturn hX qX11_takesOf_8 (hP _ _ ?_)
    exact ⟨rfl, rfl⟩
theorem qX11_stampsOf_0 : Dq cX11_stampsOf 0 (.iconst 0) 1 1 := ⟨by decide +kernel, rfl⟩
theorem qX11_stampsOf_1 : Dq cX11_stampsOf 1 (.aload_n 0) 1 2 := ⟨by decide +kernel, rfl⟩
theorem qX11_stampsOf_2 : Dq cX11_stampsOf 2 (.invokevirtual 375) 3 5 := ⟨by decide +kernel, rfl⟩
theorem qX11_stampsOf_5 : Dq cX11_stampsOf 5 (.invokestatic 335) 3 8 := ⟨by decide +kernel, rfl⟩
theorem qX11_stampsOf_8 : Dq cX11_stampsOf 8 (.ireturn) 1 9 := ⟨by decide +kernel, rfl⟩
set_option maxRecDepth 100000 in
set_option maxHeartbeats 4000000 in
theorem c_stampsOf {G : Glb} {h : AHp} (hs : ShC h) {k a : Nat} {nn : Int32} (hk6 : k < 6) (hk : Kd h a (kcl k)) (hn : hpI h a 0 = nn)  : CP G m_X11_stampsOf 4 0 0 [.ref a] h (fun r h' => r = some (.int (mxI 0 (smR k nn))) ∧ h = h') := by
  suffices key : ∀ P : Option Value → AHp → Prop, (∀ r h', (r = some (.int (mxI 0 (smR k nn))) ∧ h = h') → P r h') → CP G m_X11_stampsOf 4 0 0 [.ref a] h P from key _ (fun _ _ z => z)
  intro P hP
  refine CP.of (by decide +kernel) (Nat.le_of_ble_eq_true rfl) fun X hX hR hnm => ?_
  show V X G 1 0 0 _ 0 [some (.ref a)] [] h
  subst hn
  refine v_iconst hX li_0 qX11_stampsOf_0 ?_
  refine v_aload_n hX rfl qX11_stampsOf_1 ?_
  have hk0 : k = 0 ∨ k = 1 ∨ k = 2 ∨ k = 3 ∨ k = 4 ∨ k = 5 := by omega
  rcases hk0 with rfl | rfl | rfl | rfl | rfl | rfl
  · skip
    refine v_callUq hX hR k_X11_375_1 hk (c_X1_stamps_1 (by exact hk)) rfl (Nat.le_of_ble_eq_true rfl) rfl (Nat.le_of_ble_eq_true rfl) ⟨Nat.le_of_ble_eq_true rfl, Nat.le_of_ble_eq_true rfl⟩ qX11_stampsOf_2 ?_
    rintro _ _ ⟨rfl, rfl⟩
    refine v_max hX hR (Nat.le_of_ble_eq_true rfl) k_X11_335 (Nat.le_of_ble_eq_true rfl) ⟨Nat.le_of_ble_eq_true rfl, Nat.le_of_ble_eq_true rfl⟩ qX11_stampsOf_5 ?_
    refine v_ireturn hX qX11_stampsOf_8 (hP _ _ ?_)
    exact ⟨rfl, rfl⟩
  · skip
    refine v_callUq hX hR k_X11_375_2 hk (c_X2_stamps_2 (by exact hk)) rfl (Nat.le_of_ble_eq_true rfl) rfl (Nat.le_of_ble_eq_true rfl) ⟨Nat.le_of_ble_eq_true rfl, Nat.le_of_ble_eq_true rfl⟩ qX11_stampsOf_2 ?_
    rintro _ _ ⟨rfl, rfl⟩
    refine v_max hX hR (Nat.le_of_ble_eq_true rfl) k_X11_335 (Nat.le_of_ble_eq_true rfl) ⟨Nat.le_of_ble_eq_true rfl, Nat.le_of_ble_eq_true rfl⟩ qX11_stampsOf_5 ?_
    refine v_ireturn hX qX11_stampsOf_8 (hP _ _ ?_)
    exact ⟨rfl, rfl⟩
  · skip
    refine v_callUq hX hR k_X11_375_7 hk (c_X7_stamps_7 (by exact hk)) rfl (Nat.le_of_ble_eq_true rfl) rfl (Nat.le_of_ble_eq_true rfl) ⟨Nat.le_of_ble_eq_true rfl, Nat.le_of_ble_eq_true rfl⟩ qX11_stampsOf_2 ?_
    rintro _ _ ⟨rfl, rfl⟩
    refine v_max hX hR (Nat.le_of_ble_eq_true rfl) k_X11_335 (Nat.le_of_ble_eq_true rfl) ⟨Nat.le_of_ble_eq_true rfl, Nat.le_of_ble_eq_true rfl⟩ qX11_stampsOf_5 ?_
    refine v_ireturn hX qX11_stampsOf_8 (hP _ _ ?_)
    exact ⟨rfl, rfl⟩
  · skip
    refine v_callUq hX hR k_X11_375_4 hk (c_X1_stamps_4 (by exact hk)) rfl (Nat.le_of_ble_eq_true rfl) rfl (Nat.le_of_ble_eq_true rfl) ⟨Nat.le_of_ble_eq_true rfl, Nat.le_of_ble_eq_true rfl⟩ qX11_stampsOf_2 ?_
    rintro _ _ ⟨rfl, rfl⟩
    refine v_max hX hR (Nat.le_of_ble_eq_true rfl) k_X11_335 (Nat.le_of_ble_eq_true rfl) ⟨Nat.le_of_ble_eq_true rfl, Nat.le_of_ble_eq_true rfl⟩ qX11_stampsOf_5 ?_
    refine v_ireturn hX qX11_stampsOf_8 (hP _ _ ?_)
    exact ⟨rfl, rfl⟩
  · skip
    refine v_callUq hX hR k_X11_375_8 hk (c_X2_stamps_8 (by exact hk)) rfl (Nat.le_of_ble_eq_true rfl) rfl (Nat.le_of_ble_eq_true rfl) ⟨Nat.le_of_ble_eq_true rfl, Nat.le_of_ble_eq_true rfl⟩ qX11_stampsOf_2 ?_
    rintro _ _ ⟨rfl, rfl⟩
    refine v_max hX hR (Nat.le_of_ble_eq_true rfl) k_X11_335 (Nat.le_of_ble_eq_true rfl) ⟨Nat.le_of_ble_eq_true rfl, Nat.le_of_ble_eq_true rfl⟩ qX11_stampsOf_5 ?_
    refine v_ireturn hX qX11_stampsOf_8 (hP _ _ ?_)
    exact ⟨rfl, rfl⟩
  · skip
    refine v_callUq hX hR k_X11_375_3 hk (c_X3_stamps_3 (by exact hk)) rfl (Nat.le_of_ble_eq_true rfl) rfl (Nat.le_of_ble_eq_true rfl) ⟨Nat.le_of_ble_eq_true rfl, Nat.le_of_ble_eq_true rfl⟩ qX11_stampsOf_2 ?_
    rintro _ _ ⟨rfl, rfl⟩
    refine v_max hX hR (Nat.le_of_ble_eq_true rfl) k_X11_335 (Nat.le_of_ble_eq_true rfl) ⟨Nat.le_of_ble_eq_true rfl, Nat.le_of_ble_eq_true rfl⟩ qX11_stampsOf_5 ?_
    refine v_ireturn hX qX11_stampsOf_8 (hP _ _ ?_)
    exact ⟨rfl, rfl⟩
theorem isS_j {j : Nat} (h : j < 4) : isS (30 + 2 * j) := by
  have hj : j = 0 ∨ j = 1 ∨ j = 2 ∨ j = 3 := by omega
  rcases hj with rfl | rfl | rfl | rfl
  · exact Or.inl rfl
  · exact Or.inr (Or.inl rfl)
  · exact Or.inr (Or.inr (Or.inl rfl))
  · exact Or.inr (Or.inr (Or.inr rfl))
theorem ShC.el {h : AHp} (hs : ShC h) {j : Nat} (hj4 : j < 4) : hpR h 29 j = some (30 + 2 * j) := by
  have hj : j = 0 ∨ j = 1 ∨ j = 2 ∨ j = 3 := by omega
  rcases hj with rfl | rfl | rfl | rfl
  · exact hs.rf 29 rfl
  · exact hs.rf 30 rfl
  · exact hs.rf 31 rfl
  · exact hs.rf 32 rfl
theorem qX11_sheetAt_0 : Dq cX11_sheetAt 0 (.iload_n 1) 1 1 := ⟨by decide +kernel, rfl⟩
theorem qX11_sheetAt_1 : Dq cX11_sheetAt 1 (.iconst 0) 1 2 := ⟨by decide +kernel, rfl⟩
theorem qX11_sheetAt_2 : Dq cX11_sheetAt 2 (.iconst 3) 1 3 := ⟨by decide +kernel, rfl⟩
theorem qX11_sheetAt_3 : Dq cX11_sheetAt 3 (.invokestatic 110) 3 6 := ⟨by decide +kernel, rfl⟩
theorem qX11_sheetAt_6 : Dq cX11_sheetAt 6 (.ifCond .eq 12) 3 9 := ⟨by decide +kernel, rfl⟩
theorem qX11_sheetAt_9 : Dq cX11_sheetAt 9 (.aload_n 0) 1 10 := ⟨by decide +kernel, rfl⟩
theorem qX11_sheetAt_10 : Dq cX11_sheetAt 10 (.getfield 51) 3 13 := ⟨by decide +kernel, rfl⟩
theorem qX11_sheetAt_13 : Dq cX11_sheetAt 13 (.iload_n 1) 1 14 := ⟨by decide +kernel, rfl⟩
theorem qX11_sheetAt_14 : Dq cX11_sheetAt 14 (.aaload) 1 15 := ⟨by decide +kernel, rfl⟩
theorem qX11_sheetAt_15 : Dq cX11_sheetAt 15 (.goto 4) 3 18 := ⟨by decide +kernel, rfl⟩
theorem qX11_sheetAt_18 : Dq cX11_sheetAt 18 (.aconst_null) 1 19 := ⟨by decide +kernel, rfl⟩
theorem qX11_sheetAt_19 : Dq cX11_sheetAt 19 (.areturn) 1 20 := ⟨by decide +kernel, rfl⟩
set_option maxRecDepth 100000 in
set_option maxHeartbeats 4000000 in
theorem c_sheetAt {G : Glb} {h : AHp} (hs : ShC h) (i : Int32) : CP G m_X11_sheetAt 2 0 0 [.ref 0, .int i] h (fun r h' => ((∃ j, j < 4 ∧ i = nI j ∧ r = some (.ref (30 + 2 * j))) ∨ (¬ (0 ≤ i ∧ i ≤ 3) ∧ r = some .null)) ∧ h = h') := by
  suffices key : ∀ P : Option Value → AHp → Prop, (∀ r h', (((∃ j, j < 4 ∧ i = nI j ∧ r = some (.ref (30 + 2 * j))) ∨ (¬ (0 ≤ i ∧ i ≤ 3) ∧ r = some .null)) ∧ h = h') → P r h') → CP G m_X11_sheetAt 2 0 0 [.ref 0, .int i] h P from key _ (fun _ _ z => z)
  intro P hP
  refine CP.of (by decide +kernel) (Nat.le_of_ble_eq_true rfl) fun X hX hR hnm => ?_
  show V X G 2 0 0 _ 0 [some (.ref 0), some (.int i)] [] h
  refine v_iload_n hX rfl qX11_sheetAt_0 ?_
  refine v_iconst hX li_0 qX11_sheetAt_1 ?_
  refine v_iconst hX li_3 qX11_sheetAt_2 ?_
  refine v_callSq hX hR k_X11_110 (c_isWithin _ _ _) rfl (Nat.le_of_ble_eq_true rfl) rfl (Nat.le_of_ble_eq_true rfl) ⟨Nat.le_of_ble_eq_true rfl, Nat.le_of_ble_eq_true rfl⟩ qX11_sheetAt_3 ?_
  rintro _ _ ⟨rfl, rfl⟩
  first | refine v_if_eqB hX 18 qX11_sheetAt_6 rfl (fun q6 => ?_) (fun q6 => ?_) | refine v_if_eq hX 18 qX11_sheetAt_6 rfl (fun q6 => ?_) (fun q6 => ?_)
  · skip
    refine v_null hX qX11_sheetAt_18 ?_
    refine v_areturn hX (by first | exact Or.inl rfl | exact Or.inr ⟨_, rfl⟩) qX11_sheetAt_19 (hP _ _ ?_)
    first | exact ⟨Or.inl ⟨j, hj, rfl, rfl⟩, rfl⟩ | exact ⟨Or.inr ⟨q6, rfl⟩, rfl⟩
  · obtain ⟨j, hj, rfl⟩ := ofRange (s := 4) q6.1 (by have h1 := leI.mp q6.2; have h2 : (3 : Int32).toInt = 3 := rfl; have h3 : (nI 4).toInt = 4 := rfl; rw [ltI]; omega) (by omega)
    refine v_aload_n hX rfl qX11_sheetAt_9 ?_
    refine v_getR hX g_X11_51 (hs.kd 0 rfl) (hs.rf 7 rfl) qX11_sheetAt_10 ?_
    refine v_iload_n hX rfl qX11_sheetAt_13 ?_
    refine v_aald hX (Or.inr rfl) (hs.kd 29 rfl) (hs.ln 29 rfl) (vp_in_nI (n := j) (by omega) (by omega)) (r := some (30 + 2 * j)) (by rw [nI_clamp (by omega)]; exact hs.el hj) qX11_sheetAt_14 ?_
    refine v_goto hX 19 qX11_sheetAt_15 rfl ?_
    refine v_areturn hX (by first | exact Or.inl rfl | exact Or.inr ⟨_, rfl⟩) qX11_sheetAt_19 (hP _ _ ?_)
    first | exact ⟨Or.inl ⟨j, hj, rfl, rfl⟩, rfl⟩ | exact ⟨Or.inr ⟨q6, rfl⟩, rfl⟩
