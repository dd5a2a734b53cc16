/-! the reference: a part, the whole text, text() -/
theorem qX12_part_0 : Dq cX12_part 0 (.iload_n 1) 1 1 := ⟨by decide +kernel, rfl⟩
theorem qX12_part_1 : Dq cX12_part 1 (.ifCond .ne 7) 3 4 := ⟨by decide +kernel, rfl⟩
theorem qX12_part_4 : Dq cX12_part 4 (.aload_n 0) 1 5 := ⟨by decide +kernel, rfl⟩
theorem qX12_part_5 : Dq cX12_part 5 (.invokevirtual 170) 3 8 := ⟨by decide +kernel, rfl⟩
theorem qX12_part_8 : Dq cX12_part 8 (.aload_n 0) 1 9 := ⟨by decide +kernel, rfl⟩
theorem qX12_part_9 : Dq cX12_part 9 (.getfield 156) 3 12 := ⟨by decide +kernel, rfl⟩
theorem qX12_part_12 : Dq cX12_part 12 (.ifCond .ne 7) 3 15 := ⟨by decide +kernel, rfl⟩
theorem qX12_part_15 : Dq cX12_part 15 (.aload_n 0) 1 16 := ⟨by decide +kernel, rfl⟩
theorem qX12_part_16 : Dq cX12_part 16 (.invokevirtual 173) 3 19 := ⟨by decide +kernel, rfl⟩
theorem qX12_part_19 : Dq cX12_part 19 (.aload_n 0) 1 20 := ⟨by decide +kernel, rfl⟩
theorem qX12_part_20 : Dq cX12_part 20 (.getfield 156) 3 23 := ⟨by decide +kernel, rfl⟩
theorem qX12_part_23 : Dq cX12_part 23 (.ifCond .eq 7) 3 26 := ⟨by decide +kernel, rfl⟩
theorem qX12_part_26 : Dq cX12_part 26 (.iconst 0) 1 27 := ⟨by decide +kernel, rfl⟩
theorem qX12_part_27 : Dq cX12_part 27 (.goto 7) 3 30 := ⟨by decide +kernel, rfl⟩
theorem qX12_part_30 : Dq cX12_part 30 (.aload_n 0) 1 31 := ⟨by decide +kernel, rfl⟩
theorem qX12_part_31 : Dq cX12_part 31 (.invokevirtual 209) 3 34 := ⟨by decide +kernel, rfl⟩
theorem qX12_part_34 : Dq cX12_part 34 (.istore_n 2) 1 35 := ⟨by decide +kernel, rfl⟩
theorem qX12_part_35 : Dq cX12_part 35 (.aload_n 0) 1 36 := ⟨by decide +kernel, rfl⟩
theorem qX12_part_36 : Dq cX12_part 36 (.bipush 59) 2 38 := ⟨by decide +kernel, rfl⟩
theorem qX12_part_38 : Dq cX12_part 38 (.invokevirtual 198) 3 41 := ⟨by decide +kernel, rfl⟩
theorem qX12_part_41 : Dq cX12_part 41 (.ifCond .ne 7) 3 44 := ⟨by decide +kernel, rfl⟩
theorem qX12_part_44 : Dq cX12_part 44 (.aload_n 0) 1 45 := ⟨by decide +kernel, rfl⟩
theorem qX12_part_45 : Dq cX12_part 45 (.invokevirtual 170) 3 48 := ⟨by decide +kernel, rfl⟩
theorem qX12_part_48 : Dq cX12_part 48 (.aload_n 0) 1 49 := ⟨by decide +kernel, rfl⟩
theorem qX12_part_49 : Dq cX12_part 49 (.getfield 156) 3 52 := ⟨by decide +kernel, rfl⟩
theorem qX12_part_52 : Dq cX12_part 52 (.ifCond .ne 7) 3 55 := ⟨by decide +kernel, rfl⟩
theorem qX12_part_55 : Dq cX12_part 55 (.aload_n 0) 1 56 := ⟨by decide +kernel, rfl⟩
theorem qX12_part_56 : Dq cX12_part 56 (.invokevirtual 173) 3 59 := ⟨by decide +kernel, rfl⟩
theorem qX12_part_59 : Dq cX12_part 59 (.iload_n 2) 1 60 := ⟨by decide +kernel, rfl⟩
theorem qX12_part_60 : Dq cX12_part 60 (.ireturn) 1 61 := ⟨by decide +kernel, rfl⟩
set_option maxRecDepth 100000 in
set_option maxHeartbeats 4000000 in
theorem m_part {G : Glb} {by' : Nat → Int32} {sz t : Nat} {key : Int32} {kw : List Int32} (hkey : (key, kw) ∈ keyL) (h : AHp) (i : Nat) (env : Nat → Int32) (hm : ShM h) (ha : MAt by' sz t 0 i h) (he : EnvM h env) : CP G m_X12_part 59 0 0 [.ref 38, .int (bz (tkK by' sz i = key))] h (fun r h' => ∃ σ J x, r = some (.int x) ∧ h' = mkH h σ J ∧ FrE h σ J ∧ PoM by' sz t 0 env h σ J x (tPart by' sz key i)) := by
  suffices key : ∀ P : Option Value → AHp → Prop, (∀ r h', (∃ σ J x, r = some (.int x) ∧ h' = mkH h σ J ∧ FrE h σ J ∧ PoM by' sz t 0 env h σ J x (tPart by' sz key i)) → P r h') → CP G m_X12_part 59 0 0 [.ref 38, .int (bz (tkK by' sz i = key))] h P from key _ (fun _ _ z => z)
  intro P hP
  refine CP.of (by decide +kernel) (Nat.le_of_ble_eq_true rfl) fun X hX hR hnm => ?_
  show V X G 3 0 0 _ 0 [some (.ref 38), some (.int (bz (tkK by' sz i = key))), none] [] h
  refine v_iload_n hX rfl qX12_part_0 ?_
  first | refine v_if_neB hX 8 qX12_part_1 rfl (fun q1 => ?_) (fun q1 => ?_) | refine v_if_ne hX 8 qX12_part_1 rfl (fun q1 => ?_) (fun q1 => ?_)
  · skip
    refine v_aload_n hX rfl qX12_part_8 ?_
    refine v_getIv hX g_X12_156 (Or.inr rfl) (hm.kd 38 rfl) ha.1.2.2.2.2.2.2 qX12_part_9 ?_
    first | refine v_if_neB hX 19 qX12_part_12 rfl (fun q12 => ?_) (fun q12 => ?_) | refine v_if_ne hX 19 qX12_part_12 rfl (fun q12 => ?_) (fun q12 => ?_)
    · exact absurd rfl q12
    · skip
      refine v_aload_n hX rfl qX12_part_15 ?_
      refine v_callVq hX hR k_X12_173 (hm.kd 38 rfl) (m_nx (by exact hm) (by exact ha) (by exact (Or.inl (MAt.wd1 hkey q1)))) rfl (Nat.le_of_ble_eq_true rfl) rfl (Nat.le_of_ble_eq_true rfl) ⟨Nat.le_of_ble_eq_true rfl, Nat.le_of_ble_eq_true rfl⟩ qX12_part_16 ?_
      rintro _ _ ⟨rfl, σ1, J1, rfl, hf1, ha1⟩
      refine v_aload_n hX rfl qX12_part_19 ?_
      refine v_getIv hX g_X12_156 (Or.inr rfl) (hm.kd 38 rfl) ha1.1.2.2.2.2.2.2 qX12_part_20 ?_
      first | refine v_if_eqB hX 30 qX12_part_23 rfl (fun q23 => ?_) (fun q23 => ?_) | refine v_if_eq hX 30 qX12_part_23 rfl (fun q23 => ?_) (fun q23 => ?_)
      · skip
        refine v_aload_n hX rfl qX12_part_30 ?_
        refine v_callVq hX hR k_X12_209 (hm.kd 38 rfl) ((m_lev 5 0 rfl).2.2 _ (by exact (i + 1)) (by exact env) (by exact hm) (by exact ha1) (by exact (hf1.env he))) rfl (Nat.le_of_ble_eq_true rfl) rfl (Nat.le_of_ble_eq_true rfl) ⟨Nat.le_of_ble_eq_true rfl, Nat.le_of_ble_eq_true rfl⟩ qX12_part_31 ?_
        rintro _ _ ⟨σ2, J2, x2, rfl, rfl, hf2, hp2⟩
        have hf12 := FrE.tr hf1 hf2
        rcases e2 : (tLev by' sz 5).2.2 (i + 1) with g | ⟨j, cs, v⟩
        · rw [e2] at hp2
          refine v_istore_n hX (Nat.le_of_ble_eq_true rfl) rfl (ls' := [some _, some _, some _]) rfl qX12_part_34 ?_
          refine v_aload_n hX rfl qX12_part_35 ?_
          refine v_bipush hX lb_59 qX12_part_36 ?_
          refine v_callVq hX hR k_X12_198 (hm.kd 38 rfl) (m_sgB (by exact hm) (by exact hp2.1) (by exact 59)) rfl (Nat.le_of_ble_eq_true rfl) rfl (Nat.le_of_ble_eq_true rfl) ⟨Nat.le_of_ble_eq_true rfl, Nat.le_of_ble_eq_true rfl⟩ qX12_part_38 ?_
          rintro _ _ ⟨rfl, rfl⟩
          first | refine v_if_neB hX 48 qX12_part_41 rfl (fun q41 => ?_) (fun q41 => ?_) | refine v_if_ne hX 48 qX12_part_41 rfl (fun q41 => ?_) (fun q41 => ?_)
          · exact absurd rfl q41
          · skip
            refine v_aload_n hX rfl qX12_part_44 ?_
            refine v_callVq hX hR k_X12_170 (hm.kd 38 rfl) (m_fail1 (by exact hm) (by exact hp2.1)) rfl (Nat.le_of_ble_eq_true rfl) rfl (Nat.le_of_ble_eq_true rfl) ⟨Nat.le_of_ble_eq_true rfl, Nat.le_of_ble_eq_true rfl⟩ qX12_part_45 ?_
            rintro _ _ ⟨rfl, rfl⟩
            refine v_aload_n hX rfl qX12_part_48 ?_
            refine v_getIv hX g_X12_156 (Or.inr rfl) (hm.kd 38 rfl) (show _ = 1 from hp2.1) qX12_part_49 ?_
            first | refine v_if_neB hX 59 qX12_part_52 rfl (fun q52 => ?_) (fun q52 => ?_) | refine v_if_ne hX 59 qX12_part_52 rfl (fun q52 => ?_) (fun q52 => ?_)
            · skip
              refine v_iload_n hX rfl qX12_part_59 ?_
              refine v_ireturn hX qX12_part_60 (hP _ _ ?_)
              exact ⟨σ2, J2, _, rfl, rfl, hf12, PoM.of (r := .inl g) hp2 (by show (if tkK by' sz i = key then _ else _) = _; rw [if_pos q1]; show (match (tLev by' sz 5).2.2 (i + 1) with | .inl f => (.inl f : PR) | .inr (j, cs, v) => _) = _; rw [e2])⟩
            · exact absurd q52 (by decide)
        · rw [e2] at hp2
          obtain ⟨hx2, ha2⟩ := hp2
          have hpp : tPart by' sz key i = if tkK by' sz j = 59 then .inr (j + 1, cs, v) else .inl j := by show (if tkK by' sz i = key then _ else _) = _; rw [if_pos q1]; show (match (tLev by' sz 5).2.2 (i + 1) with | .inl f => (.inl f : PR) | .inr (j, cs, v) => _) = _; rw [e2]
          refine v_istore_n hX (Nat.le_of_ble_eq_true rfl) rfl (ls' := [some _, some _, some _]) rfl qX12_part_34 ?_
          refine v_aload_n hX rfl qX12_part_35 ?_
          refine v_bipush hX lb_59 qX12_part_36 ?_
          refine v_callVq hX hR k_X12_198 (hm.kd 38 rfl) (m_sgA (by exact hm) (by exact ha2) (s := 59) (by decide)) rfl (Nat.le_of_ble_eq_true rfl) rfl (Nat.le_of_ble_eq_true rfl) ⟨Nat.le_of_ble_eq_true rfl, Nat.le_of_ble_eq_true rfl⟩ qX12_part_38 ?_
          rintro _ _ ⟨rfl, rfl⟩
          first | refine v_if_neB hX 48 qX12_part_41 rfl (fun q41 => ?_) (fun q41 => ?_) | refine v_if_ne hX 48 qX12_part_41 rfl (fun q41 => ?_) (fun q41 => ?_)
          · skip
            refine v_aload_n hX rfl qX12_part_48 ?_
            refine v_getIv hX g_X12_156 (Or.inr rfl) (hm.kd 38 rfl) ha2.1.2.2.2.2.2.2 qX12_part_49 ?_
            first | refine v_if_neB hX 59 qX12_part_52 rfl (fun q52 => ?_) (fun q52 => ?_) | refine v_if_ne hX 59 qX12_part_52 rfl (fun q52 => ?_) (fun q52 => ?_)
            · exact absurd rfl q52
            · skip
              refine v_aload_n hX rfl qX12_part_55 ?_
              refine v_callVq hX hR k_X12_173 (hm.kd 38 rfl) (m_nx (by exact hm) (by exact ha2) (by exact (Or.inr (Or.inr (MAt.sg3 (by decide) q41))))) rfl (Nat.le_of_ble_eq_true rfl) rfl (Nat.le_of_ble_eq_true rfl) ⟨Nat.le_of_ble_eq_true rfl, Nat.le_of_ble_eq_true rfl⟩ qX12_part_56 ?_
              rintro _ _ ⟨rfl, σ3, J3, rfl, hf3, ha3⟩
              refine v_iload_n hX rfl qX12_part_59 ?_
              refine v_ireturn hX qX12_part_60 (hP _ _ ?_)
              exact ⟨σ3, J3, _, rfl, rfl, FrE.tr hf12 hf3, PoM.of (r := .inr (j + 1, cs, v)) ⟨hx2, ha3⟩ (hpp.trans (if_pos q41))⟩
          · skip
            refine v_aload_n hX rfl qX12_part_44 ?_
            refine v_callVq hX hR k_X12_170 (hm.kd 38 rfl) (m_fail0 (by exact hm) (by exact ha2.1.2.2.2.2.2.2) (by exact ha2.2.2.2.1)) rfl (Nat.le_of_ble_eq_true rfl) rfl (Nat.le_of_ble_eq_true rfl) ⟨Nat.le_of_ble_eq_true rfl, Nat.le_of_ble_eq_true rfl⟩ qX12_part_45 ?_
            rintro _ _ ⟨rfl, rfl⟩
            refine v_aload_n hX rfl qX12_part_48 ?_
            refine v_getIv hX g_X12_156 (Or.inr rfl) (hm.kd 38 rfl) (show _ = 1 from rfl) qX12_part_49 ?_
            first | refine v_if_neB hX 59 qX12_part_52 rfl (fun q52 => ?_) (fun q52 => ?_) | refine v_if_ne hX 59 qX12_part_52 rfl (fun q52 => ?_) (fun q52 => ?_)
            · skip
              refine v_iload_n hX rfl qX12_part_59 ?_
              refine v_ireturn hX qX12_part_60 (hP _ _ ?_)
              exact ⟨(stI (stI (mkH h σ2 J2) 38 28 1) 38 29 (nI (pl by' sz j))).1, J2, _, rfl, rfl, ⟨fun a k hk => by show hpI (stI _ _ _ _) _ _ = _; rw [hpI_st, if_neg (by omega), hpI_st, if_neg (by omega)]; exact hf12.1 a k hk, hf12.2⟩, PoM.of (r := .inl j) ⟨rfl, rfl⟩ (hpp.trans (if_neg q41))⟩
            · exact absurd q52 (by decide)
      · exact absurd rfl q23
  · skip
    refine v_aload_n hX rfl qX12_part_4 ?_
    refine v_callVq hX hR k_X12_170 (hm.kd 38 rfl) (m_fail0 (by exact hm) (by exact ha.1.2.2.2.2.2.2) (by exact ha.2.2.2.1)) rfl (Nat.le_of_ble_eq_true rfl) rfl (Nat.le_of_ble_eq_true rfl) ⟨Nat.le_of_ble_eq_true rfl, Nat.le_of_ble_eq_true rfl⟩ qX12_part_5 ?_
    rintro _ _ ⟨rfl, rfl⟩
    refine v_aload_n hX rfl qX12_part_8 ?_
    refine v_getIv hX g_X12_156 (Or.inr rfl) (hm.kd 38 rfl) (show _ = 1 from rfl) qX12_part_9 ?_
    first | refine v_if_neB hX 19 qX12_part_12 rfl (fun q12 => ?_) (fun q12 => ?_) | refine v_if_ne hX 19 qX12_part_12 rfl (fun q12 => ?_) (fun q12 => ?_)
    · skip
      refine v_aload_n hX rfl qX12_part_19 ?_
      refine v_getIv hX g_X12_156 (Or.inr rfl) (hm.kd 38 rfl) (show _ = 1 from rfl) qX12_part_20 ?_
      first | refine v_if_eqB hX 30 qX12_part_23 rfl (fun q23 => ?_) (fun q23 => ?_) | refine v_if_eq hX 30 qX12_part_23 rfl (fun q23 => ?_) (fun q23 => ?_)
      · exact absurd q23 (by decide)
      · skip
        refine v_iconst hX li_0 qX12_part_26 ?_
        refine v_goto hX 34 qX12_part_27 rfl ?_
        refine v_istore_n hX (Nat.le_of_ble_eq_true rfl) rfl (ls' := [some _, some _, some _]) rfl qX12_part_34 ?_
        refine v_aload_n hX rfl qX12_part_35 ?_
        refine v_bipush hX lb_59 qX12_part_36 ?_
        refine v_callVq hX hR k_X12_198 (hm.kd 38 rfl) (m_sgB (by exact hm) (by exact (show hpI (stI (stI h 38 28 1) 38 29 (nI (pl by' sz i))) 38 28 = 1 from rfl)) (by exact 59)) rfl (Nat.le_of_ble_eq_true rfl) rfl (Nat.le_of_ble_eq_true rfl) ⟨Nat.le_of_ble_eq_true rfl, Nat.le_of_ble_eq_true rfl⟩ qX12_part_38 ?_
        rintro _ _ ⟨rfl, rfl⟩
        first | refine v_if_neB hX 48 qX12_part_41 rfl (fun q41 => ?_) (fun q41 => ?_) | refine v_if_ne hX 48 qX12_part_41 rfl (fun q41 => ?_) (fun q41 => ?_)
        · exact absurd rfl q41
        · skip
          refine v_aload_n hX rfl qX12_part_44 ?_
          refine v_callVq hX hR k_X12_170 (hm.kd 38 rfl) (m_fail1 (by exact hm) (by exact (show hpI (stI (stI h 38 28 1) 38 29 (nI (pl by' sz i))) 38 28 = 1 from rfl))) rfl (Nat.le_of_ble_eq_true rfl) rfl (Nat.le_of_ble_eq_true rfl) ⟨Nat.le_of_ble_eq_true rfl, Nat.le_of_ble_eq_true rfl⟩ qX12_part_45 ?_
          rintro _ _ ⟨rfl, rfl⟩
          refine v_aload_n hX rfl qX12_part_48 ?_
          refine v_getIv hX g_X12_156 (Or.inr rfl) (hm.kd 38 rfl) (show _ = 1 from rfl) qX12_part_49 ?_
          first | refine v_if_neB hX 59 qX12_part_52 rfl (fun q52 => ?_) (fun q52 => ?_) | refine v_if_ne hX 59 qX12_part_52 rfl (fun q52 => ?_) (fun q52 => ?_)
          · skip
            refine v_iload_n hX rfl qX12_part_59 ?_
            refine v_ireturn hX qX12_part_60 (hP _ _ ?_)
            exact ⟨(stI (stI h 38 28 1) 38 29 (nI (pl by' sz i))).1, h.2.2.1, _, rfl, rfl, ⟨fun a k hk => by show hpI (stI _ _ _ _) _ _ = _; rw [hpI_st, if_neg (by omega), hpI_st, if_neg (by omega)], fun _ _ => rfl⟩, PoM.of (r := .inl i) ⟨rfl, rfl⟩ (if_neg q1)⟩
          · exact absurd q52 (by decide)
    · exact absurd q12 (by decide)
abbrev TxR : Type := Sum Nat ((List Int32 × ((Nat → Int32) → Int32)) × (List Int32 × ((Nat → Int32) → Int32)) × (List Int32 × ((Nat → Int32) → Int32)))
abbrev tTxt (by' : Nat → Int32) (sz : Nat) : TxR := pTxt (tkK by' sz) (tkW by' sz) (nT by' sz)
/-- what parts of a text tell -/
def tvR : TxR → Nat → (Nat → Int32) → Int32
  | .inl _ => fun _ _ => 0
  | .inr (a, b, c) => fun w env => if w = 0 then a.2 env else if w = 1 then b.2 env else c.2 env
def PoT (by' : Nat → Int32) (sz : Nat) (env : Nat → Int32) (w : Nat) (σ : Nat → Nat → Int32) (x : Int32) : TxR → Prop
  | .inl f => σ 38 28 = 1 ∧ σ 38 29 = nI (pl by' sz f)
  | .inr r => σ 38 28 = 0 ∧ x = tvR (.inr r) w env
theorem PoT.of {by' : Nat → Int32} {sz : Nat} {env : Nat → Int32} {w : Nat} {σ : Nat → Nat → Int32} {x : Int32} {r r' : TxR} (hp : PoT by' sz env w σ x r) (e : r' = r) : PoT by' sz env w σ x r' := by rw [e]; exact hp
section TTX
variable {by' : Nat → Int32} {sz : Nat}
theorem tTxt1 {f : Nat} (h : tPart by' sz 4 0 = .inl f) : tTxt by' sz = .inl f := by show pTxt _ _ _ = _; unfold pTxt; rw [show pPart (tkK by' sz) (tkW by' sz) (nT by' sz) 4 0 = _ from h]
theorem tTxt2 {i1 : Nat} {c1 : List Int32} {v1 : (Nat → Int32) → Int32} (h : tPart by' sz 4 0 = .inr (i1, c1, v1)) {f : Nat} (h2 : tPart by' sz 5 i1 = .inl f) : tTxt by' sz = .inl f := by
  show pTxt _ _ _ = _; unfold pTxt
  rw [show pPart (tkK by' sz) (tkW by' sz) (nT by' sz) 4 0 = _ from h]
  show (match pPart (tkK by' sz) (tkW by' sz) (nT by' sz) 5 i1 with | .inl f => (.inl f : TxR) | .inr (i2, c2, v2) => _) = _
  rw [show pPart (tkK by' sz) (tkW by' sz) (nT by' sz) 5 i1 = _ from h2]
theorem tTxt3 {i1 : Nat} {c1 : List Int32} {v1 : (Nat → Int32) → Int32} (h : tPart by' sz 4 0 = .inr (i1, c1, v1)) {i2 : Nat} {c2 : List Int32} {v2 : (Nat → Int32) → Int32} (h2 : tPart by' sz 5 i1 = .inr (i2, c2, v2)) : tTxt by' sz = match tPart by' sz 6 i2 with | .inl f => .inl f | .inr (i3, c3, v3) => if tkK by' sz i3 = 0 then .inr ((c1, v1), (c2, v2), (c3, v3)) else .inl i3 := by
  show pTxt _ _ _ = _; unfold pTxt
  rw [show pPart (tkK by' sz) (tkW by' sz) (nT by' sz) 4 0 = _ from h]
  show (match pPart (tkK by' sz) (tkW by' sz) (nT by' sz) 5 i1 with | .inl f => (.inl f : TxR) | .inr (i2, c2, v2) => _) = _
  rw [show pPart (tkK by' sz) (tkW by' sz) (nT by' sz) 5 i1 = _ from h2]
  rfl
end TTX
theorem qX12_read_0 : Dq cX12_read 0 (.aload_n 0) 1 1 := ⟨by decide +kernel, rfl⟩
theorem qX12_read_1 : Dq cX12_read 1 (.sipush 160) 3 4 := ⟨by decide +kernel, rfl⟩
theorem qX12_read_4 : Dq cX12_read 4 (.iload_n 1) 1 5 := ⟨by decide +kernel, rfl⟩
theorem qX12_read_5 : Dq cX12_read 5 (.imul) 1 6 := ⟨by decide +kernel, rfl⟩
theorem qX12_read_6 : Dq cX12_read 6 (.putfield 126) 3 9 := ⟨by decide +kernel, rfl⟩
theorem qX12_read_9 : Dq cX12_read 9 (.aload_n 0) 1 10 := ⟨by decide +kernel, rfl⟩
theorem qX12_read_10 : Dq cX12_read 10 (.aload_n 0) 1 11 := ⟨by decide +kernel, rfl⟩
theorem qX12_read_11 : Dq cX12_read 11 (.getfield 17) 3 14 := ⟨by decide +kernel, rfl⟩
theorem qX12_read_14 : Dq cX12_read 14 (.iload_n 1) 1 15 := ⟨by decide +kernel, rfl⟩
theorem qX12_read_15 : Dq cX12_read 15 (.iaload) 1 16 := ⟨by decide +kernel, rfl⟩
theorem qX12_read_16 : Dq cX12_read 16 (.putfield 123) 3 19 := ⟨by decide +kernel, rfl⟩
theorem qX12_read_19 : Dq cX12_read 19 (.aload_n 0) 1 20 := ⟨by decide +kernel, rfl⟩
theorem qX12_read_20 : Dq cX12_read 20 (.iconst 0) 1 21 := ⟨by decide +kernel, rfl⟩
theorem qX12_read_21 : Dq cX12_read 21 (.putfield 129) 3 24 := ⟨by decide +kernel, rfl⟩
theorem qX12_read_24 : Dq cX12_read 24 (.aload_n 0) 1 25 := ⟨by decide +kernel, rfl⟩
theorem qX12_read_25 : Dq cX12_read 25 (.iconst 0) 1 26 := ⟨by decide +kernel, rfl⟩
theorem qX12_read_26 : Dq cX12_read 26 (.putfield 167) 3 29 := ⟨by decide +kernel, rfl⟩
theorem qX12_read_29 : Dq cX12_read 29 (.aload_n 0) 1 30 := ⟨by decide +kernel, rfl⟩
theorem qX12_read_30 : Dq cX12_read 30 (.iconst 0) 1 31 := ⟨by decide +kernel, rfl⟩
theorem qX12_read_31 : Dq cX12_read 31 (.putfield 156) 3 34 := ⟨by decide +kernel, rfl⟩
theorem qX12_read_34 : Dq cX12_read 34 (.aload_n 0) 1 35 := ⟨by decide +kernel, rfl⟩
theorem qX12_read_35 : Dq cX12_read 35 (.invokevirtual 173) 3 38 := ⟨by decide +kernel, rfl⟩
theorem qX12_read_38 : Dq cX12_read 38 (.aload_n 0) 1 39 := ⟨by decide +kernel, rfl⟩
theorem qX12_read_39 : Dq cX12_read 39 (.aload_n 0) 1 40 := ⟨by decide +kernel, rfl⟩
theorem qX12_read_40 : Dq cX12_read 40 (.bipush 100) 2 42 := ⟨by decide +kernel, rfl⟩
theorem qX12_read_42 : Dq cX12_read 42 (.bipush 101) 2 44 := ⟨by decide +kernel, rfl⟩
theorem qX12_read_44 : Dq cX12_read 44 (.bipush 101) 2 46 := ⟨by decide +kernel, rfl⟩
theorem qX12_read_46 : Dq cX12_read 46 (.bipush 112) 2 48 := ⟨by decide +kernel, rfl⟩
theorem qX12_read_48 : Dq cX12_read 48 (.iconst 0) 1 49 := ⟨by decide +kernel, rfl⟩
theorem qX12_read_49 : Dq cX12_read 49 (.iconst 0) 1 50 := ⟨by decide +kernel, rfl⟩
theorem qX12_read_50 : Dq cX12_read 50 (.iconst 0) 1 51 := ⟨by decide +kernel, rfl⟩
theorem qX12_read_51 : Dq cX12_read 51 (.iconst 0) 1 52 := ⟨by decide +kernel, rfl⟩
theorem qX12_read_52 : Dq cX12_read 52 (.invokevirtual 176) 3 55 := ⟨by decide +kernel, rfl⟩
theorem qX12_read_55 : Dq cX12_read 55 (.invokevirtual 231) 3 58 := ⟨by decide +kernel, rfl⟩
theorem qX12_read_58 : Dq cX12_read 58 (.istore_n 3) 1 59 := ⟨by decide +kernel, rfl⟩
theorem qX12_read_59 : Dq cX12_read 59 (.aload_n 0) 1 60 := ⟨by decide +kernel, rfl⟩
theorem qX12_read_60 : Dq cX12_read 60 (.getfield 156) 3 63 := ⟨by decide +kernel, rfl⟩
theorem qX12_read_63 : Dq cX12_read 63 (.ifCond .eq 7) 3 66 := ⟨by decide +kernel, rfl⟩
theorem qX12_read_66 : Dq cX12_read 66 (.iconst 0) 1 67 := ⟨by decide +kernel, rfl⟩
theorem qX12_read_67 : Dq cX12_read 67 (.goto 22) 3 70 := ⟨by decide +kernel, rfl⟩
theorem qX12_read_70 : Dq cX12_read 70 (.aload_n 0) 1 71 := ⟨by decide +kernel, rfl⟩
theorem qX12_read_71 : Dq cX12_read 71 (.aload_n 0) 1 72 := ⟨by decide +kernel, rfl⟩
theorem qX12_read_72 : Dq cX12_read 72 (.bipush 115) 2 74 := ⟨by decide +kernel, rfl⟩
theorem qX12_read_74 : Dq cX12_read 74 (.bipush 101) 2 76 := ⟨by decide +kernel, rfl⟩
theorem qX12_read_76 : Dq cX12_read 76 (.bipush 97) 2 78 := ⟨by decide +kernel, rfl⟩
theorem qX12_read_78 : Dq cX12_read 78 (.iconst 0) 1 79 := ⟨by decide +kernel, rfl⟩
theorem qX12_read_79 : Dq cX12_read 79 (.iconst 0) 1 80 := ⟨by decide +kernel, rfl⟩
theorem qX12_read_80 : Dq cX12_read 80 (.iconst 0) 1 81 := ⟨by decide +kernel, rfl⟩
theorem qX12_read_81 : Dq cX12_read 81 (.iconst 0) 1 82 := ⟨by decide +kernel, rfl⟩
theorem qX12_read_82 : Dq cX12_read 82 (.iconst 0) 1 83 := ⟨by decide +kernel, rfl⟩
theorem qX12_read_83 : Dq cX12_read 83 (.invokevirtual 176) 3 86 := ⟨by decide +kernel, rfl⟩
theorem qX12_read_86 : Dq cX12_read 86 (.invokevirtual 231) 3 89 := ⟨by decide +kernel, rfl⟩
theorem qX12_read_89 : Dq cX12_read 89 (.istore 4) 2 91 := ⟨by decide +kernel, rfl⟩
theorem qX12_read_91 : Dq cX12_read 91 (.aload_n 0) 1 92 := ⟨by decide +kernel, rfl⟩
theorem qX12_read_92 : Dq cX12_read 92 (.getfield 156) 3 95 := ⟨by decide +kernel, rfl⟩
theorem qX12_read_95 : Dq cX12_read 95 (.ifCond .eq 7) 3 98 := ⟨by decide +kernel, rfl⟩
theorem qX12_read_98 : Dq cX12_read 98 (.iconst 0) 1 99 := ⟨by decide +kernel, rfl⟩
theorem qX12_read_99 : Dq cX12_read 99 (.goto 24) 3 102 := ⟨by decide +kernel, rfl⟩
theorem qX12_read_102 : Dq cX12_read 102 (.aload_n 0) 1 103 := ⟨by decide +kernel, rfl⟩
theorem qX12_read_103 : Dq cX12_read 103 (.aload_n 0) 1 104 := ⟨by decide +kernel, rfl⟩
theorem qX12_read_104 : Dq cX12_read 104 (.bipush 115) 2 106 := ⟨by decide +kernel, rfl⟩
theorem qX12_read_106 : Dq cX12_read 106 (.bipush 104) 2 108 := ⟨by decide +kernel, rfl⟩
theorem qX12_read_108 : Dq cX12_read 108 (.bipush 105) 2 110 := ⟨by decide +kernel, rfl⟩
theorem qX12_read_110 : Dq cX12_read 110 (.bipush 110) 2 112 := ⟨by decide +kernel, rfl⟩
theorem qX12_read_112 : Dq cX12_read 112 (.bipush 101) 2 114 := ⟨by decide +kernel, rfl⟩
theorem qX12_read_114 : Dq cX12_read 114 (.iconst 0) 1 115 := ⟨by decide +kernel, rfl⟩
theorem qX12_read_115 : Dq cX12_read 115 (.iconst 0) 1 116 := ⟨by decide +kernel, rfl⟩
theorem qX12_read_116 : Dq cX12_read 116 (.iconst 0) 1 117 := ⟨by decide +kernel, rfl⟩
theorem qX12_read_117 : Dq cX12_read 117 (.invokevirtual 176) 3 120 := ⟨by decide +kernel, rfl⟩
theorem qX12_read_120 : Dq cX12_read 120 (.invokevirtual 231) 3 123 := ⟨by decide +kernel, rfl⟩
theorem qX12_read_123 : Dq cX12_read 123 (.istore 5) 2 125 := ⟨by decide +kernel, rfl⟩
theorem qX12_read_125 : Dq cX12_read 125 (.aload_n 0) 1 126 := ⟨by decide +kernel, rfl⟩
theorem qX12_read_126 : Dq cX12_read 126 (.getfield 156) 3 129 := ⟨by decide +kernel, rfl⟩
theorem qX12_read_129 : Dq cX12_read 129 (.ifCond .ne 14) 3 132 := ⟨by decide +kernel, rfl⟩
theorem qX12_read_132 : Dq cX12_read 132 (.aload_n 0) 1 133 := ⟨by decide +kernel, rfl⟩
theorem qX12_read_133 : Dq cX12_read 133 (.getfield 139) 3 136 := ⟨by decide +kernel, rfl⟩
theorem qX12_read_136 : Dq cX12_read 136 (.ifCond .eq 7) 3 139 := ⟨by decide +kernel, rfl⟩
theorem qX12_read_139 : Dq cX12_read 139 (.aload_n 0) 1 140 := ⟨by decide +kernel, rfl⟩
theorem qX12_read_140 : Dq cX12_read 140 (.invokevirtual 170) 3 143 := ⟨by decide +kernel, rfl⟩
theorem qX12_read_143 : Dq cX12_read 143 (.iload_n 2) 1 144 := ⟨by decide +kernel, rfl⟩
theorem qX12_read_144 : Dq cX12_read 144 (.ifCond .ne 7) 3 147 := ⟨by decide +kernel, rfl⟩
theorem qX12_read_147 : Dq cX12_read 147 (.iload_n 3) 1 148 := ⟨by decide +kernel, rfl⟩
theorem qX12_read_148 : Dq cX12_read 148 (.goto 15) 3 151 := ⟨by decide +kernel, rfl⟩
theorem qX12_read_151 : Dq cX12_read 151 (.iload_n 2) 1 152 := ⟨by decide +kernel, rfl⟩
theorem qX12_read_152 : Dq cX12_read 152 (.iconst 1) 1 153 := ⟨by decide +kernel, rfl⟩
theorem qX12_read_153 : Dq cX12_read 153 (.if_icmp .ne 8) 3 156 := ⟨by decide +kernel, rfl⟩
theorem qX12_read_156 : Dq cX12_read 156 (.iload 4) 2 158 := ⟨by decide +kernel, rfl⟩
theorem qX12_read_158 : Dq cX12_read 158 (.goto 5) 3 161 := ⟨by decide +kernel, rfl⟩
theorem qX12_read_161 : Dq cX12_read 161 (.iload 5) 2 163 := ⟨by decide +kernel, rfl⟩
theorem qX12_read_163 : Dq cX12_read 163 (.ireturn) 1 164 := ⟨by decide +kernel, rfl⟩
set_option maxRecDepth 100000 in
set_option maxHeartbeats 4000000 in
theorem m_read {G : Glb} {h : AHp} (hm : ShM h) {by' : Nat → Int32} {sz t w : Nat} (ht6 : t < 6) (hs160 : sz ≤ 160) (hpos : ∀ k, k < sz → 0 ≤ by' k) (h39 : ∀ k, k < sz → hpI h 39 (160 * t + k) = by' k) (h40 : hpI h 40 t = nI sz) (hw : w < 3) {env : Nat → Int32} (he : EnvM h env) {P : Option Value → AHp → Prop} (hP : ∀ r h', (∃ σ J x, r = some (.int x) ∧ h' = mkH h σ J ∧ FrE h σ J ∧ PoT by' sz env w σ x (tTxt by' sz)) → P r h') : CP G m_X12_read 60 0 0 [.ref 38, .int (nI t), .int (nI w)] h P := by
  refine CP.of (by decide +kernel) (Nat.le_of_ble_eq_true rfl) fun X hX hR hnm => ?_
  show V X G 6 0 0 _ 0 [some (.ref 38), some (.int (nI t)), some (.int (nI w)), none, none, none] [] h
  refine v_aload_n hX rfl qX12_read_0 ?_
  refine v_sipush hX ls_160 qX12_read_1 ?_
  refine v_iload_n hX rfl qX12_read_4 ?_
  refine v_imul hX qX12_read_5 ?_
  refine v_eqI (show _ = nI (160 * t) by rw [show (160 : Int32) = nI 160 from rfl, pk_mul]) ?_
  refine v_putI hX p_X12_126 (hm.kd 38 rfl) (Or.inl rfl) qX12_read_6 ?_
  refine v_aload_n hX rfl qX12_read_9 ?_
  refine v_aload_n hX rfl qX12_read_10 ?_
  refine v_getR hX g_X12_17 (hm.kd 38 rfl) (hm.rf 1 rfl) qX12_read_11 ?_
  refine v_iload_n hX rfl qX12_read_14 ?_
  refine v_ialdV hX (hm.kd 40 rfl) (hm.ln 40 rfl) (by exact ix_n (n := t) (by omega) rfl) (show _ = nI sz from h40) qX12_read_15 ?_
  refine v_putI hX p_X12_123 (hm.kd 38 rfl) (Or.inl rfl) qX12_read_16 ?_
  refine v_aload_n hX rfl qX12_read_19 ?_
  refine v_iconst hX li_0 qX12_read_20 ?_
  refine v_putI hX p_X12_129 (hm.kd 38 rfl) (Or.inl rfl) qX12_read_21 ?_
  refine v_aload_n hX rfl qX12_read_24 ?_
  refine v_iconst hX li_0 qX12_read_25 ?_
  refine v_putI hX p_X12_167 (hm.kd 38 rfl) (Or.inl rfl) qX12_read_26 ?_
  refine v_aload_n hX rfl qX12_read_29 ?_
  refine v_iconst hX li_0 qX12_read_30 ?_
  refine v_putZ hX (by first | exact nz_0 | exact nz_1 | exact nz_b _) p_X12_156 (hm.kd 38 rfl) (Or.inl rfl) qX12_read_31 ?_
  refine v_aload_n hX rfl qX12_read_34 ?_
  have f0 : FrE h (stI (stI (stI (stI (stI h 38 21 (nI (160 * t))) 38 22 (nI sz)) 38 23 0) 38 27 0) 38 28 0).1 h.2.2.1 := ⟨fun a k hk => by show hpI (stI _ _ _ _) _ _ = _; rw [hpI_st, if_neg (by omega), hpI_st, if_neg (by omega), hpI_st, if_neg (by omega), hpI_st, if_neg (by omega), hpI_st, if_neg (by omega)], fun _ _ => rfl⟩
  have hx0 : MTx by' sz t 0 (stI (stI (stI (stI (stI h 38 21 (nI (160 * t))) 38 22 (nI sz)) 38 23 0) 38 27 0) 38 28 0) := ⟨ht6, ⟨hs160, hpos⟩, fun k hk => h39 k hk, rfl, rfl, rfl, rfl⟩
  refine v_callVq hX hR k_X12_173 (hm.kd 38 rfl) (m_nextToken (by exact hm) (by exact hx0) (e := 0) (by exact (Nat.zero_le _)) (by exact rfl)) rfl (Nat.le_of_ble_eq_true rfl) rfl (Nat.le_of_ble_eq_true rfl) ⟨Nat.le_of_ble_eq_true rfl, Nat.le_of_ble_eq_true rfl⟩ qX12_read_35 ?_
  rintro _ _ ⟨rfl, σ0, J0, rfl, hf0, hx1, ho1⟩
  have ha0 : MAt by' sz t 0 0 (mkH h σ0 J0) := ⟨hx1, ho1⟩
  have g0 : FrE h σ0 J0 := FrE.tr f0 hf0
  have he0 := g0.env he
  refine v_aload_n hX rfl qX12_read_38 ?_
  refine v_aload_n hX rfl qX12_read_39 ?_
  refine v_bipush hX lb_100 qX12_read_40 ?_
  refine v_bipush hX lb_101 qX12_read_42 ?_
  refine v_bipush hX lb_101 qX12_read_44 ?_
  refine v_bipush hX lb_112 qX12_read_46 ?_
  refine v_iconst hX li_0 qX12_read_48 ?_
  refine v_iconst hX li_0 qX12_read_49 ?_
  refine v_iconst hX li_0 qX12_read_50 ?_
  refine v_iconst hX li_0 qX12_read_51 ?_
  refine v_callVq hX hR k_X12_176 (hm.kd 38 rfl) (m_wdA (by exact hm) (by exact ha0) (c := 4) (w := w_deep) (by decide)) rfl (Nat.le_of_ble_eq_true rfl) rfl (Nat.le_of_ble_eq_true rfl) ⟨Nat.le_of_ble_eq_true rfl, Nat.le_of_ble_eq_true rfl⟩ qX12_read_52 ?_
  rintro _ _ ⟨rfl, rfl⟩
  refine v_callVq hX hR k_X12_231 (hm.kd 38 rfl) (m_part (key := 4) (kw := w_deep) (by decide) _ (by exact 0) (by exact env) (by exact hm) (by exact ha0) (by exact he0)) rfl (Nat.le_of_ble_eq_true rfl) rfl (Nat.le_of_ble_eq_true rfl) ⟨Nat.le_of_ble_eq_true rfl, Nat.le_of_ble_eq_true rfl⟩ qX12_read_55 ?_
  rintro _ _ ⟨σ1, J1, x1, rfl, rfl, hf1, hp1⟩
  have g1 := FrE.tr g0 hf1
  rcases e1 : tPart by' sz 4 0 with g | ⟨i1, c1, v1⟩
  · rw [e1] at hp1
    refine v_istore_n hX (Nat.le_of_ble_eq_true rfl) rfl (ls' := [some _, some _, some _, some _, none, none]) rfl qX12_read_58 ?_
    refine v_aload_n hX rfl qX12_read_59 ?_
    refine v_getIv hX g_X12_156 (Or.inr rfl) (hm.kd 38 rfl) (show _ = 1 from hp1.1) qX12_read_60 ?_
    first | refine v_if_eqB hX 70 qX12_read_63 rfl (fun q63 => ?_) (fun q63 => ?_) | refine v_if_eq hX 70 qX12_read_63 rfl (fun q63 => ?_) (fun q63 => ?_)
    · exact absurd q63 (by decide)
    · skip
      refine v_iconst hX li_0 qX12_read_66 ?_
      refine v_goto hX 89 qX12_read_67 rfl ?_
      refine v_istore hX (Nat.le_of_ble_eq_true rfl) rfl (ls' := [some _, some _, some _, some _, some _, none]) rfl qX12_read_89 ?_
      refine v_aload_n hX rfl qX12_read_91 ?_
      refine v_getIv hX g_X12_156 (Or.inr rfl) (hm.kd 38 rfl) (show _ = 1 from hp1.1) qX12_read_92 ?_
      first | refine v_if_eqB hX 102 qX12_read_95 rfl (fun q95 => ?_) (fun q95 => ?_) | refine v_if_eq hX 102 qX12_read_95 rfl (fun q95 => ?_) (fun q95 => ?_)
      · exact absurd q95 (by decide)
      · skip
        refine v_iconst hX li_0 qX12_read_98 ?_
        refine v_goto hX 123 qX12_read_99 rfl ?_
        refine v_istore hX (Nat.le_of_ble_eq_true rfl) rfl (ls' := [some _, some _, some _, some _, some _, some _]) rfl qX12_read_123 ?_
        refine v_aload_n hX rfl qX12_read_125 ?_
        refine v_getIv hX g_X12_156 (Or.inr rfl) (hm.kd 38 rfl) (show _ = 1 from hp1.1) qX12_read_126 ?_
        first | refine v_if_neB hX 143 qX12_read_129 rfl (fun q129 => ?_) (fun q129 => ?_) | refine v_if_ne hX 143 qX12_read_129 rfl (fun q129 => ?_) (fun q129 => ?_)
        · skip
          have hw3c : w = 0 ∨ w = 1 ∨ w = 2 := by omega
          rcases hw3c with rfl | rfl | rfl
          · skip
            refine v_iload_n hX rfl qX12_read_143 ?_
            first | refine v_if_neB hX 151 qX12_read_144 rfl (fun q144 => ?_) (fun q144 => ?_) | refine v_if_ne hX 151 qX12_read_144 rfl (fun q144 => ?_) (fun q144 => ?_)
            · exact absurd rfl q144
            · skip
              refine v_iload_n hX rfl qX12_read_147 ?_
              refine v_goto hX 163 qX12_read_148 rfl ?_
              refine v_ireturn hX qX12_read_163 (hP _ _ ?_)
              exact ⟨σ1, J1, _, rfl, rfl, g1, PoT.of (r := .inl g) hp1 (tTxt1 e1)⟩
          · skip
            refine v_iload_n hX rfl qX12_read_143 ?_
            first | refine v_if_neB hX 151 qX12_read_144 rfl (fun q144 => ?_) (fun q144 => ?_) | refine v_if_ne hX 151 qX12_read_144 rfl (fun q144 => ?_) (fun q144 => ?_)
            · skip
              refine v_iload_n hX rfl qX12_read_151 ?_
              refine v_iconst hX li_1 qX12_read_152 ?_
              refine v_icmp_ne hX 161 qX12_read_153 rfl (fun q153 => ?_) (fun q153 => ?_)
              · exact absurd rfl q153
              · skip
                refine v_iload hX rfl qX12_read_156 ?_
                refine v_goto hX 163 qX12_read_158 rfl ?_
                refine v_ireturn hX qX12_read_163 (hP _ _ ?_)
                exact ⟨σ1, J1, _, rfl, rfl, g1, PoT.of (r := .inl g) hp1 (tTxt1 e1)⟩
            · exact absurd q144 (by decide)
          · skip
            refine v_iload_n hX rfl qX12_read_143 ?_
            first | refine v_if_neB hX 151 qX12_read_144 rfl (fun q144 => ?_) (fun q144 => ?_) | refine v_if_ne hX 151 qX12_read_144 rfl (fun q144 => ?_) (fun q144 => ?_)
            · skip
              refine v_iload_n hX rfl qX12_read_151 ?_
              refine v_iconst hX li_1 qX12_read_152 ?_
              refine v_icmp_ne hX 161 qX12_read_153 rfl (fun q153 => ?_) (fun q153 => ?_)
              · skip
                refine v_iload hX rfl qX12_read_161 ?_
                refine v_ireturn hX qX12_read_163 (hP _ _ ?_)
                exact ⟨σ1, J1, _, rfl, rfl, g1, PoT.of (r := .inl g) hp1 (tTxt1 e1)⟩
              · exact absurd q153 (by decide)
            · exact absurd q144 (by decide)
        · exact absurd q129 (by decide)
  · rw [e1] at hp1
    obtain ⟨hx1, ha1⟩ := hp1
    refine v_istore_n hX (Nat.le_of_ble_eq_true rfl) rfl (ls' := [some _, some _, some _, some _, none, none]) rfl qX12_read_58 ?_
    refine v_aload_n hX rfl qX12_read_59 ?_
    refine v_getIv hX g_X12_156 (Or.inr rfl) (hm.kd 38 rfl) ha1.1.2.2.2.2.2.2 qX12_read_60 ?_
    first | refine v_if_eqB hX 70 qX12_read_63 rfl (fun q63 => ?_) (fun q63 => ?_) | refine v_if_eq hX 70 qX12_read_63 rfl (fun q63 => ?_) (fun q63 => ?_)
    · skip
      refine v_aload_n hX rfl qX12_read_70 ?_
      refine v_aload_n hX rfl qX12_read_71 ?_
      refine v_bipush hX lb_115 qX12_read_72 ?_
      refine v_bipush hX lb_101 qX12_read_74 ?_
      refine v_bipush hX lb_97 qX12_read_76 ?_
      refine v_iconst hX li_0 qX12_read_78 ?_
      refine v_iconst hX li_0 qX12_read_79 ?_
      refine v_iconst hX li_0 qX12_read_80 ?_
      refine v_iconst hX li_0 qX12_read_81 ?_
      refine v_iconst hX li_0 qX12_read_82 ?_
      refine v_callVq hX hR k_X12_176 (hm.kd 38 rfl) (m_wdA (by exact hm) (by exact ha1) (c := 5) (w := w_sea) (by decide)) rfl (Nat.le_of_ble_eq_true rfl) rfl (Nat.le_of_ble_eq_true rfl) ⟨Nat.le_of_ble_eq_true rfl, Nat.le_of_ble_eq_true rfl⟩ qX12_read_83 ?_
      rintro _ _ ⟨rfl, rfl⟩
      refine v_callVq hX hR k_X12_231 (hm.kd 38 rfl) (m_part (key := 5) (kw := w_sea) (by decide) _ (by exact i1) (by exact env) (by exact hm) (by exact ha1) (by exact (g1.env he))) rfl (Nat.le_of_ble_eq_true rfl) rfl (Nat.le_of_ble_eq_true rfl) ⟨Nat.le_of_ble_eq_true rfl, Nat.le_of_ble_eq_true rfl⟩ qX12_read_86 ?_
      rintro _ _ ⟨σ2, J2, x2, rfl, rfl, hf2, hp2⟩
      have g2 := FrE.tr g1 hf2
      rcases e2 : tPart by' sz 5 i1 with g | ⟨i2, c2, v2⟩
      · rw [e2] at hp2
        refine v_istore hX (Nat.le_of_ble_eq_true rfl) rfl (ls' := [some _, some _, some _, some _, some _, none]) rfl qX12_read_89 ?_
        refine v_aload_n hX rfl qX12_read_91 ?_
        refine v_getIv hX g_X12_156 (Or.inr rfl) (hm.kd 38 rfl) (show _ = 1 from hp2.1) qX12_read_92 ?_
        first | refine v_if_eqB hX 102 qX12_read_95 rfl (fun q95 => ?_) (fun q95 => ?_) | refine v_if_eq hX 102 qX12_read_95 rfl (fun q95 => ?_) (fun q95 => ?_)
        · exact absurd q95 (by decide)
        · skip
          refine v_iconst hX li_0 qX12_read_98 ?_
          refine v_goto hX 123 qX12_read_99 rfl ?_
          refine v_istore hX (Nat.le_of_ble_eq_true rfl) rfl (ls' := [some _, some _, some _, some _, some _, some _]) rfl qX12_read_123 ?_
          refine v_aload_n hX rfl qX12_read_125 ?_
          refine v_getIv hX g_X12_156 (Or.inr rfl) (hm.kd 38 rfl) (show _ = 1 from hp2.1) qX12_read_126 ?_
          first | refine v_if_neB hX 143 qX12_read_129 rfl (fun q129 => ?_) (fun q129 => ?_) | refine v_if_ne hX 143 qX12_read_129 rfl (fun q129 => ?_) (fun q129 => ?_)
          · skip
            have hw3c : w = 0 ∨ w = 1 ∨ w = 2 := by omega
            rcases hw3c with rfl | rfl | rfl
            · skip
              refine v_iload_n hX rfl qX12_read_143 ?_
              first | refine v_if_neB hX 151 qX12_read_144 rfl (fun q144 => ?_) (fun q144 => ?_) | refine v_if_ne hX 151 qX12_read_144 rfl (fun q144 => ?_) (fun q144 => ?_)
              · exact absurd rfl q144
              · skip
                refine v_iload_n hX rfl qX12_read_147 ?_
                refine v_goto hX 163 qX12_read_148 rfl ?_
                refine v_ireturn hX qX12_read_163 (hP _ _ ?_)
                exact ⟨σ2, J2, _, rfl, rfl, g2, PoT.of (r := .inl g) hp2 (tTxt2 e1 e2)⟩
            · skip
              refine v_iload_n hX rfl qX12_read_143 ?_
              first | refine v_if_neB hX 151 qX12_read_144 rfl (fun q144 => ?_) (fun q144 => ?_) | refine v_if_ne hX 151 qX12_read_144 rfl (fun q144 => ?_) (fun q144 => ?_)
              · skip
                refine v_iload_n hX rfl qX12_read_151 ?_
                refine v_iconst hX li_1 qX12_read_152 ?_
                refine v_icmp_ne hX 161 qX12_read_153 rfl (fun q153 => ?_) (fun q153 => ?_)
                · exact absurd rfl q153
                · skip
                  refine v_iload hX rfl qX12_read_156 ?_
                  refine v_goto hX 163 qX12_read_158 rfl ?_
                  refine v_ireturn hX qX12_read_163 (hP _ _ ?_)
                  exact ⟨σ2, J2, _, rfl, rfl, g2, PoT.of (r := .inl g) hp2 (tTxt2 e1 e2)⟩
              · exact absurd q144 (by decide)
            · skip
              refine v_iload_n hX rfl qX12_read_143 ?_
              first | refine v_if_neB hX 151 qX12_read_144 rfl (fun q144 => ?_) (fun q144 => ?_) | refine v_if_ne hX 151 qX12_read_144 rfl (fun q144 => ?_) (fun q144 => ?_)
              · skip
                refine v_iload_n hX rfl qX12_read_151 ?_
                refine v_iconst hX li_1 qX12_read_152 ?_
                refine v_icmp_ne hX 161 qX12_read_153 rfl (fun q153 => ?_) (fun q153 => ?_)
                · skip
                  refine v_iload hX rfl qX12_read_161 ?_
                  refine v_ireturn hX qX12_read_163 (hP _ _ ?_)
                  exact ⟨σ2, J2, _, rfl, rfl, g2, PoT.of (r := .inl g) hp2 (tTxt2 e1 e2)⟩
                · exact absurd q153 (by decide)
              · exact absurd q144 (by decide)
          · exact absurd q129 (by decide)
      · rw [e2] at hp2
        obtain ⟨hx2, ha2⟩ := hp2
        have e12 := tTxt3 e1 e2
        refine v_istore hX (Nat.le_of_ble_eq_true rfl) rfl (ls' := [some _, some _, some _, some _, some _, none]) rfl qX12_read_89 ?_
        refine v_aload_n hX rfl qX12_read_91 ?_
        refine v_getIv hX g_X12_156 (Or.inr rfl) (hm.kd 38 rfl) ha2.1.2.2.2.2.2.2 qX12_read_92 ?_
        first | refine v_if_eqB hX 102 qX12_read_95 rfl (fun q95 => ?_) (fun q95 => ?_) | refine v_if_eq hX 102 qX12_read_95 rfl (fun q95 => ?_) (fun q95 => ?_)
        · skip
          refine v_aload_n hX rfl qX12_read_102 ?_
          refine v_aload_n hX rfl qX12_read_103 ?_
          refine v_bipush hX lb_115 qX12_read_104 ?_
          refine v_bipush hX lb_104 qX12_read_106 ?_
          refine v_bipush hX lb_105 qX12_read_108 ?_
          refine v_bipush hX lb_110 qX12_read_110 ?_
          refine v_bipush hX lb_101 qX12_read_112 ?_
          refine v_iconst hX li_0 qX12_read_114 ?_
          refine v_iconst hX li_0 qX12_read_115 ?_
          refine v_iconst hX li_0 qX12_read_116 ?_
          refine v_callVq hX hR k_X12_176 (hm.kd 38 rfl) (m_wdA (by exact hm) (by exact ha2) (c := 6) (w := w_shine) (by decide)) rfl (Nat.le_of_ble_eq_true rfl) rfl (Nat.le_of_ble_eq_true rfl) ⟨Nat.le_of_ble_eq_true rfl, Nat.le_of_ble_eq_true rfl⟩ qX12_read_117 ?_
          rintro _ _ ⟨rfl, rfl⟩
          refine v_callVq hX hR k_X12_231 (hm.kd 38 rfl) (m_part (key := 6) (kw := w_shine) (by decide) _ (by exact i2) (by exact env) (by exact hm) (by exact ha2) (by exact (g2.env he))) rfl (Nat.le_of_ble_eq_true rfl) rfl (Nat.le_of_ble_eq_true rfl) ⟨Nat.le_of_ble_eq_true rfl, Nat.le_of_ble_eq_true rfl⟩ qX12_read_120 ?_
          rintro _ _ ⟨σ3, J3, x3, rfl, rfl, hf3, hp3⟩
          have g3 := FrE.tr g2 hf3
          rcases e3 : tPart by' sz 6 i2 with g | ⟨i3, c3, v3⟩
          · rw [e3] at hp3 e12
            refine v_istore hX (Nat.le_of_ble_eq_true rfl) rfl (ls' := [some _, some _, some _, some _, some _, some _]) rfl qX12_read_123 ?_
            refine v_aload_n hX rfl qX12_read_125 ?_
            refine v_getIv hX g_X12_156 (Or.inr rfl) (hm.kd 38 rfl) (show _ = 1 from hp3.1) qX12_read_126 ?_
            first | refine v_if_neB hX 143 qX12_read_129 rfl (fun q129 => ?_) (fun q129 => ?_) | refine v_if_ne hX 143 qX12_read_129 rfl (fun q129 => ?_) (fun q129 => ?_)
            · skip
              have hw3c : w = 0 ∨ w = 1 ∨ w = 2 := by omega
              rcases hw3c with rfl | rfl | rfl
              · skip
                refine v_iload_n hX rfl qX12_read_143 ?_
                first | refine v_if_neB hX 151 qX12_read_144 rfl (fun q144 => ?_) (fun q144 => ?_) | refine v_if_ne hX 151 qX12_read_144 rfl (fun q144 => ?_) (fun q144 => ?_)
                · exact absurd rfl q144
                · skip
                  refine v_iload_n hX rfl qX12_read_147 ?_
                  refine v_goto hX 163 qX12_read_148 rfl ?_
                  refine v_ireturn hX qX12_read_163 (hP _ _ ?_)
                  exact ⟨σ3, J3, _, rfl, rfl, g3, PoT.of (r := .inl g) hp3 e12⟩
              · skip
                refine v_iload_n hX rfl qX12_read_143 ?_
                first | refine v_if_neB hX 151 qX12_read_144 rfl (fun q144 => ?_) (fun q144 => ?_) | refine v_if_ne hX 151 qX12_read_144 rfl (fun q144 => ?_) (fun q144 => ?_)
                · skip
                  refine v_iload_n hX rfl qX12_read_151 ?_
                  refine v_iconst hX li_1 qX12_read_152 ?_
                  refine v_icmp_ne hX 161 qX12_read_153 rfl (fun q153 => ?_) (fun q153 => ?_)
                  · exact absurd rfl q153
                  · skip
                    refine v_iload hX rfl qX12_read_156 ?_
                    refine v_goto hX 163 qX12_read_158 rfl ?_
                    refine v_ireturn hX qX12_read_163 (hP _ _ ?_)
                    exact ⟨σ3, J3, _, rfl, rfl, g3, PoT.of (r := .inl g) hp3 e12⟩
                · exact absurd q144 (by decide)
              · skip
                refine v_iload_n hX rfl qX12_read_143 ?_
                first | refine v_if_neB hX 151 qX12_read_144 rfl (fun q144 => ?_) (fun q144 => ?_) | refine v_if_ne hX 151 qX12_read_144 rfl (fun q144 => ?_) (fun q144 => ?_)
                · skip
                  refine v_iload_n hX rfl qX12_read_151 ?_
                  refine v_iconst hX li_1 qX12_read_152 ?_
                  refine v_icmp_ne hX 161 qX12_read_153 rfl (fun q153 => ?_) (fun q153 => ?_)
                  · skip
                    refine v_iload hX rfl qX12_read_161 ?_
                    refine v_ireturn hX qX12_read_163 (hP _ _ ?_)
                    exact ⟨σ3, J3, _, rfl, rfl, g3, PoT.of (r := .inl g) hp3 e12⟩
                  · exact absurd q153 (by decide)
                · exact absurd q144 (by decide)
            · exact absurd q129 (by decide)
          · rw [e3] at hp3 e12
            obtain ⟨hx3, ha3⟩ := hp3
            have e12 : tTxt by' sz = if tkK by' sz i3 = 0 then .inr ((c1, v1), (c2, v2), (c3, v3)) else .inl i3 := e12
            refine v_istore hX (Nat.le_of_ble_eq_true rfl) rfl (ls' := [some _, some _, some _, some _, some _, some _]) rfl qX12_read_123 ?_
            refine v_aload_n hX rfl qX12_read_125 ?_
            refine v_getIv hX g_X12_156 (Or.inr rfl) (hm.kd 38 rfl) ha3.1.2.2.2.2.2.2 qX12_read_126 ?_
            first | refine v_if_neB hX 143 qX12_read_129 rfl (fun q129 => ?_) (fun q129 => ?_) | refine v_if_ne hX 143 qX12_read_129 rfl (fun q129 => ?_) (fun q129 => ?_)
            · exact absurd rfl q129
            · skip
              refine v_aload_n hX rfl qX12_read_132 ?_
              refine v_getIv hX g_X12_139 (Or.inl rfl) (hm.kd 38 rfl) ha3.2.2.1 qX12_read_133 ?_
              first | refine v_if_eqB hX 143 qX12_read_136 rfl (fun q136 => ?_) (fun q136 => ?_) | refine v_if_eq hX 143 qX12_read_136 rfl (fun q136 => ?_) (fun q136 => ?_)
              · skip
                have hw3c : w = 0 ∨ w = 1 ∨ w = 2 := by omega
                rcases hw3c with rfl | rfl | rfl
                · skip
                  refine v_iload_n hX rfl qX12_read_143 ?_
                  first | refine v_if_neB hX 151 qX12_read_144 rfl (fun q144 => ?_) (fun q144 => ?_) | refine v_if_ne hX 151 qX12_read_144 rfl (fun q144 => ?_) (fun q144 => ?_)
                  · exact absurd rfl q144
                  · skip
                    refine v_iload_n hX rfl qX12_read_147 ?_
                    refine v_goto hX 163 qX12_read_148 rfl ?_
                    refine v_ireturn hX qX12_read_163 (hP _ _ ?_)
                    exact ⟨σ3, J3, _, rfl, rfl, g3, PoT.of (r := .inr ((c1, v1), (c2, v2), (c3, v3))) ⟨ha3.1.2.2.2.2.2.2, (by first | exact hx1 | exact hx2 | exact hx3)⟩ (e12.trans (if_pos (tK_z.mp q136)))⟩
                · skip
                  refine v_iload_n hX rfl qX12_read_143 ?_
                  first | refine v_if_neB hX 151 qX12_read_144 rfl (fun q144 => ?_) (fun q144 => ?_) | refine v_if_ne hX 151 qX12_read_144 rfl (fun q144 => ?_) (fun q144 => ?_)
                  · skip
                    refine v_iload_n hX rfl qX12_read_151 ?_
                    refine v_iconst hX li_1 qX12_read_152 ?_
                    refine v_icmp_ne hX 161 qX12_read_153 rfl (fun q153 => ?_) (fun q153 => ?_)
                    · exact absurd rfl q153
                    · skip
                      refine v_iload hX rfl qX12_read_156 ?_
                      refine v_goto hX 163 qX12_read_158 rfl ?_
                      refine v_ireturn hX qX12_read_163 (hP _ _ ?_)
                      exact ⟨σ3, J3, _, rfl, rfl, g3, PoT.of (r := .inr ((c1, v1), (c2, v2), (c3, v3))) ⟨ha3.1.2.2.2.2.2.2, (by first | exact hx1 | exact hx2 | exact hx3)⟩ (e12.trans (if_pos (tK_z.mp q136)))⟩
                  · exact absurd q144 (by decide)
                · skip
                  refine v_iload_n hX rfl qX12_read_143 ?_
                  first | refine v_if_neB hX 151 qX12_read_144 rfl (fun q144 => ?_) (fun q144 => ?_) | refine v_if_ne hX 151 qX12_read_144 rfl (fun q144 => ?_) (fun q144 => ?_)
                  · skip
                    refine v_iload_n hX rfl qX12_read_151 ?_
                    refine v_iconst hX li_1 qX12_read_152 ?_
                    refine v_icmp_ne hX 161 qX12_read_153 rfl (fun q153 => ?_) (fun q153 => ?_)
                    · skip
                      refine v_iload hX rfl qX12_read_161 ?_
                      refine v_ireturn hX qX12_read_163 (hP _ _ ?_)
                      exact ⟨σ3, J3, _, rfl, rfl, g3, PoT.of (r := .inr ((c1, v1), (c2, v2), (c3, v3))) ⟨ha3.1.2.2.2.2.2.2, (by first | exact hx1 | exact hx2 | exact hx3)⟩ (e12.trans (if_pos (tK_z.mp q136)))⟩
                    · exact absurd q153 (by decide)
                  · exact absurd q144 (by decide)
              · skip
                refine v_aload_n hX rfl qX12_read_139 ?_
                refine v_callVq hX hR k_X12_170 (hm.kd 38 rfl) (m_fail0 (by exact hm) (by exact ha3.1.2.2.2.2.2.2) (by exact ha3.2.2.2.1)) rfl (Nat.le_of_ble_eq_true rfl) rfl (Nat.le_of_ble_eq_true rfl) ⟨Nat.le_of_ble_eq_true rfl, Nat.le_of_ble_eq_true rfl⟩ qX12_read_140 ?_
                rintro _ _ ⟨rfl, rfl⟩
                have hw3c : w = 0 ∨ w = 1 ∨ w = 2 := by omega
                rcases hw3c with rfl | rfl | rfl
                · skip
                  refine v_iload_n hX rfl qX12_read_143 ?_
                  first | refine v_if_neB hX 151 qX12_read_144 rfl (fun q144 => ?_) (fun q144 => ?_) | refine v_if_ne hX 151 qX12_read_144 rfl (fun q144 => ?_) (fun q144 => ?_)
                  · exact absurd rfl q144
                  · skip
                    refine v_iload_n hX rfl qX12_read_147 ?_
                    refine v_goto hX 163 qX12_read_148 rfl ?_
                    refine v_ireturn hX qX12_read_163 (hP _ _ ?_)
                    exact ⟨(stI (stI (mkH h σ3 J3) 38 28 1) 38 29 (nI (pl by' sz i3))).1, J3, _, rfl, rfl, ⟨fun a k hk => by show hpI (stI _ _ _ _) _ _ = _; rw [hpI_st, if_neg (by omega), hpI_st, if_neg (by omega)]; exact g3.1 a k hk, g3.2⟩, PoT.of (r := .inl i3) ⟨rfl, rfl⟩ (e12.trans (if_neg (fun z => q136 (tK_z.mpr z))))⟩
                · skip
                  refine v_iload_n hX rfl qX12_read_143 ?_
                  first | refine v_if_neB hX 151 qX12_read_144 rfl (fun q144 => ?_) (fun q144 => ?_) | refine v_if_ne hX 151 qX12_read_144 rfl (fun q144 => ?_) (fun q144 => ?_)
                  · skip
                    refine v_iload_n hX rfl qX12_read_151 ?_
                    refine v_iconst hX li_1 qX12_read_152 ?_
                    refine v_icmp_ne hX 161 qX12_read_153 rfl (fun q153 => ?_) (fun q153 => ?_)
                    · exact absurd rfl q153
                    · skip
                      refine v_iload hX rfl qX12_read_156 ?_
                      refine v_goto hX 163 qX12_read_158 rfl ?_
                      refine v_ireturn hX qX12_read_163 (hP _ _ ?_)
                      exact ⟨(stI (stI (mkH h σ3 J3) 38 28 1) 38 29 (nI (pl by' sz i3))).1, J3, _, rfl, rfl, ⟨fun a k hk => by show hpI (stI _ _ _ _) _ _ = _; rw [hpI_st, if_neg (by omega), hpI_st, if_neg (by omega)]; exact g3.1 a k hk, g3.2⟩, PoT.of (r := .inl i3) ⟨rfl, rfl⟩ (e12.trans (if_neg (fun z => q136 (tK_z.mpr z))))⟩
                  · exact absurd q144 (by decide)
                · skip
                  refine v_iload_n hX rfl qX12_read_143 ?_
                  first | refine v_if_neB hX 151 qX12_read_144 rfl (fun q144 => ?_) (fun q144 => ?_) | refine v_if_ne hX 151 qX12_read_144 rfl (fun q144 => ?_) (fun q144 => ?_)
                  · skip
                    refine v_iload_n hX rfl qX12_read_151 ?_
                    refine v_iconst hX li_1 qX12_read_152 ?_
                    refine v_icmp_ne hX 161 qX12_read_153 rfl (fun q153 => ?_) (fun q153 => ?_)
                    · skip
                      refine v_iload hX rfl qX12_read_161 ?_
                      refine v_ireturn hX qX12_read_163 (hP _ _ ?_)
                      exact ⟨(stI (stI (mkH h σ3 J3) 38 28 1) 38 29 (nI (pl by' sz i3))).1, J3, _, rfl, rfl, ⟨fun a k hk => by show hpI (stI _ _ _ _) _ _ = _; rw [hpI_st, if_neg (by omega), hpI_st, if_neg (by omega)]; exact g3.1 a k hk, g3.2⟩, PoT.of (r := .inl i3) ⟨rfl, rfl⟩ (e12.trans (if_neg (fun z => q136 (tK_z.mpr z))))⟩
                    · exact absurd q153 (by decide)
                  · exact absurd q144 (by decide)
        · exact absurd rfl q95
    · exact absurd rfl q63
