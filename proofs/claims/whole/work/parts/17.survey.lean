/-! what the rule tells of a cell: value, stand, isWetBy, survey and its memory -/
/-- the texts as the class keeps them: TV t q env is what part q of text t says under env -/
def RuOK (h : AHp) (cnt : Nat) (TV : Nat → Nat → (Nat → Int32) → Int32) : Prop := hpI h 17 2 = nI cnt ∧ cnt ≤ 6 ∧ ∃ E : Nat → Nat, E 0 = 0 ∧ (∀ i, i ≤ cnt * 3 → hpI h 19 i = nI (E i) ∧ E i ≤ 960) ∧ (∀ i, i < cnt * 3 → E i ≤ E (i + 1)) ∧ E (cnt * 3) ≤ cnt * 160 ∧ ∀ t q, t < cnt → q < 3 → ∀ env, evn (hpI h 18) env (E (t * 3 + q + 1) - E (t * 3 + q)) (E (t * 3 + q)) [] = some [TV t q env]
theorem evn_s {f env : Nat → Int32} {n i : Nat} {s r : List Int32} (h : evn f env (n + 1) i s = some r) : ∃ s', ev1 env (f i) s = some s' ∧ evn f env n (i + 1) s' = some r := by
  rw [evn] at h
  cases e : ev1 env (f i) s with
  | none => rw [e] at h; cases h
  | some s' => rw [e] at h; exact ⟨s', rfl, h⟩
def envC (pl t hr d : Int32) : Nat → Int32 := fun k => match k with
  | 0 => pl / 8
  | 1 => rmI pl 8
  | 2 => d
  | 3 => t
  | 4 => hr
  | _ => mxI 0 (100 - 10 * (if 0 ≤ hr - 13 then hr - 13 else 0 - (hr - 13)))
theorem RuOK.fr {h : AHp} {cnt : Nat} {TV : Nat → Nat → (Nat → Int32) → Int32} {σ : Nat → Nat → Int32} (hr : RuOK h cnt TV) (h1 : σ 17 2 = hpI h 17 2) (h2 : σ 18 = hpI h 18) (h3 : σ 19 = hpI h 19) : RuOK (σ, h.2) cnt TV := by
  obtain ⟨a, b, E, c, d, e, f, g⟩ := hr
  refine ⟨h1.trans a, b, E, c, fun i hi => ⟨(congrFun h3 i).trans (d i hi).1, (d i hi).2⟩, e, f, ?_⟩
  show ∀ t q, t < cnt → q < 3 → ∀ env, evn (σ 18) env _ _ [] = _
  rw [h2]
  exact g
def FrW (h : AHp) (σ : Nat → Nat → Int32) : Prop := ∀ a k, a ≠ 20 → a ≠ 21 → ¬ (a = 17 ∧ k = 5) → σ a k = hpI h a k
def FrV (h : AHp) (σ : Nat → Nat → Int32) : Prop := ∀ a k, (a < 20 ∨ 25 < a) → ¬ (a = 17 ∧ (k = 5 ∨ 10 ≤ k)) → σ a k = hpI h a k
theorem RuOK.frS {h : AHp} {cnt : Nat} {TV : Nat → Nat → (Nat → Int32) → Int32} {σ : Nat → Nat → Int32} (hr : RuOK h cnt TV) (hf : FrS h σ) : RuOK (σ, h.2) cnt TV := hr.fr (hf 17 2 (by omega) (by omega)) (funext fun k => hf 18 k (by omega) (by omega)) (funext fun k => hf 19 k (by omega) (by omega))
theorem RuOK.frW {h : AHp} {cnt : Nat} {TV : Nat → Nat → (Nat → Int32) → Int32} {σ : Nat → Nat → Int32} (hr : RuOK h cnt TV) (hf : FrW h σ) : RuOK (σ, h.2) cnt TV := hr.fr (hf 17 2 (by omega) (by omega) (by omega)) (funext fun k => hf 18 k (by omega) (by omega) (by omega)) (funext fun k => hf 19 k (by omega) (by omega) (by omega))
theorem RuOK.frV {h : AHp} {cnt : Nat} {TV : Nat → Nat → (Nat → Int32) → Int32} {σ : Nat → Nat → Int32} (hr : RuOK h cnt TV) (hf : FrV h σ) : RuOK (σ, h.2) cnt TV := hr.fr (hf 17 2 (by omega) (by omega)) (funext fun k => hf 18 k (by omega) (by omega)) (funext fun k => hf 19 k (by omega) (by omega))
theorem qX5_isFull_0 : Dq cX5_isFull 0 (.aload_n 0) 1 1 := ⟨by decide +kernel, rfl⟩
theorem qX5_isFull_1 : Dq cX5_isFull 1 (.getfield 36) 3 4 := ⟨by decide +kernel, rfl⟩
theorem qX5_isFull_4 : Dq cX5_isFull 4 (.bipush 6) 2 6 := ⟨by decide +kernel, rfl⟩
theorem qX5_isFull_6 : Dq cX5_isFull 6 (.if_icmp .lt 7) 3 9 := ⟨by decide +kernel, rfl⟩
theorem qX5_isFull_9 : Dq cX5_isFull 9 (.iconst 1) 1 10 := ⟨by decide +kernel, rfl⟩
theorem qX5_isFull_10 : Dq cX5_isFull 10 (.goto 4) 3 13 := ⟨by decide +kernel, rfl⟩
theorem qX5_isFull_13 : Dq cX5_isFull 13 (.iconst 0) 1 14 := ⟨by decide +kernel, rfl⟩
theorem qX5_isFull_14 : Dq cX5_isFull 14 (.ireturn) 1 15 := ⟨by decide +kernel, rfl⟩
set_option maxRecDepth 100000 in
set_option maxHeartbeats 4000000 in
theorem c_isFull {G : Glb} {h : AHp} (hs : ShC h)  : CP G m_X5_isFull 1 0 0 [.ref 17] h (fun r h' => r = some (.int (bz (6 ≤ hpI h 17 2))) ∧ h = h') := by
  suffices key : ∀ P : Option Value → AHp → Prop, (∀ r h', (r = some (.int (bz (6 ≤ hpI h 17 2))) ∧ h = h') → P r h') → CP G m_X5_isFull 1 0 0 [.ref 17] h P from key _ (fun _ _ z => z)
  intro P hP
  refine CP.of (by decide +kernel) (Nat.le_of_ble_eq_true rfl) fun X hX hR hnm => ?_
  show V X G 1 0 0 _ 0 [some (.ref 17)] [] h
  refine v_aload_n hX rfl qX5_isFull_0 ?_
  refine v_getI hX g_X5_36 (Or.inl rfl) (hs.kd 17 rfl) qX5_isFull_1 ?_
  refine v_bipush hX lb_6 qX5_isFull_4 ?_
  refine v_icmp_ltS hX 13 qX5_isFull_6 rfl (fun q6 => ?_) (fun q6 => ?_)
  · skip
    refine v_iconst hX li_0 qX5_isFull_13 ?_
    refine v_zreturn hX (by first | exact Or.inl rfl | exact Or.inr rfl | exact bz01 _) qX5_isFull_14 (hP _ _ ?_)
    first | exact ⟨rz (bz_t (by assumption)), rfl⟩ | exact ⟨rz (bz_f (Int32.not_le.mpr (by assumption))), rfl⟩
  · skip
    refine v_iconst hX li_1 qX5_isFull_9 ?_
    refine v_goto hX 14 qX5_isFull_10 rfl ?_
    refine v_zreturn hX (by first | exact Or.inl rfl | exact Or.inr rfl | exact bz01 _) qX5_isFull_14 (hP _ _ ?_)
    first | exact ⟨rz (bz_t (by assumption)), rfl⟩ | exact ⟨rz (bz_f (Int32.not_le.mpr (by assumption))), rfl⟩
theorem qX5_hasText_0 : Dq cX5_hasText 0 (.iload_n 1) 1 1 := ⟨by decide +kernel, rfl⟩
theorem qX5_hasText_1 : Dq cX5_hasText 1 (.iconst 0) 1 2 := ⟨by decide +kernel, rfl⟩
theorem qX5_hasText_2 : Dq cX5_hasText 2 (.aload_n 0) 1 3 := ⟨by decide +kernel, rfl⟩
theorem qX5_hasText_3 : Dq cX5_hasText 3 (.getfield 36) 3 6 := ⟨by decide +kernel, rfl⟩
theorem qX5_hasText_6 : Dq cX5_hasText 6 (.iconst 1) 1 7 := ⟨by decide +kernel, rfl⟩
theorem qX5_hasText_7 : Dq cX5_hasText 7 (.isub) 1 8 := ⟨by decide +kernel, rfl⟩
theorem qX5_hasText_8 : Dq cX5_hasText 8 (.invokestatic 40) 3 11 := ⟨by decide +kernel, rfl⟩
theorem qX5_hasText_11 : Dq cX5_hasText 11 (.ireturn) 1 12 := ⟨by decide +kernel, rfl⟩
set_option maxRecDepth 100000 in
set_option maxHeartbeats 4000000 in
theorem c_hasText {G : Glb} {h : AHp} (hs : ShC h) {cnt : Nat} (hz : hpI h 17 2 = nI cnt) (hc6 : cnt ≤ 6) (i : Int32) : CP G m_X5_hasText 2 0 0 [.ref 17, .int i] h (fun r h' => r = some (.int (bz (0 ≤ i ∧ i < nI cnt))) ∧ h = h') := by
  suffices key : ∀ P : Option Value → AHp → Prop, (∀ r h', (r = some (.int (bz (0 ≤ i ∧ i < nI cnt))) ∧ h = h') → P r h') → CP G m_X5_hasText 2 0 0 [.ref 17, .int i] h P from key _ (fun _ _ z => z)
  intro P hP
  refine CP.of (by decide +kernel) (Nat.le_of_ble_eq_true rfl) fun X hX hR hnm => ?_
  show V X G 2 0 0 _ 0 [some (.ref 17), some (.int i)] [] h
  refine v_iload_n hX rfl qX5_hasText_0 ?_
  refine v_iconst hX li_0 qX5_hasText_1 ?_
  refine v_aload_n hX rfl qX5_hasText_2 ?_
  refine v_getIv hX g_X5_36 (Or.inl rfl) (hs.kd 17 rfl) hz qX5_hasText_3 ?_
  refine v_iconst hX li_1 qX5_hasText_6 ?_
  refine v_isub hX qX5_hasText_7 ?_
  refine v_callNq hX hR k_X5_40 (c_isWithin _ _ _) rfl (Nat.le_of_ble_eq_true rfl) rfl (Nat.le_of_ble_eq_true rfl) ⟨Nat.le_of_ble_eq_true rfl, Nat.le_of_ble_eq_true rfl⟩ qX5_hasText_8 ?_
  rintro _ _ ⟨rfl, rfl⟩
  refine v_zreturn hX (by first | exact Or.inl rfl | exact Or.inr rfl | exact bz01 _) qX5_hasText_11 (hP _ _ ?_)
  exact ⟨congrArg (fun z => some (Value.int z)) (bz_c (by rw [leM1 (by omega)])), rfl⟩
theorem qX5_value_0 : Dq cX5_value 0 (.aload_n 0) 1 1 := ⟨by decide +kernel, rfl⟩
theorem qX5_value_1 : Dq cX5_value 1 (.iconst 0) 1 2 := ⟨by decide +kernel, rfl⟩
theorem qX5_value_2 : Dq cX5_value 2 (.putfield 108) 3 5 := ⟨by decide +kernel, rfl⟩
theorem qX5_value_5 : Dq cX5_value 5 (.aload_n 0) 1 6 := ⟨by decide +kernel, rfl⟩
theorem qX5_value_6 : Dq cX5_value 6 (.iload_n 1) 1 7 := ⟨by decide +kernel, rfl⟩
theorem qX5_value_7 : Dq cX5_value 7 (.invokevirtual 111) 3 10 := ⟨by decide +kernel, rfl⟩
theorem qX5_value_10 : Dq cX5_value 10 (.ifCond .eq 12) 3 13 := ⟨by decide +kernel, rfl⟩
theorem qX5_value_13 : Dq cX5_value 13 (.iload_n 2) 1 14 := ⟨by decide +kernel, rfl⟩
theorem qX5_value_14 : Dq cX5_value 14 (.iconst 0) 1 15 := ⟨by decide +kernel, rfl⟩
theorem qX5_value_15 : Dq cX5_value 15 (.iconst 2) 1 16 := ⟨by decide +kernel, rfl⟩
theorem qX5_value_16 : Dq cX5_value 16 (.invokestatic 40) 3 19 := ⟨by decide +kernel, rfl⟩
theorem qX5_value_19 : Dq cX5_value 19 (.ifCond .ne 5) 3 22 := ⟨by decide +kernel, rfl⟩
theorem qX5_value_24 : Dq cX5_value 24 (.aload_n 0) 1 25 := ⟨by decide +kernel, rfl⟩
theorem qX5_value_25 : Dq cX5_value 25 (.getfield 15) 3 28 := ⟨by decide +kernel, rfl⟩
theorem qX5_value_28 : Dq cX5_value 28 (.iload_n 1) 1 29 := ⟨by decide +kernel, rfl⟩
theorem qX5_value_29 : Dq cX5_value 29 (.iconst 3) 1 30 := ⟨by decide +kernel, rfl⟩
theorem qX5_value_30 : Dq cX5_value 30 (.imul) 1 31 := ⟨by decide +kernel, rfl⟩
theorem qX5_value_31 : Dq cX5_value 31 (.iload_n 2) 1 32 := ⟨by decide +kernel, rfl⟩
theorem qX5_value_32 : Dq cX5_value 32 (.iadd) 1 33 := ⟨by decide +kernel, rfl⟩
theorem qX5_value_33 : Dq cX5_value 33 (.iconst 1) 1 34 := ⟨by decide +kernel, rfl⟩
theorem qX5_value_34 : Dq cX5_value 34 (.iadd) 1 35 := ⟨by decide +kernel, rfl⟩
theorem qX5_value_35 : Dq cX5_value 35 (.iaload) 1 36 := ⟨by decide +kernel, rfl⟩
theorem qX5_value_36 : Dq cX5_value 36 (.istore_n 3) 1 37 := ⟨by decide +kernel, rfl⟩
theorem qX5_value_37 : Dq cX5_value 37 (.aload_n 0) 1 38 := ⟨by decide +kernel, rfl⟩
theorem qX5_value_38 : Dq cX5_value 38 (.getfield 15) 3 41 := ⟨by decide +kernel, rfl⟩
theorem qX5_value_41 : Dq cX5_value 41 (.iload_n 1) 1 42 := ⟨by decide +kernel, rfl⟩
theorem qX5_value_42 : Dq cX5_value 42 (.iconst 3) 1 43 := ⟨by decide +kernel, rfl⟩
theorem qX5_value_43 : Dq cX5_value 43 (.imul) 1 44 := ⟨by decide +kernel, rfl⟩
theorem qX5_value_44 : Dq cX5_value 44 (.iload_n 2) 1 45 := ⟨by decide +kernel, rfl⟩
theorem qX5_value_45 : Dq cX5_value 45 (.iadd) 1 46 := ⟨by decide +kernel, rfl⟩
theorem qX5_value_46 : Dq cX5_value 46 (.iaload) 1 47 := ⟨by decide +kernel, rfl⟩
theorem qX5_value_47 : Dq cX5_value 47 (.istore 4) 2 49 := ⟨by decide +kernel, rfl⟩
theorem qX5_value_49 : Dq cX5_value 49 (.iload 4) 2 51 := ⟨by decide +kernel, rfl⟩
theorem qX5_value_51 : Dq cX5_value 51 (.iload_n 3) 1 52 := ⟨by decide +kernel, rfl⟩
theorem qX5_value_52 : Dq cX5_value 52 (.if_icmp .ge 30) 3 55 := ⟨by decide +kernel, rfl⟩
theorem qX5_value_55 : Dq cX5_value 55 (.iload 4) 2 57 := ⟨by decide +kernel, rfl⟩
theorem qX5_value_57 : Dq cX5_value 57 (.aload_n 0) 1 58 := ⟨by decide +kernel, rfl⟩
theorem qX5_value_58 : Dq cX5_value 58 (.getfield 9) 3 61 := ⟨by decide +kernel, rfl⟩
theorem qX5_value_61 : Dq cX5_value 61 (.arraylength) 1 62 := ⟨by decide +kernel, rfl⟩
theorem qX5_value_62 : Dq cX5_value 62 (.if_icmp .ge 20) 3 65 := ⟨by decide +kernel, rfl⟩
theorem qX5_value_65 : Dq cX5_value 65 (.aload_n 0) 1 66 := ⟨by decide +kernel, rfl⟩
theorem qX5_value_66 : Dq cX5_value 66 (.aload_n 0) 1 67 := ⟨by decide +kernel, rfl⟩
theorem qX5_value_67 : Dq cX5_value 67 (.getfield 9) 3 70 := ⟨by decide +kernel, rfl⟩
theorem qX5_value_70 : Dq cX5_value 70 (.iload 4) 2 72 := ⟨by decide +kernel, rfl⟩
theorem qX5_value_72 : Dq cX5_value 72 (.iaload) 1 73 := ⟨by decide +kernel, rfl⟩
theorem qX5_value_73 : Dq cX5_value 73 (.invokevirtual 114) 3 76 := ⟨by decide +kernel, rfl⟩
theorem qX5_value_76 : Dq cX5_value 76 (.iinc 4 1) 3 79 := ⟨by decide +kernel, rfl⟩
theorem qX5_value_79 : Dq cX5_value 79 (.goto (-30)) 3 82 := ⟨by decide +kernel, rfl⟩
theorem qX5_value_82 : Dq cX5_value 82 (.aload_n 0) 1 83 := ⟨by decide +kernel, rfl⟩
theorem qX5_value_83 : Dq cX5_value 83 (.invokevirtual 118) 3 86 := ⟨by decide +kernel, rfl⟩
theorem qX5_value_86 : Dq cX5_value 86 (.ireturn) 1 87 := ⟨by decide +kernel, rfl⟩
set_option maxRecDepth 100000 in
set_option maxHeartbeats 4000000 in
theorem c_value {G : Glb} {h : AHp} (hs : ShC h) {cnt : Nat} {TV : Nat → Nat → (Nat → Int32) → Int32} (hru : RuOK h cnt TV) {t qq : Nat} (ht : t < cnt) (hq3 : qq < 3) {env : Nat → Int32} (hnm6 : ∀ k, k < 6 → hpI h 20 k = env k) : CP G m_X5_value 3 0 0 [.ref 17, .int (nI t), .int (nI qq)] h (fun r h' => r = some (.int (TV t qq env)) ∧ ∃ σ, h' = (σ, h.2) ∧ FrS h σ) := by
  suffices key : ∀ P : Option Value → AHp → Prop, (∀ r h', (r = some (.int (TV t qq env)) ∧ ∃ σ, h' = (σ, h.2) ∧ FrS h σ) → P r h') → CP G m_X5_value 3 0 0 [.ref 17, .int (nI t), .int (nI qq)] h P from key _ (fun _ _ z => z)
  intro P hP
  refine CP.of (by decide +kernel) (Nat.le_of_ble_eq_true rfl) fun X hX hR hnm => ?_
  show V X G 5 0 0 _ 0 [some (.ref 17), some (.int (nI t)), some (.int (nI qq)), none, none] [] h
  obtain ⟨hz, hc6, E, hE0, hE, hEm, -, hev0⟩ := hru
  have hev1 := hev0 t qq ht hq3 env
  have hb := hE (t * 3 + qq + 1) (by omega)
  have ha := hE (t * 3 + qq) (by omega)
  have hab := hEm (t * 3 + qq) (by omega)
  generalize heb : E (t * 3 + qq + 1) = eb at *
  generalize hea : E (t * 3 + qq) = ea at *
  refine v_aload_n hX rfl qX5_value_0 ?_
  refine v_iconst hX li_0 qX5_value_1 ?_
  refine v_putI hX p_X5_108 (hs.kd 17 rfl) (Or.inl rfl) qX5_value_2 ?_
  refine v_aload_n hX rfl qX5_value_5 ?_
  refine v_iload_n hX rfl qX5_value_6 ?_
  refine v_callVq hX hR k_X5_111 (hs.kd 17 rfl) (c_hasText (by exact hs) (cnt := cnt) (by exact hz) (by exact hc6) _) rfl (Nat.le_of_ble_eq_true rfl) rfl (Nat.le_of_ble_eq_true rfl) ⟨Nat.le_of_ble_eq_true rfl, Nat.le_of_ble_eq_true rfl⟩ qX5_value_7 ?_
  rintro _ _ ⟨rfl, rfl⟩
  first | refine v_if_eqB hX 22 qX5_value_10 rfl (fun q10 => ?_) (fun q10 => ?_) | refine v_if_eq hX 22 qX5_value_10 rfl (fun q10 => ?_) (fun q10 => ?_)
  · exact absurd ⟨nI_pos' (by omega), nI_lt ht (by omega)⟩ q10
  · skip
    refine v_iload_n hX rfl qX5_value_13 ?_
    refine v_iconst hX li_0 qX5_value_14 ?_
    refine v_iconst hX li_2 qX5_value_15 ?_
    refine v_callNq hX hR k_X5_40 (c_isWithin _ _ _) rfl (Nat.le_of_ble_eq_true rfl) rfl (Nat.le_of_ble_eq_true rfl) ⟨Nat.le_of_ble_eq_true rfl, Nat.le_of_ble_eq_true rfl⟩ qX5_value_16 ?_
    rintro _ _ ⟨rfl, rfl⟩
    first | refine v_if_neB hX 24 qX5_value_19 rfl (fun q19 => ?_) (fun q19 => ?_) | refine v_if_ne hX 24 qX5_value_19 rfl (fun q19 => ?_) (fun q19 => ?_)
    · skip
      refine v_aload_n hX rfl qX5_value_24 ?_
      refine v_getR hX g_X5_15 (hs.kd 17 rfl) (hs.rf 20 rfl) qX5_value_25 ?_
      refine v_iload_n hX rfl qX5_value_28 ?_
      refine v_iconst hX li_3 qX5_value_29 ?_
      refine v_imul hX qX5_value_30 ?_
      refine v_iload_n hX rfl qX5_value_31 ?_
      refine v_iadd hX qX5_value_32 ?_
      refine v_iconst hX li_1 qX5_value_33 ?_
      refine v_iadd hX qX5_value_34 ?_
      refine v_eqI (show nI t * 3 + nI qq + 1 = nI (t * 3 + qq + 1) by rw [show (3 : Int32) = nI 3 from rfl, pk_mul, nI_add, nI_1]) ?_
      refine v_ialdV hX (hs.kd 19 rfl) (hs.ln 19 rfl) (by exact ix_n (n := t * 3 + qq + 1) (by omega) rfl) hb.1 qX5_value_35 ?_
      refine v_istore_n hX (Nat.le_of_ble_eq_true rfl) rfl (ls' := [some _, some _, some _, some _, none]) rfl qX5_value_36 ?_
      refine v_aload_n hX rfl qX5_value_37 ?_
      refine v_getR hX g_X5_15 (hs.kd 17 rfl) (hs.rf 20 rfl) qX5_value_38 ?_
      refine v_iload_n hX rfl qX5_value_41 ?_
      refine v_iconst hX li_3 qX5_value_42 ?_
      refine v_imul hX qX5_value_43 ?_
      refine v_iload_n hX rfl qX5_value_44 ?_
      refine v_iadd hX qX5_value_45 ?_
      refine v_eqI (show nI t * 3 + nI qq = nI (t * 3 + qq) by rw [show (3 : Int32) = nI 3 from rfl, pk_mul, nI_add]) ?_
      refine v_ialdV hX (hs.kd 19 rfl) (hs.ln 19 rfl) (by exact ix_n (n := t * 3 + qq) (by omega) rfl) ha.1 qX5_value_46 ?_
      refine v_istore hX (Nat.le_of_ble_eq_true rfl) rfl (ls' := [some _, some _, some _, some _, some _]) rfl qX5_value_47 ?_
      have L49 : ∀ (m : Nat) (i : Nat) (s : List Int32) (σ : Nat → Nat → Int32), eb - i = m → (i ≤ eb) → (Stk (σ, h.2) s) → (FrS h σ) → (evn (hpI h 18) env (eb - i) i s = some [TV t qq env]) → V X G 5 0 0 (QM X G P 0 0) 49 [some (.ref 17), some (.int (nI t)), some (.int (nI qq)), some (.int (nI eb)), some (.int (nI i))] [] (σ, h.2) := by
        intro m
        induction m using Nat.strongRecOn with
        | _ m ih =>
        intro i s σ hm hi hst hf hev
        refine v_iload hX rfl qX5_value_49 ?_
        refine v_iload_n hX rfl qX5_value_51 ?_
        refine v_icmp_geS hX 82 qX5_value_52 rfl (fun q52 => ?_) (fun q52 => ?_)
        · have e : i = eb := Nat.le_antisymm hi (nI_le' (by omega) (by omega) q52); subst e
          have hev3 := hev; rw [Nat.sub_self] at hev3; have hs1 : s = [TV t qq env] := Option.some.inj hev3; subst hs1
          refine v_aload_n hX rfl qX5_value_82 ?_
          refine v_callVq hX hR k_X5_118 (hs.kd 17 rfl) (c_pop (by exact hs) (by exact hst)) rfl (Nat.le_of_ble_eq_true rfl) rfl (Nat.le_of_ble_eq_true rfl) ⟨Nat.le_of_ble_eq_true rfl, Nat.le_of_ble_eq_true rfl⟩ qX5_value_83 ?_
          rintro _ _ ⟨rfl, rfl⟩
          refine v_ireturn hX qX5_value_86 (hP _ _ ?_)
          exact ⟨rfl, _, rfl, fun a k h1 h2 => by show hpI (stI _ _ _ _) _ _ = _; rw [hpI_st, if_neg h2]; exact hf a k h1 h2⟩
        · have hl := nI_lt' (by omega) (by omega) q52
          refine v_iload hX rfl qX5_value_55 ?_
          refine v_aload_n hX rfl qX5_value_57 ?_
          refine v_getR hX g_X5_9 (hs.kd 17 rfl) (hs.rf 19 rfl) qX5_value_58 ?_
          refine v_alen hX (hs.kd 18 rfl) (hs.ln 18 rfl) qX5_value_61 ?_
          refine v_icmp_geS hX 82 qX5_value_62 rfl (fun q62 => ?_) (fun q62 => ?_)
          · exact absurd (nI_le' (i := 960) (by omega) (by omega) q62) (by omega)
          · obtain ⟨s2, he1, he2⟩ := evn_s (n := eb - (i + 1)) (by rw [show eb - (i + 1) + 1 = eb - i by omega]; exact hev)
            refine v_aload_n hX rfl qX5_value_65 ?_
            refine v_aload_n hX rfl qX5_value_66 ?_
            refine v_getR hX g_X5_9 (hs.kd 17 rfl) (hs.rf 19 rfl) qX5_value_67 ?_
            refine v_iload hX rfl qX5_value_70 ?_
            refine v_ialdV hX (hs.kd 18 rfl) (hs.ln 18 rfl) (by exact ix_n (n := i) (by omega) rfl) (hf 18 i (by omega) (by omega)) qX5_value_72 ?_
            refine v_callVq hX hR k_X5_114 (hs.kd 17 rfl) (c_take (by exact hs) (by exact hst) (by exact (fun k hk => (hf 20 k (by omega) (by omega)).trans (hnm6 k hk))) (by exact he1)) rfl (Nat.le_of_ble_eq_true rfl) rfl (Nat.le_of_ble_eq_true rfl) ⟨Nat.le_of_ble_eq_true rfl, Nat.le_of_ble_eq_true rfl⟩ qX5_value_73 ?_
            rintro _ _ ⟨rfl, σ2, rfl, hf2, hst2⟩
            refine v_iinc hX rfl (by first | exact ii_nI _ | exact ii_1 _) (Nat.le_of_ble_eq_true rfl) rfl (ls' := [some _, some _, some _, some _, some _]) rfl qX5_value_76 ?_
            refine v_goto hX 49 qX5_value_79 rfl ?_
            exact ih _ (by omega) (i + 1) s2 σ2 rfl (by omega) hst2 (fun a k h1 h2 => (hf2 a k h1 h2).trans (hf a k h1 h2)) he2
      exact L49 _ ea [] _ rfl (by omega) ⟨rfl, by simp, fun i x hx => by simp at hx⟩ (fun a k h1 h2 => by show hpI (stI _ _ _ _) _ _ = _; rw [hpI_st, if_neg h2]) hev1
    · exact absurd ⟨nI_pos' (by omega), nI_le (b := 2) (by omega) (by omega)⟩ q19
theorem qX5_stand_0 : Dq cX5_stand 0 (.aload_n 0) 1 1 := ⟨by decide +kernel, rfl⟩
theorem qX5_stand_1 : Dq cX5_stand 1 (.getfield 18) 3 4 := ⟨by decide +kernel, rfl⟩
theorem qX5_stand_4 : Dq cX5_stand 4 (.iconst 0) 1 5 := ⟨by decide +kernel, rfl⟩
theorem qX5_stand_5 : Dq cX5_stand 5 (.iload_n 1) 1 6 := ⟨by decide +kernel, rfl⟩
theorem qX5_stand_6 : Dq cX5_stand 6 (.bipush 8) 2 8 := ⟨by decide +kernel, rfl⟩
theorem qX5_stand_8 : Dq cX5_stand 8 (.idiv) 1 9 := ⟨by decide +kernel, rfl⟩
theorem qX5_stand_9 : Dq cX5_stand 9 (.iastore) 1 10 := ⟨by decide +kernel, rfl⟩
theorem qX5_stand_10 : Dq cX5_stand 10 (.aload_n 0) 1 11 := ⟨by decide +kernel, rfl⟩
theorem qX5_stand_11 : Dq cX5_stand 11 (.getfield 18) 3 14 := ⟨by decide +kernel, rfl⟩
theorem qX5_stand_14 : Dq cX5_stand 14 (.iconst 1) 1 15 := ⟨by decide +kernel, rfl⟩
theorem qX5_stand_15 : Dq cX5_stand 15 (.iload_n 1) 1 16 := ⟨by decide +kernel, rfl⟩
theorem qX5_stand_16 : Dq cX5_stand 16 (.bipush 8) 2 18 := ⟨by decide +kernel, rfl⟩
theorem qX5_stand_18 : Dq cX5_stand 18 (.irem) 1 19 := ⟨by decide +kernel, rfl⟩
theorem qX5_stand_19 : Dq cX5_stand 19 (.iastore) 1 20 := ⟨by decide +kernel, rfl⟩
theorem qX5_stand_20 : Dq cX5_stand 20 (.aload_n 0) 1 21 := ⟨by decide +kernel, rfl⟩
theorem qX5_stand_21 : Dq cX5_stand 21 (.getfield 18) 3 24 := ⟨by decide +kernel, rfl⟩
theorem qX5_stand_24 : Dq cX5_stand 24 (.iconst 2) 1 25 := ⟨by decide +kernel, rfl⟩
theorem qX5_stand_25 : Dq cX5_stand 25 (.iconst 0) 1 26 := ⟨by decide +kernel, rfl⟩
theorem qX5_stand_26 : Dq cX5_stand 26 (.iastore) 1 27 := ⟨by decide +kernel, rfl⟩
theorem qX5_stand_27 : Dq cX5_stand 27 (.aload_n 0) 1 28 := ⟨by decide +kernel, rfl⟩
theorem qX5_stand_28 : Dq cX5_stand 28 (.getfield 18) 3 31 := ⟨by decide +kernel, rfl⟩
theorem qX5_stand_31 : Dq cX5_stand 31 (.iconst 3) 1 32 := ⟨by decide +kernel, rfl⟩
theorem qX5_stand_32 : Dq cX5_stand 32 (.iload_n 2) 1 33 := ⟨by decide +kernel, rfl⟩
theorem qX5_stand_33 : Dq cX5_stand 33 (.iastore) 1 34 := ⟨by decide +kernel, rfl⟩
theorem qX5_stand_34 : Dq cX5_stand 34 (.aload_n 0) 1 35 := ⟨by decide +kernel, rfl⟩
theorem qX5_stand_35 : Dq cX5_stand 35 (.getfield 18) 3 38 := ⟨by decide +kernel, rfl⟩
theorem qX5_stand_38 : Dq cX5_stand 38 (.iconst 4) 1 39 := ⟨by decide +kernel, rfl⟩
theorem qX5_stand_39 : Dq cX5_stand 39 (.iload_n 3) 1 40 := ⟨by decide +kernel, rfl⟩
theorem qX5_stand_40 : Dq cX5_stand 40 (.iastore) 1 41 := ⟨by decide +kernel, rfl⟩
theorem qX5_stand_41 : Dq cX5_stand 41 (.aload_n 0) 1 42 := ⟨by decide +kernel, rfl⟩
theorem qX5_stand_42 : Dq cX5_stand 42 (.getfield 18) 3 45 := ⟨by decide +kernel, rfl⟩
theorem qX5_stand_45 : Dq cX5_stand 45 (.iconst 5) 1 46 := ⟨by decide +kernel, rfl⟩
theorem qX5_stand_46 : Dq cX5_stand 46 (.iconst 0) 1 47 := ⟨by decide +kernel, rfl⟩
theorem qX5_stand_47 : Dq cX5_stand 47 (.bipush 100) 2 49 := ⟨by decide +kernel, rfl⟩
theorem qX5_stand_49 : Dq cX5_stand 49 (.bipush 10) 2 51 := ⟨by decide +kernel, rfl⟩
theorem qX5_stand_51 : Dq cX5_stand 51 (.iload_n 3) 1 52 := ⟨by decide +kernel, rfl⟩
theorem qX5_stand_52 : Dq cX5_stand 52 (.bipush 13) 2 54 := ⟨by decide +kernel, rfl⟩
theorem qX5_stand_54 : Dq cX5_stand 54 (.isub) 1 55 := ⟨by decide +kernel, rfl⟩
theorem qX5_stand_55 : Dq cX5_stand 55 (.invokestatic 100) 3 58 := ⟨by decide +kernel, rfl⟩
theorem qX5_stand_58 : Dq cX5_stand 58 (.imul) 1 59 := ⟨by decide +kernel, rfl⟩
theorem qX5_stand_59 : Dq cX5_stand 59 (.isub) 1 60 := ⟨by decide +kernel, rfl⟩
theorem qX5_stand_60 : Dq cX5_stand 60 (.invokestatic 105) 3 63 := ⟨by decide +kernel, rfl⟩
theorem qX5_stand_63 : Dq cX5_stand 63 (.iastore) 1 64 := ⟨by decide +kernel, rfl⟩
theorem qX5_stand_64 : Dq cX5_stand 64 (.return_) 1 65 := ⟨by decide +kernel, rfl⟩
set_option maxRecDepth 100000 in
set_option maxHeartbeats 4000000 in
theorem c_stand {G : Glb} {h : AHp} (hs : ShC h) (pl t hr : Int32) : CP G m_X5_stand 2 0 0 [.ref 17, .int pl, .int t, .int hr] h (fun r h' => r = none ∧ ∃ σ, h' = (σ, h.2) ∧ (∀ k, k < 6 → σ 20 k = envC pl t hr 0 k) ∧ ∀ a, a ≠ 20 → σ a = hpI h a) := by
  suffices key : ∀ P : Option Value → AHp → Prop, (∀ r h', (r = none ∧ ∃ σ, h' = (σ, h.2) ∧ (∀ k, k < 6 → σ 20 k = envC pl t hr 0 k) ∧ ∀ a, a ≠ 20 → σ a = hpI h a) → P r h') → CP G m_X5_stand 2 0 0 [.ref 17, .int pl, .int t, .int hr] h P from key _ (fun _ _ z => z)
  intro P hP
  refine CP.of (by decide +kernel) (Nat.le_of_ble_eq_true rfl) fun X hX hR hnm => ?_
  show V X G 4 0 0 _ 0 [some (.ref 17), some (.int pl), some (.int t), some (.int hr)] [] h
  refine v_aload_n hX rfl qX5_stand_0 ?_
  refine v_getR hX g_X5_18 (hs.kd 17 rfl) (hs.rf 21 rfl) qX5_stand_1 ?_
  refine v_iconst hX li_0 qX5_stand_4 ?_
  refine v_iload_n hX rfl qX5_stand_5 ?_
  refine v_bipush hX lb_8 qX5_stand_6 ?_
  refine v_idiv hX (by decide) qX5_stand_8 ?_
  refine v_iastJ hX (hs.kd 20 rfl) (hs.ln 20 rfl) (by exact ixk 0 (by decide) (by decide) rfl) qX5_stand_9 ?_
  refine v_aload_n hX rfl qX5_stand_10 ?_
  refine v_getR hX g_X5_18 (hs.kd 17 rfl) (hs.rf 21 rfl) qX5_stand_11 ?_
  refine v_iconst hX li_1 qX5_stand_14 ?_
  refine v_iload_n hX rfl qX5_stand_15 ?_
  refine v_bipush hX lb_8 qX5_stand_16 ?_
  refine v_irem hX (by decide) qX5_stand_18 ?_
  refine v_iastJ hX (hs.kd 20 rfl) (hs.ln 20 rfl) (by exact ixk 1 (by decide) (by decide) rfl) qX5_stand_19 ?_
  refine v_aload_n hX rfl qX5_stand_20 ?_
  refine v_getR hX g_X5_18 (hs.kd 17 rfl) (hs.rf 21 rfl) qX5_stand_21 ?_
  refine v_iconst hX li_2 qX5_stand_24 ?_
  refine v_iconst hX li_0 qX5_stand_25 ?_
  refine v_iastJ hX (hs.kd 20 rfl) (hs.ln 20 rfl) (by exact ixk 2 (by decide) (by decide) rfl) qX5_stand_26 ?_
  refine v_aload_n hX rfl qX5_stand_27 ?_
  refine v_getR hX g_X5_18 (hs.kd 17 rfl) (hs.rf 21 rfl) qX5_stand_28 ?_
  refine v_iconst hX li_3 qX5_stand_31 ?_
  refine v_iload_n hX rfl qX5_stand_32 ?_
  refine v_iastJ hX (hs.kd 20 rfl) (hs.ln 20 rfl) (by exact ixk 3 (by decide) (by decide) rfl) qX5_stand_33 ?_
  refine v_aload_n hX rfl qX5_stand_34 ?_
  refine v_getR hX g_X5_18 (hs.kd 17 rfl) (hs.rf 21 rfl) qX5_stand_35 ?_
  refine v_iconst hX li_4 qX5_stand_38 ?_
  refine v_iload_n hX rfl qX5_stand_39 ?_
  refine v_iastJ hX (hs.kd 20 rfl) (hs.ln 20 rfl) (by exact ixk 4 (by decide) (by decide) rfl) qX5_stand_40 ?_
  refine v_aload_n hX rfl qX5_stand_41 ?_
  refine v_getR hX g_X5_18 (hs.kd 17 rfl) (hs.rf 21 rfl) qX5_stand_42 ?_
  refine v_iconst hX li_5 qX5_stand_45 ?_
  refine v_iconst hX li_0 qX5_stand_46 ?_
  refine v_bipush hX lb_100 qX5_stand_47 ?_
  refine v_bipush hX lb_10 qX5_stand_49 ?_
  refine v_iload_n hX rfl qX5_stand_51 ?_
  refine v_bipush hX lb_13 qX5_stand_52 ?_
  refine v_isub hX qX5_stand_54 ?_
  refine v_abs hX hR (Nat.le_of_ble_eq_true rfl) k_X5_100 (Nat.le_of_ble_eq_true rfl) ⟨Nat.le_of_ble_eq_true rfl, Nat.le_of_ble_eq_true rfl⟩ qX5_stand_55 ?_
  refine v_imul hX qX5_stand_58 ?_
  refine v_isub hX qX5_stand_59 ?_
  refine v_max hX hR (Nat.le_of_ble_eq_true rfl) k_X5_105 (Nat.le_of_ble_eq_true rfl) ⟨Nat.le_of_ble_eq_true rfl, Nat.le_of_ble_eq_true rfl⟩ qX5_stand_60 ?_
  refine v_iastJ hX (hs.kd 20 rfl) (hs.ln 20 rfl) (by exact ixk 5 (by decide) (by decide) rfl) qX5_stand_63 ?_
  refine v_return hX qX5_stand_64 (hP _ _ ?_)
  refine ⟨rfl, _, rfl, fun k hk => ?_, fun a ha => ?_⟩
  · have hk6 : k = 0 ∨ k = 1 ∨ k = 2 ∨ k = 3 ∨ k = 4 ∨ k = 5 := by omega
    rcases hk6 with rfl | rfl | rfl | rfl | rfl | rfl <;> rfl
  · funext k
    show hpI (stI _ _ _ _) _ _ = _
    simp [hpI_st, ha]
theorem qX5_isWetBy_0 : Dq cX5_isWetBy 0 (.aload_n 0) 1 1 := ⟨by decide +kernel, rfl⟩
theorem qX5_isWetBy_1 : Dq cX5_isWetBy 1 (.iload_n 2) 1 2 := ⟨by decide +kernel, rfl⟩
theorem qX5_isWetBy_2 : Dq cX5_isWetBy 2 (.iload_n 3) 1 3 := ⟨by decide +kernel, rfl⟩
theorem qX5_isWetBy_3 : Dq cX5_isWetBy 3 (.iload 4) 2 5 := ⟨by decide +kernel, rfl⟩
theorem qX5_isWetBy_5 : Dq cX5_isWetBy 5 (.invokevirtual 78) 3 8 := ⟨by decide +kernel, rfl⟩
theorem qX5_isWetBy_8 : Dq cX5_isWetBy 8 (.aload_n 0) 1 9 := ⟨by decide +kernel, rfl⟩
theorem qX5_isWetBy_9 : Dq cX5_isWetBy 9 (.iload_n 1) 1 10 := ⟨by decide +kernel, rfl⟩
theorem qX5_isWetBy_10 : Dq cX5_isWetBy 10 (.iconst 1) 1 11 := ⟨by decide +kernel, rfl⟩
theorem qX5_isWetBy_11 : Dq cX5_isWetBy 11 (.invokevirtual 82) 3 14 := ⟨by decide +kernel, rfl⟩
theorem qX5_isWetBy_14 : Dq cX5_isWetBy 14 (.ifCond .eq 7) 3 17 := ⟨by decide +kernel, rfl⟩
theorem qX5_isWetBy_17 : Dq cX5_isWetBy 17 (.iconst 1) 1 18 := ⟨by decide +kernel, rfl⟩
theorem qX5_isWetBy_18 : Dq cX5_isWetBy 18 (.goto 4) 3 21 := ⟨by decide +kernel, rfl⟩
theorem qX5_isWetBy_21 : Dq cX5_isWetBy 21 (.iconst 0) 1 22 := ⟨by decide +kernel, rfl⟩
theorem qX5_isWetBy_22 : Dq cX5_isWetBy 22 (.ireturn) 1 23 := ⟨by decide +kernel, rfl⟩
set_option maxRecDepth 100000 in
set_option maxHeartbeats 4000000 in
theorem c_isWetBy {G : Glb} {h : AHp} (hs : ShC h) {cnt : Nat} {TV : Nat → Nat → (Nat → Int32) → Int32} (hru : RuOK h cnt TV) {rl : Nat} (hrl : rl < cnt) (pl t hr : Int32) : CP G m_X5_isWetBy 4 0 0 [.ref 17, .int (nI rl), .int pl, .int t, .int hr] h (fun r h' => r = some (.int (bz (¬ TV rl 1 (envC pl t hr 0) = 0))) ∧ ∃ σ, h' = (σ, h.2) ∧ FrW h σ) := by
  suffices key : ∀ P : Option Value → AHp → Prop, (∀ r h', (r = some (.int (bz (¬ TV rl 1 (envC pl t hr 0) = 0))) ∧ ∃ σ, h' = (σ, h.2) ∧ FrW h σ) → P r h') → CP G m_X5_isWetBy 4 0 0 [.ref 17, .int (nI rl), .int pl, .int t, .int hr] h P from key _ (fun _ _ z => z)
  intro P hP
  refine CP.of (by decide +kernel) (Nat.le_of_ble_eq_true rfl) fun X hX hR hnm => ?_
  show V X G 5 0 0 _ 0 [some (.ref 17), some (.int (nI rl)), some (.int pl), some (.int t), some (.int hr)] [] h
  refine v_aload_n hX rfl qX5_isWetBy_0 ?_
  refine v_iload_n hX rfl qX5_isWetBy_1 ?_
  refine v_iload_n hX rfl qX5_isWetBy_2 ?_
  refine v_iload hX rfl qX5_isWetBy_3 ?_
  refine v_callVq hX hR k_X5_78 (hs.kd 17 rfl) (c_stand (by exact hs) _ _ _) rfl (Nat.le_of_ble_eq_true rfl) rfl (Nat.le_of_ble_eq_true rfl) ⟨Nat.le_of_ble_eq_true rfl, Nat.le_of_ble_eq_true rfl⟩ qX5_isWetBy_5 ?_
  rintro _ _ ⟨rfl, σ1, rfl, hn1, hf1⟩
  refine v_aload_n hX rfl qX5_isWetBy_8 ?_
  refine v_iload_n hX rfl qX5_isWetBy_9 ?_
  refine v_iconst hX li_1 qX5_isWetBy_10 ?_
  refine v_callVq hX hR k_X5_82 (hs.kd 17 rfl) (c_value (by exact hs) (by exact (hru.fr (congrFun (hf1 17 (by decide)) 2) (hf1 18 (by decide)) (hf1 19 (by decide)))) (qq := 1) (by exact hrl) (by omega) (by exact hn1)) rfl (Nat.le_of_ble_eq_true rfl) rfl (Nat.le_of_ble_eq_true rfl) ⟨Nat.le_of_ble_eq_true rfl, Nat.le_of_ble_eq_true rfl⟩ qX5_isWetBy_11 ?_
  rintro _ _ ⟨rfl, σ2, rfl, hf2⟩
  first | refine v_if_eqB hX 21 qX5_isWetBy_14 rfl (fun q14 => ?_) (fun q14 => ?_) | refine v_if_eq hX 21 qX5_isWetBy_14 rfl (fun q14 => ?_) (fun q14 => ?_)
  · skip
    refine v_iconst hX li_0 qX5_isWetBy_21 ?_
    refine v_zreturn hX (by first | exact Or.inl rfl | exact Or.inr rfl | exact bz01 _) qX5_isWetBy_22 (hP _ _ ?_)
    refine ⟨?_, _, rfl, fun a k h1 h2 h3 => (hf2 a k h2 h3).trans (congrFun (hf1 a h1) k)⟩
    first | exact rz (bz_t q14) | exact rz (bz_f (fun z => z q14))
  · skip
    refine v_iconst hX li_1 qX5_isWetBy_17 ?_
    refine v_goto hX 22 qX5_isWetBy_18 rfl ?_
    refine v_zreturn hX (by first | exact Or.inl rfl | exact Or.inr rfl | exact bz01 _) qX5_isWetBy_22 (hP _ _ ?_)
    refine ⟨?_, _, rfl, fun a k h1 h2 h3 => (hf2 a k h2 h3).trans (congrFun (hf1 a h1) k)⟩
    first | exact rz (bz_t q14) | exact rz (bz_f (fun z => z q14))
def dpI (TV : Nat → Nat → (Nat → Int32) → Int32) (rl : Nat) (pl t hr : Int32) : Int32 := bnd (TV rl 0 (envC pl t hr 0)) 0 99
def seI (TV : Nat → Nat → (Nat → Int32) → Int32) (rl : Nat) (pl t hr : Int32) : Int32 := TV rl 1 (envC pl t hr 0)
def shI (TV : Nat → Nat → (Nat → Int32) → Int32) (rl : Nat) (pl t hr : Int32) : Int32 := bnd (TV rl 2 (envC pl t hr (dpI TV rl pl t hr))) 0 100
def keyI (rl t hr : Int32) : Int32 := (rl * 100 + t) * 24 + hr + 1
def inR (x : Int32) (n : Nat) : Prop := 0 ≤ x.toInt ∧ x.toInt ≤ n
theorem keyI_int {rl : Nat} {t hr : Int32} (h1 : rl < 6) (h2 : inR t 99) (h3 : inR hr 23) : (keyI (nI rl) t hr).toInt = ((rl : Int) * 100 + t.toInt) * 24 + hr.toInt + 1 := by
  obtain ⟨a1, a2⟩ := h2
  obtain ⟨b1, b2⟩ := h3
  have e0 := nI_toInt (n := rl) (by omega)
  have c1 : (100 : Int32).toInt = 100 := rfl
  have c2 : (24 : Int32).toInt = 24 := rfl
  have c3 : (1 : Int32).toInt = 1 := rfl
  have e1 : (nI rl * 100).toInt = (rl : Int) * 100 := by rw [mulI (by rw [e0, c1]; omega) (by rw [e0, c1]; omega), e0, c1]
  have e2 : (nI rl * 100 + t).toInt = (rl : Int) * 100 + t.toInt := by rw [addI (by omega) (by omega), e1]
  have e3 : ((nI rl * 100 + t) * 24).toInt = ((rl : Int) * 100 + t.toInt) * 24 := by rw [mulI (by rw [e2, c2]; omega) (by rw [e2, c2]; omega), e2, c2]
  have e4 : ((nI rl * 100 + t) * 24 + hr).toInt = ((rl : Int) * 100 + t.toInt) * 24 + hr.toInt := by rw [addI (by omega) (by omega), e3]
  rw [keyI, addI (by omega) (by omega), e4, c3]
/-- what is kept of a cell is right -/
def CaOK (h : AHp) (cnt : Nat) (TV : Nat → Nat → (Nat → Int32) → Int32) : Prop := ∀ q, q < 48 → hpI h 22 q = 0 ∨ ∃ rl t hr, rl < cnt ∧ inR t 99 ∧ inR hr 23 ∧ hpI h 22 q = keyI (nI rl) t hr ∧ hpI h 23 q = dpI TV rl (nI q) t hr ∧ hpI h 24 q = seI TV rl (nI q) t hr ∧ hpI h 25 q = shI TV rl (nI q) t hr
theorem CaOK.hit {h : AHp} {cnt : Nat} {TV : Nat → Nat → (Nat → Int32) → Int32} (hc : CaOK h cnt TV) (hc6 : cnt ≤ 6) {q rl : Nat} {t hr : Int32} (hq : q < 48) (h1 : rl < cnt) (h2 : inR t 99) (h3 : inR hr 23) (e : hpI h 22 q = keyI (nI rl) t hr) : hpI h 23 q = dpI TV rl (nI q) t hr ∧ hpI h 24 q = seI TV rl (nI q) t hr ∧ hpI h 25 q = shI TV rl (nI q) t hr := by
  have k1 := keyI_int (show rl < 6 by omega) h2 h3
  have h2' := h2
  have h3' := h3
  obtain ⟨a1, a2⟩ := h2'
  obtain ⟨b1, b2⟩ := h3'
  rcases hc q hq with z | ⟨rl', t', hr', g1, g2, g3, g4, g5⟩
  · rw [← e, z] at k1
    have : (0 : Int32).toInt = 0 := rfl
    omega
  · have k2 := keyI_int (show rl' < 6 by omega) g2 g3
    obtain ⟨c1, c2⟩ := g2
    obtain ⟨d1, d2⟩ := g3
    rw [← g4, e, k1] at k2
    have e1 : hr = hr' := eqI.mpr (by omega)
    have e2 : t = t' := eqI.mpr (by omega)
    have e3 : rl = rl' := by omega
    subst e1; subst e2; subst e3
    exact g5
theorem isCn {q : Nat} (h : q < 48) : isC (nI q) := ⟨nI_pos' (by omega), nI_le (b := 47) (by omega) (by omega)⟩
theorem CaOK.eq {h : AHp} {cnt : Nat} {TV : Nat → Nat → (Nat → Int32) → Int32} {σ : Nat → Nat → Int32} (hc : CaOK h cnt TV) (h2 : ∀ a, 22 ≤ a → a ≤ 25 → ∀ k, k < 48 → σ a k = hpI h a k) : CaOK (σ, h.2) cnt TV := by
  intro q hq
  show σ 22 q = 0 ∨ ∃ rl t hr, rl < cnt ∧ inR t 99 ∧ inR hr 23 ∧ σ 22 q = _ ∧ σ 23 q = _ ∧ σ 24 q = _ ∧ σ 25 q = _
  rw [h2 22 (by omega) (by omega) q hq, h2 23 (by omega) (by omega) q hq, h2 24 (by omega) (by omega) q hq, h2 25 (by omega) (by omega) q hq]
  exact hc q hq
/-- one cell's memory is made anew -/
theorem CaOK.put {h : AHp} {cnt : Nat} {TV : Nat → Nat → (Nat → Int32) → Int32} {σ : Nat → Nat → Int32} (hc : CaOK h cnt TV) {q rl : Nat} {t hr : Int32} (h1 : rl < cnt) (h2 : inR t 99) (h3 : inR hr 23) (e1 : σ 22 q = keyI (nI rl) t hr) (e2 : σ 23 q = dpI TV rl (nI q) t hr) (e3 : σ 24 q = seI TV rl (nI q) t hr) (e4 : σ 25 q = shI TV rl (nI q) t hr) (ho : ∀ a k, 22 ≤ a → a ≤ 25 → k ≠ q → σ a k = hpI h a k) : CaOK (σ, h.2) cnt TV := by
  intro j hj
  by_cases hjq : j = q
  · subst hjq
    exact Or.inr ⟨rl, t, hr, h1, h2, h3, e1, e2, e3, e4⟩
  · show σ 22 j = 0 ∨ ∃ rl t hr, rl < cnt ∧ inR t 99 ∧ inR hr 23 ∧ σ 22 j = _ ∧ σ 23 j = _ ∧ σ 24 j = _ ∧ σ 25 j = _
    rw [ho 22 j (by omega) (by omega) hjq, ho 23 j (by omega) (by omega) hjq, ho 24 j (by omega) (by omega) hjq, ho 25 j (by omega) (by omega) hjq]
    exact hc j hj
theorem qX5_survey_0 : Dq cX5_survey 0 (.iload_n 2) 1 1 := ⟨by decide +kernel, rfl⟩
theorem qX5_survey_1 : Dq cX5_survey 1 (.invokestatic 63) 3 4 := ⟨by decide +kernel, rfl⟩
theorem qX5_survey_4 : Dq cX5_survey 4 (.ifCond .ne 4) 3 7 := ⟨by decide +kernel, rfl⟩
theorem qX5_survey_8 : Dq cX5_survey 8 (.aload_n 1) 1 9 := ⟨by decide +kernel, rfl⟩
theorem qX5_survey_9 : Dq cX5_survey 9 (.getfield 67) 3 12 := ⟨by decide +kernel, rfl⟩
theorem qX5_survey_12 : Dq cX5_survey 12 (.bipush 100) 2 14 := ⟨by decide +kernel, rfl⟩
theorem qX5_survey_14 : Dq cX5_survey 14 (.imul) 1 15 := ⟨by decide +kernel, rfl⟩
theorem qX5_survey_15 : Dq cX5_survey 15 (.aload_n 1) 1 16 := ⟨by decide +kernel, rfl⟩
theorem qX5_survey_16 : Dq cX5_survey 16 (.getfield 72) 3 19 := ⟨by decide +kernel, rfl⟩
theorem qX5_survey_19 : Dq cX5_survey 19 (.iload_n 2) 1 20 := ⟨by decide +kernel, rfl⟩
theorem qX5_survey_20 : Dq cX5_survey 20 (.iaload) 1 21 := ⟨by decide +kernel, rfl⟩
theorem qX5_survey_21 : Dq cX5_survey 21 (.iadd) 1 22 := ⟨by decide +kernel, rfl⟩
theorem qX5_survey_22 : Dq cX5_survey 22 (.bipush 24) 2 24 := ⟨by decide +kernel, rfl⟩
theorem qX5_survey_24 : Dq cX5_survey 24 (.imul) 1 25 := ⟨by decide +kernel, rfl⟩
theorem qX5_survey_25 : Dq cX5_survey 25 (.aload_n 1) 1 26 := ⟨by decide +kernel, rfl⟩
theorem qX5_survey_26 : Dq cX5_survey 26 (.getfield 75) 3 29 := ⟨by decide +kernel, rfl⟩
theorem qX5_survey_29 : Dq cX5_survey 29 (.iadd) 1 30 := ⟨by decide +kernel, rfl⟩
theorem qX5_survey_30 : Dq cX5_survey 30 (.iconst 1) 1 31 := ⟨by decide +kernel, rfl⟩
theorem qX5_survey_31 : Dq cX5_survey 31 (.iadd) 1 32 := ⟨by decide +kernel, rfl⟩
theorem qX5_survey_32 : Dq cX5_survey 32 (.istore_n 3) 1 33 := ⟨by decide +kernel, rfl⟩
theorem qX5_survey_33 : Dq cX5_survey 33 (.aload_n 0) 1 34 := ⟨by decide +kernel, rfl⟩
theorem qX5_survey_34 : Dq cX5_survey 34 (.getfield 24) 3 37 := ⟨by decide +kernel, rfl⟩
theorem qX5_survey_37 : Dq cX5_survey 37 (.iload_n 2) 1 38 := ⟨by decide +kernel, rfl⟩
theorem qX5_survey_38 : Dq cX5_survey 38 (.iaload) 1 39 := ⟨by decide +kernel, rfl⟩
theorem qX5_survey_39 : Dq cX5_survey 39 (.iload_n 3) 1 40 := ⟨by decide +kernel, rfl⟩
theorem qX5_survey_40 : Dq cX5_survey 40 (.if_icmp .eq 94) 3 43 := ⟨by decide +kernel, rfl⟩
theorem qX5_survey_43 : Dq cX5_survey 43 (.aload_n 0) 1 44 := ⟨by decide +kernel, rfl⟩
theorem qX5_survey_44 : Dq cX5_survey 44 (.getfield 24) 3 47 := ⟨by decide +kernel, rfl⟩
theorem qX5_survey_47 : Dq cX5_survey 47 (.iload_n 2) 1 48 := ⟨by decide +kernel, rfl⟩
theorem qX5_survey_48 : Dq cX5_survey 48 (.iload_n 3) 1 49 := ⟨by decide +kernel, rfl⟩
theorem qX5_survey_49 : Dq cX5_survey 49 (.iastore) 1 50 := ⟨by decide +kernel, rfl⟩
theorem qX5_survey_50 : Dq cX5_survey 50 (.aload_n 0) 1 51 := ⟨by decide +kernel, rfl⟩
theorem qX5_survey_51 : Dq cX5_survey 51 (.iload_n 2) 1 52 := ⟨by decide +kernel, rfl⟩
theorem qX5_survey_52 : Dq cX5_survey 52 (.aload_n 1) 1 53 := ⟨by decide +kernel, rfl⟩
theorem qX5_survey_53 : Dq cX5_survey 53 (.getfield 72) 3 56 := ⟨by decide +kernel, rfl⟩
theorem qX5_survey_56 : Dq cX5_survey 56 (.iload_n 2) 1 57 := ⟨by decide +kernel, rfl⟩
theorem qX5_survey_57 : Dq cX5_survey 57 (.iaload) 1 58 := ⟨by decide +kernel, rfl⟩
theorem qX5_survey_58 : Dq cX5_survey 58 (.aload_n 1) 1 59 := ⟨by decide +kernel, rfl⟩
theorem qX5_survey_59 : Dq cX5_survey 59 (.getfield 75) 3 62 := ⟨by decide +kernel, rfl⟩
theorem qX5_survey_62 : Dq cX5_survey 62 (.invokevirtual 78) 3 65 := ⟨by decide +kernel, rfl⟩
theorem qX5_survey_65 : Dq cX5_survey 65 (.aload_n 0) 1 66 := ⟨by decide +kernel, rfl⟩
theorem qX5_survey_66 : Dq cX5_survey 66 (.getfield 27) 3 69 := ⟨by decide +kernel, rfl⟩
theorem qX5_survey_69 : Dq cX5_survey 69 (.iload_n 2) 1 70 := ⟨by decide +kernel, rfl⟩
theorem qX5_survey_70 : Dq cX5_survey 70 (.aload_n 0) 1 71 := ⟨by decide +kernel, rfl⟩
theorem qX5_survey_71 : Dq cX5_survey 71 (.aload_n 1) 1 72 := ⟨by decide +kernel, rfl⟩
theorem qX5_survey_72 : Dq cX5_survey 72 (.getfield 67) 3 75 := ⟨by decide +kernel, rfl⟩
theorem qX5_survey_75 : Dq cX5_survey 75 (.iconst 0) 1 76 := ⟨by decide +kernel, rfl⟩
theorem qX5_survey_76 : Dq cX5_survey 76 (.invokevirtual 82) 3 79 := ⟨by decide +kernel, rfl⟩
theorem qX5_survey_79 : Dq cX5_survey 79 (.iconst 0) 1 80 := ⟨by decide +kernel, rfl⟩
theorem qX5_survey_80 : Dq cX5_survey 80 (.bipush 99) 2 82 := ⟨by decide +kernel, rfl⟩
theorem qX5_survey_82 : Dq cX5_survey 82 (.invokestatic 86) 3 85 := ⟨by decide +kernel, rfl⟩
theorem qX5_survey_85 : Dq cX5_survey 85 (.iastore) 1 86 := ⟨by decide +kernel, rfl⟩
theorem qX5_survey_86 : Dq cX5_survey 86 (.aload_n 0) 1 87 := ⟨by decide +kernel, rfl⟩
theorem qX5_survey_87 : Dq cX5_survey 87 (.getfield 30) 3 90 := ⟨by decide +kernel, rfl⟩
theorem qX5_survey_90 : Dq cX5_survey 90 (.iload_n 2) 1 91 := ⟨by decide +kernel, rfl⟩
theorem qX5_survey_91 : Dq cX5_survey 91 (.aload_n 0) 1 92 := ⟨by decide +kernel, rfl⟩
theorem qX5_survey_92 : Dq cX5_survey 92 (.aload_n 1) 1 93 := ⟨by decide +kernel, rfl⟩
theorem qX5_survey_93 : Dq cX5_survey 93 (.getfield 67) 3 96 := ⟨by decide +kernel, rfl⟩
theorem qX5_survey_96 : Dq cX5_survey 96 (.iconst 1) 1 97 := ⟨by decide +kernel, rfl⟩
theorem qX5_survey_97 : Dq cX5_survey 97 (.invokevirtual 82) 3 100 := ⟨by decide +kernel, rfl⟩
theorem qX5_survey_100 : Dq cX5_survey 100 (.iastore) 1 101 := ⟨by decide +kernel, rfl⟩
theorem qX5_survey_101 : Dq cX5_survey 101 (.aload_n 0) 1 102 := ⟨by decide +kernel, rfl⟩
theorem qX5_survey_102 : Dq cX5_survey 102 (.getfield 18) 3 105 := ⟨by decide +kernel, rfl⟩
theorem qX5_survey_105 : Dq cX5_survey 105 (.iconst 2) 1 106 := ⟨by decide +kernel, rfl⟩
theorem qX5_survey_106 : Dq cX5_survey 106 (.aload_n 0) 1 107 := ⟨by decide +kernel, rfl⟩
theorem qX5_survey_107 : Dq cX5_survey 107 (.getfield 27) 3 110 := ⟨by decide +kernel, rfl⟩
theorem qX5_survey_110 : Dq cX5_survey 110 (.iload_n 2) 1 111 := ⟨by decide +kernel, rfl⟩
theorem qX5_survey_111 : Dq cX5_survey 111 (.iaload) 1 112 := ⟨by decide +kernel, rfl⟩
theorem qX5_survey_112 : Dq cX5_survey 112 (.iastore) 1 113 := ⟨by decide +kernel, rfl⟩
theorem qX5_survey_113 : Dq cX5_survey 113 (.aload_n 0) 1 114 := ⟨by decide +kernel, rfl⟩
theorem qX5_survey_114 : Dq cX5_survey 114 (.getfield 33) 3 117 := ⟨by decide +kernel, rfl⟩
theorem qX5_survey_117 : Dq cX5_survey 117 (.iload_n 2) 1 118 := ⟨by decide +kernel, rfl⟩
theorem qX5_survey_118 : Dq cX5_survey 118 (.aload_n 0) 1 119 := ⟨by decide +kernel, rfl⟩
theorem qX5_survey_119 : Dq cX5_survey 119 (.aload_n 1) 1 120 := ⟨by decide +kernel, rfl⟩
theorem qX5_survey_120 : Dq cX5_survey 120 (.getfield 67) 3 123 := ⟨by decide +kernel, rfl⟩
theorem qX5_survey_123 : Dq cX5_survey 123 (.iconst 2) 1 124 := ⟨by decide +kernel, rfl⟩
theorem qX5_survey_124 : Dq cX5_survey 124 (.invokevirtual 82) 3 127 := ⟨by decide +kernel, rfl⟩
theorem qX5_survey_127 : Dq cX5_survey 127 (.iconst 0) 1 128 := ⟨by decide +kernel, rfl⟩
theorem qX5_survey_128 : Dq cX5_survey 128 (.bipush 100) 2 130 := ⟨by decide +kernel, rfl⟩
theorem qX5_survey_130 : Dq cX5_survey 130 (.invokestatic 86) 3 133 := ⟨by decide +kernel, rfl⟩
theorem qX5_survey_133 : Dq cX5_survey 133 (.iastore) 1 134 := ⟨by decide +kernel, rfl⟩
theorem qX5_survey_134 : Dq cX5_survey 134 (.aload_n 0) 1 135 := ⟨by decide +kernel, rfl⟩
theorem qX5_survey_135 : Dq cX5_survey 135 (.aload_n 0) 1 136 := ⟨by decide +kernel, rfl⟩
theorem qX5_survey_136 : Dq cX5_survey 136 (.getfield 27) 3 139 := ⟨by decide +kernel, rfl⟩
theorem qX5_survey_139 : Dq cX5_survey 139 (.iload_n 2) 1 140 := ⟨by decide +kernel, rfl⟩
theorem qX5_survey_140 : Dq cX5_survey 140 (.iaload) 1 141 := ⟨by decide +kernel, rfl⟩
theorem qX5_survey_141 : Dq cX5_survey 141 (.putfield 90) 3 144 := ⟨by decide +kernel, rfl⟩
theorem qX5_survey_144 : Dq cX5_survey 144 (.aload_n 0) 1 145 := ⟨by decide +kernel, rfl⟩
theorem qX5_survey_145 : Dq cX5_survey 145 (.aload_n 0) 1 146 := ⟨by decide +kernel, rfl⟩
theorem qX5_survey_146 : Dq cX5_survey 146 (.getfield 30) 3 149 := ⟨by decide +kernel, rfl⟩
theorem qX5_survey_149 : Dq cX5_survey 149 (.iload_n 2) 1 150 := ⟨by decide +kernel, rfl⟩
theorem qX5_survey_150 : Dq cX5_survey 150 (.iaload) 1 151 := ⟨by decide +kernel, rfl⟩
theorem qX5_survey_151 : Dq cX5_survey 151 (.ifCond .eq 7) 3 154 := ⟨by decide +kernel, rfl⟩
theorem qX5_survey_154 : Dq cX5_survey 154 (.iconst 1) 1 155 := ⟨by decide +kernel, rfl⟩
theorem qX5_survey_155 : Dq cX5_survey 155 (.goto 4) 3 158 := ⟨by decide +kernel, rfl⟩
theorem qX5_survey_158 : Dq cX5_survey 158 (.iconst 0) 1 159 := ⟨by decide +kernel, rfl⟩
theorem qX5_survey_159 : Dq cX5_survey 159 (.putfield 93) 3 162 := ⟨by decide +kernel, rfl⟩
theorem qX5_survey_162 : Dq cX5_survey 162 (.aload_n 0) 1 163 := ⟨by decide +kernel, rfl⟩
theorem qX5_survey_163 : Dq cX5_survey 163 (.aload_n 0) 1 164 := ⟨by decide +kernel, rfl⟩
theorem qX5_survey_164 : Dq cX5_survey 164 (.getfield 33) 3 167 := ⟨by decide +kernel, rfl⟩
theorem qX5_survey_167 : Dq cX5_survey 167 (.iload_n 2) 1 168 := ⟨by decide +kernel, rfl⟩
theorem qX5_survey_168 : Dq cX5_survey 168 (.iaload) 1 169 := ⟨by decide +kernel, rfl⟩
theorem qX5_survey_169 : Dq cX5_survey 169 (.putfield 97) 3 172 := ⟨by decide +kernel, rfl⟩
theorem qX5_survey_172 : Dq cX5_survey 172 (.return_) 1 173 := ⟨by decide +kernel, rfl⟩
set_option maxRecDepth 100000 in
set_option maxHeartbeats 4000000 in
theorem c_survey {G : Glb} {h : AHp} (hs : ShC h) {cnt : Nat} {TV : Nat → Nat → (Nat → Int32) → Int32} (hru : RuOK h cnt TV) (hca : CaOK h cnt TV) {B : Nat} (hB : isB B) {q : Nat} (hq : q < 48) {rl : Nat} (hrl : rl < cnt) (hB5 : hpI h B 5 = nI rl) (ht : inR (hpI h (B + 2) q) 99) (hh : inR (hpI h B 3) 23)  : CP G m_X5_survey 4 0 0 [.ref 17, .ref B, .int (nI q)] h (fun r h' => r = none ∧ ∃ σ, h' = (σ, h.2) ∧ FrV h σ ∧ CaOK (σ, h.2) cnt TV ∧ σ 17 10 = (dpI TV rl (nI q) (hpI h (B + 2) q) (hpI h B 3)) ∧ σ 17 11 = bz (¬ (seI TV rl (nI q) (hpI h (B + 2) q) (hpI h B 3)) = 0) ∧ σ 17 12 = (shI TV rl (nI q) (hpI h (B + 2) q) (hpI h B 3))) := by
  suffices key : ∀ P : Option Value → AHp → Prop, (∀ r h', (r = none ∧ ∃ σ, h' = (σ, h.2) ∧ FrV h σ ∧ CaOK (σ, h.2) cnt TV ∧ σ 17 10 = (dpI TV rl (nI q) (hpI h (B + 2) q) (hpI h B 3)) ∧ σ 17 11 = bz (¬ (seI TV rl (nI q) (hpI h (B + 2) q) (hpI h B 3)) = 0) ∧ σ 17 12 = (shI TV rl (nI q) (hpI h (B + 2) q) (hpI h B 3))) → P r h') → CP G m_X5_survey 4 0 0 [.ref 17, .ref B, .int (nI q)] h P from key _ (fun _ _ z => z)
  intro P hP
  refine CP.of (by decide +kernel) (Nat.le_of_ble_eq_true rfl) fun X hX hR hnm => ?_
  show V X G 4 0 0 _ 0 [some (.ref 17), some (.ref B), some (.int (nI q)), none] [] h
  have hB8 : B ≤ 7 := by rcases hB with rfl | rfl | rfl <;> omega
  have hc6 := hru.2.1
  have T134 : ∀ (σ : Nat → Nat → Int32), (FrV h σ) → (CaOK (σ, h.2) cnt TV) → (σ 23 q = (dpI TV rl (nI q) (hpI h (B + 2) q) (hpI h B 3))) → (σ 24 q = (seI TV rl (nI q) (hpI h (B + 2) q) (hpI h B 3))) → (σ 25 q = (shI TV rl (nI q) (hpI h (B + 2) q) (hpI h B 3))) → V X G 4 0 0 (QM X G P 0 0) 134 [some (.ref 17), some (.ref B), some (.int (nI q)), some (.int (keyI (nI rl) (hpI h (B + 2) q) (hpI h B 3)))] [] (σ, h.2) := by
    intro σ hfr hca2 h23 h24 h25
    refine v_aload_n hX rfl qX5_survey_134 ?_
    refine v_aload_n hX rfl qX5_survey_135 ?_
    refine v_getR hX g_X5_27 (hs.kd 17 rfl) (hs.rf 24 rfl) qX5_survey_136 ?_
    refine v_iload_n hX rfl qX5_survey_139 ?_
    refine v_ialdV hX (hs.kd 23 rfl) (hs.ln 23 rfl) (by exact ix_n hq rfl) h23 qX5_survey_140 ?_
    refine v_putI hX p_X5_90 (hs.kd 17 rfl) (Or.inl rfl) qX5_survey_141 ?_
    refine v_aload_n hX rfl qX5_survey_144 ?_
    refine v_aload_n hX rfl qX5_survey_145 ?_
    refine v_getR hX g_X5_30 (hs.kd 17 rfl) (hs.rf 25 rfl) qX5_survey_146 ?_
    refine v_iload_n hX rfl qX5_survey_149 ?_
    refine v_ialdV hX (hs.kd 24 rfl) (hs.ln 24 rfl) (by exact ix_n hq rfl) h24 qX5_survey_150 ?_
    first | refine v_if_eqB hX 158 qX5_survey_151 rfl (fun q151 => ?_) (fun q151 => ?_) | refine v_if_eq hX 158 qX5_survey_151 rfl (fun q151 => ?_) (fun q151 => ?_)
    · skip
      refine v_iconst hX li_0 qX5_survey_158 ?_
      refine v_putZ hX (by first | exact nz_0 | exact nz_1 | exact nz_b _) p_X5_93 (hs.kd 17 rfl) (Or.inl rfl) qX5_survey_159 ?_
      refine v_aload_n hX rfl qX5_survey_162 ?_
      refine v_aload_n hX rfl qX5_survey_163 ?_
      refine v_getR hX g_X5_33 (hs.kd 17 rfl) (hs.rf 26 rfl) qX5_survey_164 ?_
      refine v_iload_n hX rfl qX5_survey_167 ?_
      refine v_ialdV hX (hs.kd 25 rfl) (hs.ln 25 rfl) (by exact ix_n hq rfl) h25 qX5_survey_168 ?_
      refine v_putI hX p_X5_97 (hs.kd 17 rfl) (Or.inl rfl) qX5_survey_169 ?_
      refine v_return hX qX5_survey_172 (hP _ _ ?_)
      refine ⟨rfl, _, rfl, fun a k h1 h2 => ?_, hca2.eq (fun a h1 h2 k _ => ?_), rfl, ?_, rfl⟩
      · show hpI (stI _ _ _ _) _ _ = _
        rw [hpI_st, if_neg (by omega), hpI_st, if_neg (by omega), hpI_st, if_neg (by omega)]; exact hfr a k h1 h2
      · show hpI (stI _ _ _ _) _ _ = _
        rw [hpI_st, if_neg (by omega), hpI_st, if_neg (by omega), hpI_st, if_neg (by omega)]
      · first | exact (bz_f (fun z => z q151)).symm | exact (bz_t q151).symm
    · skip
      refine v_iconst hX li_1 qX5_survey_154 ?_
      refine v_goto hX 159 qX5_survey_155 rfl ?_
      refine v_putZ hX (by first | exact nz_0 | exact nz_1 | exact nz_b _) p_X5_93 (hs.kd 17 rfl) (Or.inl rfl) qX5_survey_159 ?_
      refine v_aload_n hX rfl qX5_survey_162 ?_
      refine v_aload_n hX rfl qX5_survey_163 ?_
      refine v_getR hX g_X5_33 (hs.kd 17 rfl) (hs.rf 26 rfl) qX5_survey_164 ?_
      refine v_iload_n hX rfl qX5_survey_167 ?_
      refine v_ialdV hX (hs.kd 25 rfl) (hs.ln 25 rfl) (by exact ix_n hq rfl) h25 qX5_survey_168 ?_
      refine v_putI hX p_X5_97 (hs.kd 17 rfl) (Or.inl rfl) qX5_survey_169 ?_
      refine v_return hX qX5_survey_172 (hP _ _ ?_)
      refine ⟨rfl, _, rfl, fun a k h1 h2 => ?_, hca2.eq (fun a h1 h2 k _ => ?_), rfl, ?_, rfl⟩
      · show hpI (stI _ _ _ _) _ _ = _
        rw [hpI_st, if_neg (by omega), hpI_st, if_neg (by omega), hpI_st, if_neg (by omega)]; exact hfr a k h1 h2
      · show hpI (stI _ _ _ _) _ _ = _
        rw [hpI_st, if_neg (by omega), hpI_st, if_neg (by omega), hpI_st, if_neg (by omega)]
      · first | exact (bz_f (fun z => z q151)).symm | exact (bz_t q151).symm
  refine v_iload_n hX rfl qX5_survey_0 ?_
  refine v_callNq hX hR k_X5_63 (c_isCell _) rfl (Nat.le_of_ble_eq_true rfl) rfl (Nat.le_of_ble_eq_true rfl) ⟨Nat.le_of_ble_eq_true rfl, Nat.le_of_ble_eq_true rfl⟩ qX5_survey_1 ?_
  rintro _ _ ⟨rfl, rfl⟩
  first | refine v_if_neB hX 8 qX5_survey_4 rfl (fun q4 => ?_) (fun q4 => ?_) | refine v_if_ne hX 8 qX5_survey_4 rfl (fun q4 => ?_) (fun q4 => ?_)
  · skip
    refine v_aload_n hX rfl qX5_survey_8 ?_
    refine v_getIv hX g_X5_67 (Or.inl rfl) (hs.bk hB) hB5 qX5_survey_9 ?_
    refine v_bipush hX lb_100 qX5_survey_12 ?_
    refine v_imul hX qX5_survey_14 ?_
    refine v_aload_n hX rfl qX5_survey_15 ?_
    refine v_getR hX g_X5_72 (hs.bk hB) (hs.bt hB) qX5_survey_16 ?_
    refine v_iload_n hX rfl qX5_survey_19 ?_
    refine v_ialdJ hX (hs.btk hB) (hs.btl hB) (by exact ix_n hq rfl) qX5_survey_20 ?_
    refine v_iadd hX qX5_survey_21 ?_
    refine v_bipush hX lb_24 qX5_survey_22 ?_
    refine v_imul hX qX5_survey_24 ?_
    refine v_aload_n hX rfl qX5_survey_25 ?_
    refine v_getI hX g_X5_75 (Or.inl rfl) (hs.bk hB) qX5_survey_26 ?_
    refine v_iadd hX qX5_survey_29 ?_
    refine v_iconst hX li_1 qX5_survey_30 ?_
    refine v_iadd hX qX5_survey_31 ?_
    refine v_eqI (show _ = (keyI (nI rl) (hpI h (B + 2) q) (hpI h B 3)) from rfl) ?_
    refine v_istore_n hX (Nat.le_of_ble_eq_true rfl) rfl (ls' := [some _, some _, some _, some _]) rfl qX5_survey_32 ?_
    refine v_aload_n hX rfl qX5_survey_33 ?_
    refine v_getR hX g_X5_24 (hs.kd 17 rfl) (hs.rf 23 rfl) qX5_survey_34 ?_
    refine v_iload_n hX rfl qX5_survey_37 ?_
    refine v_ialdJ hX (hs.kd 22 rfl) (hs.ln 22 rfl) (by exact ix_n hq rfl) qX5_survey_38 ?_
    refine v_iload_n hX rfl qX5_survey_39 ?_
    refine v_icmp_eq hX 134 qX5_survey_40 rfl (fun q40 => ?_) (fun q40 => ?_)
    · have hit := hca.hit hc6 hq hrl ht hh q40
      first | exact T134 h.1 (fun a k _ _ => rfl) hca hit.1 hit.2.1 hit.2.2 | exact T134 (stI (σ7, h.2) 25 q (shI TV rl (nI q) (hpI h (B + 2) q) (hpI h B 3))).1 (fun a k h1 h2 => (by show hpI (stI _ _ _ _) _ _ = _; rw [hpI_st, if_neg (by omega)]; exact g7 a k (by omega) (by omega) (by omega) (by omega))) (hca.put hrl ht hh (by show hpI (stI _ _ _ _) _ _ = _; rw [hpI_st, if_neg (by omega)]; exact kk7) (by show hpI (stI _ _ _ _) _ _ = _; rw [hpI_st, if_neg (by omega)]; exact dd7) (by show hpI (stI _ _ _ _) _ _ = _; rw [hpI_st, if_neg (by omega)]; exact ss7) (by show hpI (stI _ _ _ _) _ _ = _; rw [hpI_st, if_pos ⟨rfl, rfl⟩]) (fun a k h1 h2 h3 => (by show hpI (stI _ _ _ _) _ _ = _; rw [hpI_st, if_neg (by omega)]; exact g7 a k (by omega) (by omega) (by omega) (by omega)))) (by show hpI (stI _ _ _ _) _ _ = _; rw [hpI_st, if_neg (by omega)]; exact dd7) (by show hpI (stI _ _ _ _) _ _ = _; rw [hpI_st, if_neg (by omega)]; exact ss7) (by show hpI (stI _ _ _ _) _ _ = _; rw [hpI_st, if_pos ⟨rfl, rfl⟩])
    · skip
      refine v_aload_n hX rfl qX5_survey_43 ?_
      refine v_getR hX g_X5_24 (hs.kd 17 rfl) (hs.rf 23 rfl) qX5_survey_44 ?_
      refine v_iload_n hX rfl qX5_survey_47 ?_
      refine v_iload_n hX rfl qX5_survey_48 ?_
      refine v_iastJ hX (hs.kd 22 rfl) (hs.ln 22 rfl) (by exact ix_n hq rfl) qX5_survey_49 ?_
      refine v_aload_n hX rfl qX5_survey_50 ?_
      refine v_iload_n hX rfl qX5_survey_51 ?_
      refine v_aload_n hX rfl qX5_survey_52 ?_
      refine v_getR hX g_X5_72 (hs.bk hB) (hs.bt hB) qX5_survey_53 ?_
      refine v_iload_n hX rfl qX5_survey_56 ?_
      refine v_ialdV hX (hs.btk hB) (hs.btl hB) (by exact ix_n hq rfl) (show hpI (stI h 22 q (keyI (nI rl) (hpI h (B + 2) q) (hpI h B 3))) (B + 2) q = (hpI h (B + 2) q) by rw [hpI_st, if_neg (by omega)]) qX5_survey_57 ?_
      refine v_aload_n hX rfl qX5_survey_58 ?_
      refine v_getIv hX g_X5_75 (Or.inl rfl) (hs.bk hB) (show hpI (stI h 22 q (keyI (nI rl) (hpI h (B + 2) q) (hpI h B 3))) B 3 = (hpI h B 3) by rw [hpI_st, if_neg (by omega)]) qX5_survey_59 ?_
      refine v_callVq hX hR k_X5_78 (hs.kd 17 rfl) (c_stand (by exact hs) _ _ _) rfl (Nat.le_of_ble_eq_true rfl) rfl (Nat.le_of_ble_eq_true rfl) ⟨Nat.le_of_ble_eq_true rfl, Nat.le_of_ble_eq_true rfl⟩ qX5_survey_62 ?_
      rintro _ _ ⟨rfl, σ1, rfl, hn1, hf1⟩
      have g1 : ∀ a k, a ≠ 20 → a ≠ 21 → ¬ (a = 17 ∧ k = 5) → ¬ (22 ≤ a ∧ a ≤ 25 ∧ k = q) → σ1 a k = hpI h a k := fun a k h1 h2 h3 h4 => (congrFun (hf1 a h1) k).trans (by rw [hpI_st, if_neg (by omega)])
      have kk1 : σ1 22 q = (keyI (nI rl) (hpI h (B + 2) q) (hpI h B 3)) := (congrFun (hf1 22 (by decide)) q).trans (by rw [hpI_st, if_pos ⟨rfl, rfl⟩])
      refine v_aload_n hX rfl qX5_survey_65 ?_
      refine v_getR hX g_X5_27 (hs.kd 17 rfl) (hs.rf 24 rfl) qX5_survey_66 ?_
      refine v_iload_n hX rfl qX5_survey_69 ?_
      refine v_aload_n hX rfl qX5_survey_70 ?_
      refine v_aload_n hX rfl qX5_survey_71 ?_
      refine v_getIv hX g_X5_67 (Or.inl rfl) (hs.bk hB) ((g1 B 5 (by omega) (by omega) (by omega) (by omega)).trans hB5) qX5_survey_72 ?_
      refine v_iconst hX li_0 qX5_survey_75 ?_
      refine v_callVq hX hR k_X5_82 (hs.kd 17 rfl) (c_value (by exact hs) (by exact (hru.fr (g1 17 2 (by omega) (by omega) (by omega) (by omega)) (funext fun k => g1 18 k (by omega) (by omega) (by omega) (by omega)) (funext fun k => g1 19 k (by omega) (by omega) (by omega) (by omega)))) (qq := 0) (by exact hrl) (by omega) (by exact hn1)) rfl (Nat.le_of_ble_eq_true rfl) rfl (Nat.le_of_ble_eq_true rfl) ⟨Nat.le_of_ble_eq_true rfl, Nat.le_of_ble_eq_true rfl⟩ qX5_survey_76 ?_
      rintro _ _ ⟨rfl, σ2, rfl, hf2⟩
      have g2 : ∀ a k, a ≠ 20 → a ≠ 21 → ¬ (a = 17 ∧ k = 5) → ¬ (22 ≤ a ∧ a ≤ 25 ∧ k = q) → σ2 a k = hpI h a k := fun a k h1 h2 h3 h4 => (hf2 a k h2 h3).trans (g1 a k h1 h2 h3 h4)
      have kk2 : σ2 22 q = (keyI (nI rl) (hpI h (B + 2) q) (hpI h B 3)) := (hf2 22 q (by omega) (by omega)).trans kk1
      have hn2 : ∀ k, k < 6 → σ2 20 k = (envC (nI q) (hpI h (B + 2) q) (hpI h B 3) 0) k := fun k hk => (hf2 20 k (by omega) (by omega)).trans (hn1 k hk)
      refine v_iconst hX li_0 qX5_survey_79 ?_
      refine v_bipush hX lb_99 qX5_survey_80 ?_
      refine v_callNq hX hR k_X5_86 (c_bounded _ _ _) rfl (Nat.le_of_ble_eq_true rfl) rfl (Nat.le_of_ble_eq_true rfl) ⟨Nat.le_of_ble_eq_true rfl, Nat.le_of_ble_eq_true rfl⟩ qX5_survey_82 ?_
      rintro _ _ ⟨rfl, rfl⟩
      refine v_eqI (show _ = (dpI TV rl (nI q) (hpI h (B + 2) q) (hpI h B 3)) from rfl) ?_
      refine v_iastJ hX (hs.kd 23 rfl) (hs.ln 23 rfl) (by exact ix_n hq rfl) qX5_survey_85 ?_
      obtain ⟨σ3, e3, g3, kk3, dd3⟩ : ∃ σ3, stI (σ2, h.2) 23 q (dpI TV rl (nI q) (hpI h (B + 2) q) (hpI h B 3)) = (σ3, h.2) ∧ (∀ a k, a ≠ 20 → a ≠ 21 → ¬ (a = 17 ∧ k = 5) → ¬ (22 ≤ a ∧ a ≤ 25 ∧ k = q) → σ3 a k = hpI h a k) ∧ (σ3 22 q = (keyI (nI rl) (hpI h (B + 2) q) (hpI h B 3))) ∧ (σ3 23 q = (dpI TV rl (nI q) (hpI h (B + 2) q) (hpI h B 3))) := by
        refine ⟨_, rfl, fun a k h1 h2 h3 h4 => ?_, ?_, ?_⟩
        · show up2 σ2 23 q (dpI TV rl (nI q) (hpI h (B + 2) q) (hpI h B 3)) _ _ = _
          rw [up2_ne (by omega)]; exact g2 a k h1 h2 h3 h4
        · show up2 σ2 23 q (dpI TV rl (nI q) (hpI h (B + 2) q) (hpI h B 3)) _ _ = _
          rw [up2_ne (by omega)]; exact kk2
        · show up2 σ2 23 q (dpI TV rl (nI q) (hpI h (B + 2) q) (hpI h B 3)) _ _ = _
          rw [up2_at]
      refine v_eqH e3 ?_
      have hn3 : ∀ k, k < 6 → σ3 20 k = (envC (nI q) (hpI h (B + 2) q) (hpI h B 3) 0) k := fun k hk => by
        have := congrFun (congrFun (congrArg Prod.fst e3) 20) k
        exact this.symm.trans (hn2 k hk)
      refine v_aload_n hX rfl qX5_survey_86 ?_
      refine v_getR hX g_X5_30 (hs.kd 17 rfl) (hs.rf 25 rfl) qX5_survey_87 ?_
      refine v_iload_n hX rfl qX5_survey_90 ?_
      refine v_aload_n hX rfl qX5_survey_91 ?_
      refine v_aload_n hX rfl qX5_survey_92 ?_
      refine v_getIv hX g_X5_67 (Or.inl rfl) (hs.bk hB) ((g3 B 5 (by omega) (by omega) (by omega) (by omega)).trans hB5) qX5_survey_93 ?_
      refine v_iconst hX li_1 qX5_survey_96 ?_
      refine v_callVq hX hR k_X5_82 (hs.kd 17 rfl) (c_value (by exact hs) (by exact (hru.fr (g3 17 2 (by omega) (by omega) (by omega) (by omega)) (funext fun k => g3 18 k (by omega) (by omega) (by omega) (by omega)) (funext fun k => g3 19 k (by omega) (by omega) (by omega) (by omega)))) (qq := 1) (by exact hrl) (by omega) (by exact hn3)) rfl (Nat.le_of_ble_eq_true rfl) rfl (Nat.le_of_ble_eq_true rfl) ⟨Nat.le_of_ble_eq_true rfl, Nat.le_of_ble_eq_true rfl⟩ qX5_survey_97 ?_
      rintro _ _ ⟨rfl, σ4, rfl, hf4⟩
      have g4 : ∀ a k, a ≠ 20 → a ≠ 21 → ¬ (a = 17 ∧ k = 5) → ¬ (22 ≤ a ∧ a ≤ 25 ∧ k = q) → σ4 a k = hpI h a k := fun a k h1 h2 h3 h4 => (hf4 a k h2 h3).trans (g3 a k h1 h2 h3 h4)
      have kk4 : σ4 22 q = (keyI (nI rl) (hpI h (B + 2) q) (hpI h B 3)) := (hf4 22 q (by omega) (by omega)).trans kk3
      have dd4 : σ4 23 q = (dpI TV rl (nI q) (hpI h (B + 2) q) (hpI h B 3)) := (hf4 23 q (by omega) (by omega)).trans dd3
      have hn4 : ∀ k, k < 6 → σ4 20 k = (envC (nI q) (hpI h (B + 2) q) (hpI h B 3) 0) k := fun k hk => (hf4 20 k (by omega) (by omega)).trans (hn3 k hk)
      refine v_eqI (show _ = (seI TV rl (nI q) (hpI h (B + 2) q) (hpI h B 3)) from rfl) ?_
      refine v_iastJ hX (hs.kd 24 rfl) (hs.ln 24 rfl) (by exact ix_n hq rfl) qX5_survey_100 ?_
      obtain ⟨σ5, e5, g5, kk5, dd5, ss5⟩ : ∃ σ5, stI (σ4, h.2) 24 q (seI TV rl (nI q) (hpI h (B + 2) q) (hpI h B 3)) = (σ5, h.2) ∧ (∀ a k, a ≠ 20 → a ≠ 21 → ¬ (a = 17 ∧ k = 5) → ¬ (22 ≤ a ∧ a ≤ 25 ∧ k = q) → σ5 a k = hpI h a k) ∧ (σ5 22 q = (keyI (nI rl) (hpI h (B + 2) q) (hpI h B 3))) ∧ (σ5 23 q = (dpI TV rl (nI q) (hpI h (B + 2) q) (hpI h B 3))) ∧ (σ5 24 q = (seI TV rl (nI q) (hpI h (B + 2) q) (hpI h B 3))) := by
        refine ⟨_, rfl, fun a k h1 h2 h3 h4 => ?_, ?_, ?_, ?_⟩
        · show up2 σ4 24 q (seI TV rl (nI q) (hpI h (B + 2) q) (hpI h B 3)) _ _ = _
          rw [up2_ne (by omega)]; exact g4 a k h1 h2 h3 h4
        · show up2 σ4 24 q (seI TV rl (nI q) (hpI h (B + 2) q) (hpI h B 3)) _ _ = _
          rw [up2_ne (by omega)]; exact kk4
        · show up2 σ4 24 q (seI TV rl (nI q) (hpI h (B + 2) q) (hpI h B 3)) _ _ = _
          rw [up2_ne (by omega)]; exact dd4
        · show up2 σ4 24 q (seI TV rl (nI q) (hpI h (B + 2) q) (hpI h B 3)) _ _ = _
          rw [up2_at]
      refine v_eqH e5 ?_
      have hn5 : ∀ k, k < 6 → σ5 20 k = (envC (nI q) (hpI h (B + 2) q) (hpI h B 3) 0) k := fun k hk => by
        have := congrFun (congrFun (congrArg Prod.fst e5) 20) k
        exact this.symm.trans (hn4 k hk)
      refine v_aload_n hX rfl qX5_survey_101 ?_
      refine v_getR hX g_X5_18 (hs.kd 17 rfl) (hs.rf 21 rfl) qX5_survey_102 ?_
      refine v_iconst hX li_2 qX5_survey_105 ?_
      refine v_aload_n hX rfl qX5_survey_106 ?_
      refine v_getR hX g_X5_27 (hs.kd 17 rfl) (hs.rf 24 rfl) qX5_survey_107 ?_
      refine v_iload_n hX rfl qX5_survey_110 ?_
      refine v_ialdV hX (hs.kd 23 rfl) (hs.ln 23 rfl) (by exact ix_n hq rfl) dd5 qX5_survey_111 ?_
      refine v_iastJ hX (hs.kd 20 rfl) (hs.ln 20 rfl) (by exact ixk 2 (by decide) (by decide) rfl) qX5_survey_112 ?_
      obtain ⟨σ6, e6, g6, kk6, dd6, ss6⟩ : ∃ σ6, stI (σ5, h.2) 20 2 (dpI TV rl (nI q) (hpI h (B + 2) q) (hpI h B 3)) = (σ6, h.2) ∧ (∀ a k, a ≠ 20 → a ≠ 21 → ¬ (a = 17 ∧ k = 5) → ¬ (22 ≤ a ∧ a ≤ 25 ∧ k = q) → σ6 a k = hpI h a k) ∧ (σ6 22 q = (keyI (nI rl) (hpI h (B + 2) q) (hpI h B 3))) ∧ (σ6 23 q = (dpI TV rl (nI q) (hpI h (B + 2) q) (hpI h B 3))) ∧ (σ6 24 q = (seI TV rl (nI q) (hpI h (B + 2) q) (hpI h B 3))) := by
        refine ⟨_, rfl, fun a k h1 h2 h3 h4 => ?_, ?_, ?_, ?_⟩
        · show up2 σ5 20 2 (dpI TV rl (nI q) (hpI h (B + 2) q) (hpI h B 3)) _ _ = _
          rw [up2_ne (by omega)]; exact g5 a k h1 h2 h3 h4
        · show up2 σ5 20 2 (dpI TV rl (nI q) (hpI h (B + 2) q) (hpI h B 3)) _ _ = _
          rw [up2_ne (by omega)]; exact kk5
        · show up2 σ5 20 2 (dpI TV rl (nI q) (hpI h (B + 2) q) (hpI h B 3)) _ _ = _
          rw [up2_ne (by omega)]; exact dd5
        · show up2 σ5 20 2 (dpI TV rl (nI q) (hpI h (B + 2) q) (hpI h B 3)) _ _ = _
          rw [up2_ne (by omega)]; exact ss5
      refine v_eqH e6 ?_
      have hn6 : ∀ k, k < 6 → σ6 20 k = envC (nI q) (hpI h (B + 2) q) (hpI h B 3) (dpI TV rl (nI q) (hpI h (B + 2) q) (hpI h B 3)) k := fun k hk => by
        have := congrFun (congrFun (congrArg Prod.fst e6) 20) k
        refine this.symm.trans ?_
        have hk6 : k = 0 ∨ k = 1 ∨ k = 2 ∨ k = 3 ∨ k = 4 ∨ k = 5 := by omega
        rcases hk6 with rfl | rfl | rfl | rfl | rfl | rfl <;> first | rfl | exact hn5 _ hk
      refine v_aload_n hX rfl qX5_survey_113 ?_
      refine v_getR hX g_X5_33 (hs.kd 17 rfl) (hs.rf 26 rfl) qX5_survey_114 ?_
      refine v_iload_n hX rfl qX5_survey_117 ?_
      refine v_aload_n hX rfl qX5_survey_118 ?_
      refine v_aload_n hX rfl qX5_survey_119 ?_
      refine v_getIv hX g_X5_67 (Or.inl rfl) (hs.bk hB) ((g6 B 5 (by omega) (by omega) (by omega) (by omega)).trans hB5) qX5_survey_120 ?_
      refine v_iconst hX li_2 qX5_survey_123 ?_
      refine v_callVq hX hR k_X5_82 (hs.kd 17 rfl) (c_value (by exact hs) (by exact (hru.fr (g6 17 2 (by omega) (by omega) (by omega) (by omega)) (funext fun k => g6 18 k (by omega) (by omega) (by omega) (by omega)) (funext fun k => g6 19 k (by omega) (by omega) (by omega) (by omega)))) (qq := 2) (by exact hrl) (by omega) (by exact hn6)) rfl (Nat.le_of_ble_eq_true rfl) rfl (Nat.le_of_ble_eq_true rfl) ⟨Nat.le_of_ble_eq_true rfl, Nat.le_of_ble_eq_true rfl⟩ qX5_survey_124 ?_
      rintro _ _ ⟨rfl, σ7, rfl, hf7⟩
      have g7 : ∀ a k, a ≠ 20 → a ≠ 21 → ¬ (a = 17 ∧ k = 5) → ¬ (22 ≤ a ∧ a ≤ 25 ∧ k = q) → σ7 a k = hpI h a k := fun a k h1 h2 h3 h4 => (hf7 a k h2 h3).trans (g6 a k h1 h2 h3 h4)
      have kk7 : σ7 22 q = (keyI (nI rl) (hpI h (B + 2) q) (hpI h B 3)) := (hf7 22 q (by omega) (by omega)).trans kk6
      have dd7 : σ7 23 q = (dpI TV rl (nI q) (hpI h (B + 2) q) (hpI h B 3)) := (hf7 23 q (by omega) (by omega)).trans dd6
      have ss7 : σ7 24 q = (seI TV rl (nI q) (hpI h (B + 2) q) (hpI h B 3)) := (hf7 24 q (by omega) (by omega)).trans ss6
      refine v_iconst hX li_0 qX5_survey_127 ?_
      refine v_bipush hX lb_100 qX5_survey_128 ?_
      refine v_callNq hX hR k_X5_86 (c_bounded _ _ _) rfl (Nat.le_of_ble_eq_true rfl) rfl (Nat.le_of_ble_eq_true rfl) ⟨Nat.le_of_ble_eq_true rfl, Nat.le_of_ble_eq_true rfl⟩ qX5_survey_130 ?_
      rintro _ _ ⟨rfl, rfl⟩
      refine v_eqI (show _ = (shI TV rl (nI q) (hpI h (B + 2) q) (hpI h B 3)) from rfl) ?_
      refine v_iastJ hX (hs.kd 25 rfl) (hs.ln 25 rfl) (by exact ix_n hq rfl) qX5_survey_133 ?_
      first | exact T134 h.1 (fun a k _ _ => rfl) hca hit.1 hit.2.1 hit.2.2 | exact T134 (stI (σ7, h.2) 25 q (shI TV rl (nI q) (hpI h (B + 2) q) (hpI h B 3))).1 (fun a k h1 h2 => (by show hpI (stI _ _ _ _) _ _ = _; rw [hpI_st, if_neg (by omega)]; exact g7 a k (by omega) (by omega) (by omega) (by omega))) (hca.put hrl ht hh (by show hpI (stI _ _ _ _) _ _ = _; rw [hpI_st, if_neg (by omega)]; exact kk7) (by show hpI (stI _ _ _ _) _ _ = _; rw [hpI_st, if_neg (by omega)]; exact dd7) (by show hpI (stI _ _ _ _) _ _ = _; rw [hpI_st, if_neg (by omega)]; exact ss7) (by show hpI (stI _ _ _ _) _ _ = _; rw [hpI_st, if_pos ⟨rfl, rfl⟩]) (fun a k h1 h2 h3 => (by show hpI (stI _ _ _ _) _ _ = _; rw [hpI_st, if_neg (by omega)]; exact g7 a k (by omega) (by omega) (by omega) (by omega)))) (by show hpI (stI _ _ _ _) _ _ = _; rw [hpI_st, if_neg (by omega)]; exact dd7) (by show hpI (stI _ _ _ _) _ _ = _; rw [hpI_st, if_neg (by omega)]; exact ss7) (by show hpI (stI _ _ _ _) _ _ = _; rw [hpI_st, if_pos ⟨rfl, rfl⟩])
  · exact absurd (isCn hq) q4
