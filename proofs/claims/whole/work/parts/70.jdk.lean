/-! the few methods of the library that are called: length, charAt of a constant of text -/
theorem wj_92 : (Cond.initialized "java/lang/String") ∈ TG := tg_mem 92 (by decide +kernel) (by decide +kernel)
theorem wj_93 : (Cond.initialized "java/lang/StringLatin1") ∈ TG := tg_mem 93 (by decide +kernel) (by decide +kernel)
theorem wj_94 : (Cond.initialized "jdk/internal/util/Preconditions") ∈ TG := tg_mem 94 (by decide +kernel) (by decide +kernel)
theorem wj_301 : (Cond.methodLink "RingInSand" (65 : Nat) ({ cls := "java/lang/String", name := "length", desc := "()I" } : MethodName)) ∈ TG := tg_mem 301 (by decide +kernel) (by decide +kernel)
theorem wj_302 : (Cond.instanceMethod ({ cls := "java/lang/String", name := "length", desc := "()I" } : MethodName)) ∈ TG := tg_mem 302 (by decide +kernel) (by decide +kernel)
theorem wj_303 : (Cond.selects "java/lang/String" ({ cls := "java/lang/String", name := "length", desc := "()I" } : MethodName) ({ cls := "java/lang/String", name := "length", desc := "()I" } : MethodName)) ∈ TG := tg_mem 303 (by decide +kernel) (by decide +kernel)
theorem wj_304 : (Cond.code ({ cls := "java/lang/String", name := "length", desc := "()I" } : MethodName) prog_16_method_54_code (1 : Nat) (Option.some FieldType.int)) ∈ TG := tg_mem 304 (by decide +kernel) (by decide +kernel)
theorem wj_305 : (Cond.methodLink "java/lang/String" (335 : Nat) ({ cls := "java/lang/String", name := "coder", desc := "()B" } : MethodName)) ∈ TG := tg_mem 305 (by decide +kernel) (by decide +kernel)
theorem wj_306 : (Cond.instanceMethod ({ cls := "java/lang/String", name := "coder", desc := "()B" } : MethodName)) ∈ TG := tg_mem 306 (by decide +kernel) (by decide +kernel)
theorem wj_307 : (Cond.selects "java/lang/String" ({ cls := "java/lang/String", name := "coder", desc := "()B" } : MethodName) ({ cls := "java/lang/String", name := "coder", desc := "()B" } : MethodName)) ∈ TG := tg_mem 307 (by decide +kernel) (by decide +kernel)
theorem wj_308 : (Cond.code ({ cls := "java/lang/String", name := "coder", desc := "()B" } : MethodName) prog_16_method_152_code (1 : Nat) (Option.some FieldType.byte)) ∈ TG := tg_mem 308 (by decide +kernel) (by decide +kernel)
theorem wj_309 : (Cond.fieldLink "java/lang/String" (38 : Nat) "java/lang/String" "COMPACT_STRINGS" "Z") ∈ TG := tg_mem 309 (by decide +kernel) (by decide +kernel)
theorem wj_311 : (Cond.methodLink "RingInSand" (71 : Nat) ({ cls := "java/lang/String", name := "charAt", desc := "(I)C" } : MethodName)) ∈ TG := tg_mem 311 (by decide +kernel) (by decide +kernel)
theorem wj_312 : (Cond.instanceMethod ({ cls := "java/lang/String", name := "charAt", desc := "(I)C" } : MethodName)) ∈ TG := tg_mem 312 (by decide +kernel) (by decide +kernel)
theorem wj_313 : (Cond.selects "java/lang/String" ({ cls := "java/lang/String", name := "charAt", desc := "(I)C" } : MethodName) ({ cls := "java/lang/String", name := "charAt", desc := "(I)C" } : MethodName)) ∈ TG := tg_mem 313 (by decide +kernel) (by decide +kernel)
theorem wj_314 : (Cond.code ({ cls := "java/lang/String", name := "charAt", desc := "(I)C" } : MethodName) prog_16_method_56_code (2 : Nat) (Option.some FieldType.char)) ∈ TG := tg_mem 314 (by decide +kernel) (by decide +kernel)
theorem wj_315 : (Cond.methodLink "java/lang/String" (492 : Nat) ({ cls := "java/lang/String", name := "isLatin1", desc := "()Z" } : MethodName)) ∈ TG := tg_mem 315 (by decide +kernel) (by decide +kernel)
theorem wj_316 : (Cond.instanceMethod ({ cls := "java/lang/String", name := "isLatin1", desc := "()Z" } : MethodName)) ∈ TG := tg_mem 316 (by decide +kernel) (by decide +kernel)
theorem wj_317 : (Cond.selects "java/lang/String" ({ cls := "java/lang/String", name := "isLatin1", desc := "()Z" } : MethodName) ({ cls := "java/lang/String", name := "isLatin1", desc := "()Z" } : MethodName)) ∈ TG := tg_mem 317 (by decide +kernel) (by decide +kernel)
theorem wj_318 : (Cond.code ({ cls := "java/lang/String", name := "isLatin1", desc := "()Z" } : MethodName) prog_16_method_154_code (1 : Nat) (Option.some FieldType.boolean)) ∈ TG := tg_mem 318 (by decide +kernel) (by decide +kernel)
theorem wj_319 : (Cond.methodLink "java/lang/String" (495 : Nat) ({ cls := "java/lang/StringLatin1", name := "charAt", desc := "([BI)C" } : MethodName)) ∈ TG := tg_mem 319 (by decide +kernel) (by decide +kernel)
theorem wj_320 : (Cond.static ({ cls := "java/lang/StringLatin1", name := "charAt", desc := "([BI)C" } : MethodName)) ∈ TG := tg_mem 320 (by decide +kernel) (by decide +kernel)
theorem wj_321 : (Cond.code ({ cls := "java/lang/StringLatin1", name := "charAt", desc := "([BI)C" } : MethodName) prog_17_method_2_code (2 : Nat) (Option.some FieldType.char)) ∈ TG := tg_mem 321 (by decide +kernel) (by decide +kernel)
theorem wj_322 : (Cond.methodLink "java/lang/StringLatin1" (9 : Nat) ({ cls := "java/lang/String", name := "checkIndex", desc := "(II)V" } : MethodName)) ∈ TG := tg_mem 322 (by decide +kernel) (by decide +kernel)
theorem wj_323 : (Cond.static ({ cls := "java/lang/String", name := "checkIndex", desc := "(II)V" } : MethodName)) ∈ TG := tg_mem 323 (by decide +kernel) (by decide +kernel)
theorem wj_324 : (Cond.code ({ cls := "java/lang/String", name := "checkIndex", desc := "(II)V" } : MethodName) prog_16_method_155_code (2 : Nat) (Option.none : Option FieldType)) ∈ TG := tg_mem 324 (by decide +kernel) (by decide +kernel)
theorem wj_325 : (Cond.fieldLink "java/lang/String" (1053 : Nat) "jdk/internal/util/Preconditions" "SIOOBE_FORMATTER" "Ljava/util/function/BiFunction;") ∈ TG := tg_mem 325 (by decide +kernel) (by decide +kernel)
theorem wj_327 : (Cond.methodLink "java/lang/String" (1059 : Nat) ({ cls := "jdk/internal/util/Preconditions", name := "checkIndex", desc := "(IILjava/util/function/BiFunction;)I" } : MethodName)) ∈ TG := tg_mem 327 (by decide +kernel) (by decide +kernel)
theorem wj_328 : (Cond.static ({ cls := "jdk/internal/util/Preconditions", name := "checkIndex", desc := "(IILjava/util/function/BiFunction;)I" } : MethodName)) ∈ TG := tg_mem 328 (by decide +kernel) (by decide +kernel)
theorem wj_329 : (Cond.code ({ cls := "jdk/internal/util/Preconditions", name := "checkIndex", desc := "(IILjava/util/function/BiFunction;)I" } : MethodName) prog_21_method_11_code (3 : Nat) (Option.some FieldType.int)) ∈ TG := tg_mem 329 (by decide +kernel) (by decide +kernel)
theorem wj_385 : (Cond.methodLink "RingInSand$Tape" (181 : Nat) ({ cls := "java/lang/String", name := "length", desc := "()I" } : MethodName)) ∈ TG := tg_mem 385 (by decide +kernel) (by decide +kernel)
theorem wj_386 : (Cond.methodLink "RingInSand$Tape" (186 : Nat) ({ cls := "java/lang/String", name := "charAt", desc := "(I)C" } : MethodName)) ∈ TG := tg_mem 386 (by decide +kernel) (by decide +kernel)
theorem wj_1576 : (Cond.fieldLink "java/lang/String" (9 : Nat) "java/lang/String" "value" "[B") ∈ TG := tg_mem 1576 (by decide +kernel) (by decide +kernel)
theorem wj_1577 : (Cond.fieldLink "java/lang/String" (15 : Nat) "java/lang/String" "coder" "B") ∈ TG := tg_mem 1577 (by decide +kernel) (by decide +kernel)
abbrev m_J0_length_8abf5 : Mth := (yJ0_length_8abf5, cJ0_length_8abf5, 1, (some .int))
theorem mi_J0_length_8abf5 : MI m_J0_length_8abf5 0 := ⟨wj_304, wj_92, ⟨by decide +kernel, by decide +kernel, by decide +kernel⟩, Nat.le_of_ble_eq_true rfl⟩
abbrev m_J0_charAt_5068e : Mth := (yJ0_charAt_5068e, cJ0_charAt_5068e, 2, (some .char))
theorem mi_J0_charAt_5068e : MI m_J0_charAt_5068e 1 := ⟨wj_314, wj_92, ⟨by decide +kernel, by decide +kernel, by decide +kernel⟩, Nat.le_of_ble_eq_true rfl⟩
abbrev m_J0_coder_7d493 : Mth := (yJ0_coder_7d493, cJ0_coder_7d493, 1, (some .byte))
theorem mi_J0_coder_7d493 : MI m_J0_coder_7d493 0 := ⟨wj_308, wj_92, ⟨by decide +kernel, by decide +kernel, by decide +kernel⟩, Nat.le_of_ble_eq_true rfl⟩
abbrev m_J0_isLatin1_aae02 : Mth := (yJ0_isLatin1_aae02, cJ0_isLatin1_aae02, 1, (some .boolean))
theorem mi_J0_isLatin1_aae02 : MI m_J0_isLatin1_aae02 0 := ⟨wj_318, wj_92, ⟨by decide +kernel, by decide +kernel, by decide +kernel⟩, Nat.le_of_ble_eq_true rfl⟩
abbrev m_J0_checkIndex_df160 : Mth := (yJ0_checkIndex_df160, cJ0_checkIndex_df160, 2, none)
theorem mi_J0_checkIndex_df160 : MI m_J0_checkIndex_df160 2 := ⟨wj_324, wj_92, ⟨by decide +kernel, by decide +kernel, by decide +kernel⟩, Nat.le_of_ble_eq_true rfl⟩
abbrev m_J1_charAt_3b067 : Mth := (yJ1_charAt_3b067, cJ1_charAt_3b067, 2, (some .char))
theorem mi_J1_charAt_3b067 : MI m_J1_charAt_3b067 2 := ⟨wj_321, wj_93, ⟨by decide +kernel, by decide +kernel, by decide +kernel⟩, Nat.le_of_ble_eq_true rfl⟩
abbrev m_J3_checkIndex_8e157 : Mth := (yJ3_checkIndex_8e157, cJ3_checkIndex_8e157, 3, (some .int))
theorem mi_J3_checkIndex_8e157 : MI m_J3_checkIndex_8e157 3 := ⟨wj_329, wj_94, ⟨by decide +kernel, by decide +kernel, by decide +kernel⟩, Nat.le_of_ble_eq_true rfl⟩
theorem k_J0_335 : MVS RJ0 335 m_J0_coder_7d493 0 := ⟨mi_J0_coder_7d493, wj_305, wj_306, wj_307, rfl⟩
theorem k_J0_492 : MVS RJ0 492 m_J0_isLatin1_aae02 0 := ⟨mi_J0_isLatin1_aae02, wj_315, wj_316, wj_317, rfl⟩
theorem k_J0_495 : MS RJ0 495 m_J1_charAt_3b067 2 := ⟨mi_J1_charAt_3b067, wj_319, wj_320⟩
theorem k_J1_9 : MS RJ1 9 m_J0_checkIndex_df160 2 := ⟨mi_J0_checkIndex_df160, wj_322, wj_323⟩
theorem k_J0_1059 : MS RJ0 1059 m_J3_checkIndex_8e157 3 := ⟨mi_J3_checkIndex_8e157, wj_327, wj_328⟩
theorem k_X10_181 : MVS RX10 181 m_J0_length_8abf5 0 := ⟨mi_J0_length_8abf5, wj_385, wj_302, wj_303, rfl⟩
theorem k_X10_186 : MVS RX10 186 m_J0_charAt_5068e 1 := ⟨mi_J0_charAt_5068e, wj_386, wj_312, wj_313, rfl⟩
theorem k_X11_65 : MVS RX11 65 m_J0_length_8abf5 0 := ⟨mi_J0_length_8abf5, wj_301, wj_302, wj_303, rfl⟩
theorem k_X11_71 : MVS RX11 71 m_J0_charAt_5068e 1 := ⟨mi_J0_charAt_5068e, wj_311, wj_312, wj_313, rfl⟩
theorem f_J0_9 : Cond.fieldLink RJ0 9 "java/lang/String" "value" "[B" ∈ TG := wj_1576
theorem f_J0_15 : Cond.fieldLink RJ0 15 "java/lang/String" "coder" "B" ∈ TG := wj_1577
theorem f_J0_38 : Cond.fieldLink RJ0 38 "java/lang/String" "COMPACT_STRINGS" "Z" ∈ TG := wj_309
theorem f_J0_1053 : Cond.fieldLink RJ0 1053 "jdk/internal/util/Preconditions" "SIOOBE_FORMATTER" "Ljava/util/function/BiFunction;" ∈ TG := wj_325
section VJD
variable {X : Cx} {G : Glb} {own : String} {cc : ByteArray} {nL k n pc pc' : Nat} {rt : Option FieldType} {Q : State → Prop} {ls : List (Option Value)} {st : List Value} {h : AHp} {P : Option Value → AHp → Prop}
theorem v_nreturn {ty : FieldType} (hX : OKx X G own cc nL (some ty)) {v : Int32} (hv : narrow ty (.int v) = .int v) (hd : Dq cc pc .ireturn 1 pc') (hp : P (some (.int v)) h) : V X G nL k n (QM X G P k n) pc ls [.int v] h := by
  intro H locs la hW hS hL
  exact W.zret hX.1 hX.2.1 hX.2.2.1 hv (fun t ht hw => ⟨_, _, hp, rfl, by rw [ht]; exact hW, hX.2.2.2.2.2.2.1.warm hw, hS.F ht⟩) hS.2.2 hd.1 hX.2.2.2.2.2.2.2.1
theorem v_ishr (hX : OKx X G own cc nL rt) {x y : Int32} (hd : Dq cc pc (.ishr) 1 pc') (kk : V X G nL k n Q pc' ls (.int (x >>> (y &&& 31)) :: st) h) : V X G nL k n Q pc ls (.int y :: .int x :: st) h := by
  obtain ⟨hd, rfl⟩ := hd
  intro H locs la hW hS hL
  exact lv_ishr hX.1 hX.2.1 hd (kk H locs la hW hS hL)
theorem v_i2c (hX : OKx X G own cc nL rt) {x : Int32} (hd : Dq cc pc (.i2c) 1 pc') (kk : V X G nL k n Q pc' ls (.int ((x.toUInt32 % 65536).toInt32) :: st) h) : V X G nL k n Q pc ls (.int x :: st) h := by
  obtain ⟨hd, rfl⟩ := hd
  intro H locs la hW hS hL
  exact lv_i2c hX.1 hX.2.1 hd rfl (kk H locs la hW hS hL)
end VJD
/-- the constants of text are known in every state of the run -/
def HST (G : Glb) : Prop := ∀ (X : Cx) (own : String) (cc : ByteArray) (nL : Nat) (rt : Option FieldType), OKx X G own cc nL rt → StK G (xs X)
theorem sByt_in : ∀ i, i < 13 → ∀ k, k < sLen.getD i 0 → ((((sByt.getD i []).getD k 0) &&& 255).toUInt32 % 65536).toInt32 = (sByt.getD i []).getD k 0 := by decide +kernel
theorem sByt_ch : ∀ i, i < 13 → ∀ k, k < sLen.getD i 0 → narrow .char (.int ((sByt.getD i []).getD k 0)) = .int ((sByt.getD i []).getD k 0) := fun i hi k hk => by rw [← sByt_in i hi k hk]; exact pk_nc _
theorem sLen_in : ∀ i, i < 13 → sLen.getD i 0 < 100 := by decide
theorem qJ0_coder_7d493_0 : Dq cJ0_coder_7d493 0 (.getstatic 38) 3 3 := ⟨by decide +kernel, rfl⟩
theorem qJ0_coder_7d493_3 : Dq cJ0_coder_7d493 3 (.ifCond .eq 10) 3 6 := ⟨by decide +kernel, rfl⟩
theorem qJ0_coder_7d493_6 : Dq cJ0_coder_7d493 6 (.aload_n 0) 1 7 := ⟨by decide +kernel, rfl⟩
theorem qJ0_coder_7d493_7 : Dq cJ0_coder_7d493 7 (.getfield 15) 3 10 := ⟨by decide +kernel, rfl⟩
theorem qJ0_coder_7d493_10 : Dq cJ0_coder_7d493 10 (.goto 4) 3 13 := ⟨by decide +kernel, rfl⟩
theorem qJ0_coder_7d493_14 : Dq cJ0_coder_7d493 14 (.ireturn) 1 15 := ⟨by decide +kernel, rfl⟩
theorem c_coder {G : Glb} {h : AHp} (hG : HST G) {i : Nat} (hi : i < 13) : CP G m_J0_coder_7d493 1 0 0 [.ref (1000000 + (2 + i))] h (fun r h' => r = some (.int 0) ∧ h = h') := by
  suffices key : ∀ P : Option Value → AHp → Prop, (∀ r h', r = some (.int 0) ∧ h = h' → P r h') → CP G m_J0_coder_7d493 1 0 0 [.ref (1000000 + (2 + i))] h P from key _ (fun _ _ z => z)
  intro P hP
  refine CP.of (by decide +kernel) (Nat.le_of_ble_eq_true rfl) fun X hX hR hnm => ?_
  have hT := hG X _ _ _ _ hX
  show V X G 1 0 0 _ 0 [some (.ref (1000000 + (2 + i)))] [] h
  refine v_getsI hX hT f_J0_38 qJ0_coder_7d493_0 ?_
  refine v_if_eq hX 13 qJ0_coder_7d493_3 rfl (fun q3 => ?_) (fun q3 => ?_)
  · exact absurd q3 (by decide)
  · refine v_aload_n hX rfl qJ0_coder_7d493_6 ?_
    refine v_getC hX hT hi f_J0_15 qJ0_coder_7d493_7 ?_
    refine v_goto hX 14 qJ0_coder_7d493_10 rfl ?_
    exact v_nreturn hX rfl qJ0_coder_7d493_14 (hP _ _ ⟨rfl, rfl⟩)
theorem qJ0_isLatin1_aae02_0 : Dq cJ0_isLatin1_aae02 0 (.getstatic 38) 3 3 := ⟨by decide +kernel, rfl⟩
theorem qJ0_isLatin1_aae02_3 : Dq cJ0_isLatin1_aae02 3 (.ifCond .eq 14) 3 6 := ⟨by decide +kernel, rfl⟩
theorem qJ0_isLatin1_aae02_6 : Dq cJ0_isLatin1_aae02 6 (.aload_n 0) 1 7 := ⟨by decide +kernel, rfl⟩
theorem qJ0_isLatin1_aae02_7 : Dq cJ0_isLatin1_aae02 7 (.getfield 15) 3 10 := ⟨by decide +kernel, rfl⟩
theorem qJ0_isLatin1_aae02_10 : Dq cJ0_isLatin1_aae02 10 (.ifCond .ne 7) 3 13 := ⟨by decide +kernel, rfl⟩
theorem qJ0_isLatin1_aae02_13 : Dq cJ0_isLatin1_aae02 13 (.iconst 1) 1 14 := ⟨by decide +kernel, rfl⟩
theorem qJ0_isLatin1_aae02_14 : Dq cJ0_isLatin1_aae02 14 (.goto 4) 3 17 := ⟨by decide +kernel, rfl⟩
theorem qJ0_isLatin1_aae02_18 : Dq cJ0_isLatin1_aae02 18 (.ireturn) 1 19 := ⟨by decide +kernel, rfl⟩
theorem c_isLatin1 {G : Glb} {h : AHp} (hG : HST G) {i : Nat} (hi : i < 13) : CP G m_J0_isLatin1_aae02 1 0 0 [.ref (1000000 + (2 + i))] h (fun r h' => r = some (.int 1) ∧ h = h') := by
  suffices key : ∀ P : Option Value → AHp → Prop, (∀ r h', r = some (.int 1) ∧ h = h' → P r h') → CP G m_J0_isLatin1_aae02 1 0 0 [.ref (1000000 + (2 + i))] h P from key _ (fun _ _ z => z)
  intro P hP
  refine CP.of (by decide +kernel) (Nat.le_of_ble_eq_true rfl) fun X hX hR hnm => ?_
  have hT := hG X _ _ _ _ hX
  show V X G 1 0 0 _ 0 [some (.ref (1000000 + (2 + i)))] [] h
  refine v_getsI hX hT f_J0_38 qJ0_isLatin1_aae02_0 ?_
  refine v_if_eq hX 17 qJ0_isLatin1_aae02_3 rfl (fun q3 => ?_) (fun q3 => ?_)
  · exact absurd q3 (by decide)
  · refine v_aload_n hX rfl qJ0_isLatin1_aae02_6 ?_
    refine v_getC hX hT hi f_J0_15 qJ0_isLatin1_aae02_7 ?_
    refine v_if_ne hX 17 qJ0_isLatin1_aae02_10 rfl (fun q10 => ?_) (fun q10 => ?_)
    · exact absurd rfl q10
    · refine v_iconst hX li_1 qJ0_isLatin1_aae02_13 ?_
      refine v_goto hX 18 qJ0_isLatin1_aae02_14 rfl ?_
      exact v_zreturn hX (Or.inr rfl) qJ0_isLatin1_aae02_18 (hP _ _ ⟨rfl, rfl⟩)
theorem qJ0_length_8abf5_0 : Dq cJ0_length_8abf5 0 (.aload_n 0) 1 1 := ⟨by decide +kernel, rfl⟩
theorem qJ0_length_8abf5_1 : Dq cJ0_length_8abf5 1 (.getfield 9) 3 4 := ⟨by decide +kernel, rfl⟩
theorem qJ0_length_8abf5_4 : Dq cJ0_length_8abf5 4 (.arraylength) 1 5 := ⟨by decide +kernel, rfl⟩
theorem qJ0_length_8abf5_5 : Dq cJ0_length_8abf5 5 (.aload_n 0) 1 6 := ⟨by decide +kernel, rfl⟩
theorem qJ0_length_8abf5_6 : Dq cJ0_length_8abf5 6 (.invokevirtual 335) 3 9 := ⟨by decide +kernel, rfl⟩
theorem qJ0_length_8abf5_9 : Dq cJ0_length_8abf5 9 (.ishr) 1 10 := ⟨by decide +kernel, rfl⟩
theorem qJ0_length_8abf5_10 : Dq cJ0_length_8abf5 10 (.ireturn) 1 11 := ⟨by decide +kernel, rfl⟩
theorem c_strlen {G : Glb} {h : AHp} (hG : HST G) {i : Nat} (hi : i < 13) : CP G m_J0_length_8abf5 2 0 0 [.ref (1000000 + (2 + i))] h (fun r h' => r = some (.int (nI (sLen.getD i 0))) ∧ h = h') := by
  suffices key : ∀ P : Option Value → AHp → Prop, (∀ r h', r = some (.int (nI (sLen.getD i 0))) ∧ h = h' → P r h') → CP G m_J0_length_8abf5 2 0 0 [.ref (1000000 + (2 + i))] h P from key _ (fun _ _ z => z)
  intro P hP
  refine CP.of (by decide +kernel) (Nat.le_of_ble_eq_true rfl) fun X hX hR hnm => ?_
  have hT := hG X _ _ _ _ hX
  show V X G 1 0 0 _ 0 [some (.ref (1000000 + (2 + i)))] [] h
  refine v_aload_n hX rfl qJ0_length_8abf5_0 ?_
  refine v_getV hX hT hi f_J0_9 qJ0_length_8abf5_1 ?_
  refine v_alenS hX hT hi qJ0_length_8abf5_4 ?_
  refine v_aload_n hX rfl qJ0_length_8abf5_5 ?_
  refine v_callStr hX hT hR hi k_J0_335 (c_coder hG hi) rfl (Nat.le_of_ble_eq_true rfl) rfl (Nat.le_of_ble_eq_true rfl) ⟨Nat.le_of_ble_eq_true rfl, Nat.le_of_ble_eq_true rfl⟩ qJ0_length_8abf5_6 ?_
  rintro _ _ ⟨rfl, rfl⟩
  refine v_ishr hX qJ0_length_8abf5_9 ?_
  refine v_eqI (show nI (sLen.getD i 0) >>> ((0 : Int32) &&& 31) = nI (sLen.getD i 0) by simp) ?_
  exact v_ireturn hX qJ0_length_8abf5_10 (hP _ _ ⟨rfl, rfl⟩)
theorem qJ3_checkIndex_8e157_0 : Dq cJ3_checkIndex_8e157 0 (.iload_n 0) 1 1 := ⟨by decide +kernel, rfl⟩
theorem qJ3_checkIndex_8e157_1 : Dq cJ3_checkIndex_8e157 1 (.ifCond .lt 8) 3 4 := ⟨by decide +kernel, rfl⟩
theorem qJ3_checkIndex_8e157_4 : Dq cJ3_checkIndex_8e157 4 (.iload_n 0) 1 5 := ⟨by decide +kernel, rfl⟩
theorem qJ3_checkIndex_8e157_5 : Dq cJ3_checkIndex_8e157 5 (.iload_n 1) 1 6 := ⟨by decide +kernel, rfl⟩
theorem qJ3_checkIndex_8e157_6 : Dq cJ3_checkIndex_8e157 6 (.if_icmp .lt 10) 3 9 := ⟨by decide +kernel, rfl⟩
theorem qJ3_checkIndex_8e157_16 : Dq cJ3_checkIndex_8e157 16 (.iload_n 0) 1 17 := ⟨by decide +kernel, rfl⟩
theorem qJ3_checkIndex_8e157_17 : Dq cJ3_checkIndex_8e157 17 (.ireturn) 1 18 := ⟨by decide +kernel, rfl⟩
theorem c_prechkR {G : Glb} {h : AHp} (hG : HST G) {j L : Nat} (hj : j < L) (hL : L < 2000000) : CP G m_J3_checkIndex_8e157 1 0 0 [.int (nI j), .int (nI L), .ref (1000000 + 1)] h (fun r h' => r = some (.int (nI j)) ∧ h = h') := by
  suffices key : ∀ P : Option Value → AHp → Prop, (∀ r h', r = some (.int (nI j)) ∧ h = h' → P r h') → CP G m_J3_checkIndex_8e157 1 0 0 [.int (nI j), .int (nI L), .ref (1000000 + 1)] h P from key _ (fun _ _ z => z)
  intro P hP
  refine CP.of (by decide +kernel) (Nat.le_of_ble_eq_true rfl) fun X hX hR hnm => ?_
  have hT := hG X _ _ _ _ hX
  show V X G 3 0 0 _ 0 [some (.int (nI j)), some (.int (nI L)), some (.ref (1000000 + 1))] [] h
  refine v_iload_n hX rfl qJ3_checkIndex_8e157_0 ?_
  refine v_if_ltS hX 9 qJ3_checkIndex_8e157_1 rfl (fun q1 => ?_) (fun q1 => ?_)
  · exact absurd q1 (nI_pos (by omega))
  · refine v_iload_n hX rfl qJ3_checkIndex_8e157_4 ?_
    refine v_iload_n hX rfl qJ3_checkIndex_8e157_5 ?_
    refine v_icmp_ltS hX 16 qJ3_checkIndex_8e157_6 rfl (fun q6 => ?_) (fun q6 => ?_)
    · refine v_iload_n hX rfl qJ3_checkIndex_8e157_16 ?_
      exact v_ireturn hX qJ3_checkIndex_8e157_17 (hP _ _ ⟨rfl, rfl⟩)
    · exact absurd q6 (nI_ge hj (by omega))
theorem c_prechkN {G : Glb} {h : AHp} (hG : HST G) {j L : Nat} (hj : j < L) (hL : L < 2000000) : CP G m_J3_checkIndex_8e157 1 0 0 [.int (nI j), .int (nI L), .null] h (fun r h' => r = some (.int (nI j)) ∧ h = h') := by
  suffices key : ∀ P : Option Value → AHp → Prop, (∀ r h', r = some (.int (nI j)) ∧ h = h' → P r h') → CP G m_J3_checkIndex_8e157 1 0 0 [.int (nI j), .int (nI L), .null] h P from key _ (fun _ _ z => z)
  intro P hP
  refine CP.of (by decide +kernel) (Nat.le_of_ble_eq_true rfl) fun X hX hR hnm => ?_
  have hT := hG X _ _ _ _ hX
  show V X G 3 0 0 _ 0 [some (.int (nI j)), some (.int (nI L)), some .null] [] h
  refine v_iload_n hX rfl qJ3_checkIndex_8e157_0 ?_
  refine v_if_ltS hX 9 qJ3_checkIndex_8e157_1 rfl (fun q1 => ?_) (fun q1 => ?_)
  · exact absurd q1 (nI_pos (by omega))
  · refine v_iload_n hX rfl qJ3_checkIndex_8e157_4 ?_
    refine v_iload_n hX rfl qJ3_checkIndex_8e157_5 ?_
    refine v_icmp_ltS hX 16 qJ3_checkIndex_8e157_6 rfl (fun q6 => ?_) (fun q6 => ?_)
    · refine v_iload_n hX rfl qJ3_checkIndex_8e157_16 ?_
      exact v_ireturn hX qJ3_checkIndex_8e157_17 (hP _ _ ⟨rfl, rfl⟩)
    · exact absurd q6 (nI_ge hj (by omega))
theorem c_prechk {G : Glb} {h : AHp} (hG : HST G) {j L : Nat} (hj : j < L) (hL : L < 2000000) {v : Value} (hv : v = .null ∨ v = .ref (1000000 + 1)) : CP G m_J3_checkIndex_8e157 1 0 0 [.int (nI j), .int (nI L), v] h (fun r h' => r = some (.int (nI j)) ∧ h = h') := by
  rcases hv with rfl | rfl
  · exact c_prechkN hG hj hL
  · exact c_prechkR hG hj hL
theorem qJ0_checkIndex_df160_0 : Dq cJ0_checkIndex_df160 0 (.iload_n 0) 1 1 := ⟨by decide +kernel, rfl⟩
theorem qJ0_checkIndex_df160_1 : Dq cJ0_checkIndex_df160 1 (.iload_n 1) 1 2 := ⟨by decide +kernel, rfl⟩
theorem qJ0_checkIndex_df160_2 : Dq cJ0_checkIndex_df160 2 (.getstatic 1053) 3 5 := ⟨by decide +kernel, rfl⟩
theorem qJ0_checkIndex_df160_5 : Dq cJ0_checkIndex_df160 5 (.invokestatic 1059) 3 8 := ⟨by decide +kernel, rfl⟩
theorem qJ0_checkIndex_df160_8 : Dq cJ0_checkIndex_df160 8 (.pop) 1 9 := ⟨by decide +kernel, rfl⟩
theorem qJ0_checkIndex_df160_9 : Dq cJ0_checkIndex_df160 9 (.return_) 1 10 := ⟨by decide +kernel, rfl⟩
theorem c_strchk {G : Glb} {h : AHp} (hG : HST G) {j L : Nat} (hj : j < L) (hL : L < 2000000) : CP G m_J0_checkIndex_df160 2 0 0 [.int (nI j), .int (nI L)] h (fun r h' => r = none ∧ h = h') := by
  suffices key : ∀ P : Option Value → AHp → Prop, (∀ r h', r = none ∧ h = h' → P r h') → CP G m_J0_checkIndex_df160 2 0 0 [.int (nI j), .int (nI L)] h P from key _ (fun _ _ z => z)
  intro P hP
  refine CP.of (by decide +kernel) (Nat.le_of_ble_eq_true rfl) fun X hX hR hnm => ?_
  have hT := hG X _ _ _ _ hX
  show V X G 2 0 0 _ 0 [some (.int (nI j)), some (.int (nI L))] [] h
  refine v_iload_n hX rfl qJ0_checkIndex_df160_0 ?_
  refine v_iload_n hX rfl qJ0_checkIndex_df160_1 ?_
  refine v_getsR hX hT f_J0_1053 qJ0_checkIndex_df160_2 (fun v hv => ?_)
  refine v_callSq hX hR k_J0_1059 (c_prechk hG hj hL hv) rfl (Nat.le_of_ble_eq_true rfl) rfl (Nat.le_of_ble_eq_true rfl) ⟨Nat.le_of_ble_eq_true rfl, Nat.le_of_ble_eq_true rfl⟩ qJ0_checkIndex_df160_5 ?_
  rintro _ _ ⟨rfl, rfl⟩
  refine v_pop hX rfl qJ0_checkIndex_df160_8 ?_
  exact v_return hX qJ0_checkIndex_df160_9 (hP _ _ ⟨rfl, rfl⟩)
theorem qJ1_charAt_3b067_0 : Dq cJ1_charAt_3b067 0 (.iload_n 1) 1 1 := ⟨by decide +kernel, rfl⟩
theorem qJ1_charAt_3b067_1 : Dq cJ1_charAt_3b067 1 (.aload_n 0) 1 2 := ⟨by decide +kernel, rfl⟩
theorem qJ1_charAt_3b067_2 : Dq cJ1_charAt_3b067 2 (.arraylength) 1 3 := ⟨by decide +kernel, rfl⟩
theorem qJ1_charAt_3b067_3 : Dq cJ1_charAt_3b067 3 (.invokestatic 9) 3 6 := ⟨by decide +kernel, rfl⟩
theorem qJ1_charAt_3b067_6 : Dq cJ1_charAt_3b067 6 (.aload_n 0) 1 7 := ⟨by decide +kernel, rfl⟩
theorem qJ1_charAt_3b067_7 : Dq cJ1_charAt_3b067 7 (.iload_n 1) 1 8 := ⟨by decide +kernel, rfl⟩
theorem qJ1_charAt_3b067_8 : Dq cJ1_charAt_3b067 8 (.baload) 1 9 := ⟨by decide +kernel, rfl⟩
theorem qJ1_charAt_3b067_9 : Dq cJ1_charAt_3b067 9 (.sipush 255) 3 12 := ⟨by decide +kernel, rfl⟩
theorem qJ1_charAt_3b067_12 : Dq cJ1_charAt_3b067 12 (.iand) 1 13 := ⟨by decide +kernel, rfl⟩
theorem qJ1_charAt_3b067_13 : Dq cJ1_charAt_3b067 13 (.i2c) 1 14 := ⟨by decide +kernel, rfl⟩
theorem qJ1_charAt_3b067_14 : Dq cJ1_charAt_3b067 14 (.ireturn) 1 15 := ⟨by decide +kernel, rfl⟩
theorem c_latchar {G : Glb} {h : AHp} (hG : HST G) {i : Nat} (hi : i < 13) {j : Nat} (hj : j < sLen.getD i 0) : CP G m_J1_charAt_3b067 3 0 0 [.ref (1000000 + (20 + i)), .int (nI j)] h (fun r h' => r = some (.int ((sByt.getD i []).getD j 0)) ∧ h = h') := by
  suffices key : ∀ P : Option Value → AHp → Prop, (∀ r h', r = some (.int ((sByt.getD i []).getD j 0)) ∧ h = h' → P r h') → CP G m_J1_charAt_3b067 3 0 0 [.ref (1000000 + (20 + i)), .int (nI j)] h P from key _ (fun _ _ z => z)
  intro P hP
  refine CP.of (by decide +kernel) (Nat.le_of_ble_eq_true rfl) fun X hX hR hnm => ?_
  have hT := hG X _ _ _ _ hX
  show V X G 2 0 0 _ 0 [some (.ref (1000000 + (20 + i))), some (.int (nI j))] [] h
  have hL := sLen_in i hi
  refine v_iload_n hX rfl qJ1_charAt_3b067_0 ?_
  refine v_aload_n hX rfl qJ1_charAt_3b067_1 ?_
  refine v_alenS hX hT hi qJ1_charAt_3b067_2 ?_
  refine v_callSq hX hR k_J1_9 (c_strchk hG hj (by omega)) rfl (Nat.le_of_ble_eq_true rfl) rfl (Nat.le_of_ble_eq_true rfl) ⟨Nat.le_of_ble_eq_true rfl, Nat.le_of_ble_eq_true rfl⟩ qJ1_charAt_3b067_3 ?_
  rintro _ _ ⟨rfl, rfl⟩
  refine v_aload_n hX rfl qJ1_charAt_3b067_6 ?_
  refine v_iload_n hX rfl qJ1_charAt_3b067_7 ?_
  refine v_baldS hX hT hi hj (by omega) qJ1_charAt_3b067_8 ?_
  refine v_sipush hX ls_255 qJ1_charAt_3b067_9 ?_
  refine v_iand hX qJ1_charAt_3b067_12 ?_
  refine v_i2c hX qJ1_charAt_3b067_13 ?_
  refine v_eqI (sByt_in i hi j hj) ?_
  exact v_nreturn hX (sByt_ch i hi j hj) qJ1_charAt_3b067_14 (hP _ _ ⟨rfl, rfl⟩)
theorem qJ0_charAt_5068e_0 : Dq cJ0_charAt_5068e 0 (.aload_n 0) 1 1 := ⟨by decide +kernel, rfl⟩
theorem qJ0_charAt_5068e_1 : Dq cJ0_charAt_5068e 1 (.invokevirtual 492) 3 4 := ⟨by decide +kernel, rfl⟩
theorem qJ0_charAt_5068e_4 : Dq cJ0_charAt_5068e 4 (.ifCond .eq 12) 3 7 := ⟨by decide +kernel, rfl⟩
theorem qJ0_charAt_5068e_7 : Dq cJ0_charAt_5068e 7 (.aload_n 0) 1 8 := ⟨by decide +kernel, rfl⟩
theorem qJ0_charAt_5068e_8 : Dq cJ0_charAt_5068e 8 (.getfield 9) 3 11 := ⟨by decide +kernel, rfl⟩
theorem qJ0_charAt_5068e_11 : Dq cJ0_charAt_5068e 11 (.iload_n 1) 1 12 := ⟨by decide +kernel, rfl⟩
theorem qJ0_charAt_5068e_12 : Dq cJ0_charAt_5068e 12 (.invokestatic 495) 3 15 := ⟨by decide +kernel, rfl⟩
theorem qJ0_charAt_5068e_15 : Dq cJ0_charAt_5068e 15 (.ireturn) 1 16 := ⟨by decide +kernel, rfl⟩
theorem c_charAt {G : Glb} {h : AHp} (hG : HST G) {i : Nat} (hi : i < 13) {j : Nat} (hj : j < sLen.getD i 0) : CP G m_J0_charAt_5068e 4 0 0 [.ref (1000000 + (2 + i)), .int (nI j)] h (fun r h' => r = some (.int ((sByt.getD i []).getD j 0)) ∧ h = h') := by
  suffices key : ∀ P : Option Value → AHp → Prop, (∀ r h', r = some (.int ((sByt.getD i []).getD j 0)) ∧ h = h' → P r h') → CP G m_J0_charAt_5068e 4 0 0 [.ref (1000000 + (2 + i)), .int (nI j)] h P from key _ (fun _ _ z => z)
  intro P hP
  refine CP.of (by decide +kernel) (Nat.le_of_ble_eq_true rfl) fun X hX hR hnm => ?_
  have hT := hG X _ _ _ _ hX
  show V X G 2 0 0 _ 0 [some (.ref (1000000 + (2 + i))), some (.int (nI j))] [] h
  refine v_aload_n hX rfl qJ0_charAt_5068e_0 ?_
  refine v_callStr hX hT hR hi k_J0_492 (c_isLatin1 hG hi) rfl (Nat.le_of_ble_eq_true rfl) rfl (Nat.le_of_ble_eq_true rfl) ⟨Nat.le_of_ble_eq_true rfl, Nat.le_of_ble_eq_true rfl⟩ qJ0_charAt_5068e_1 ?_
  rintro _ _ ⟨rfl, rfl⟩
  refine v_if_eq hX 16 qJ0_charAt_5068e_4 rfl (fun q4 => ?_) (fun q4 => ?_)
  · exact absurd q4 (by decide)
  · refine v_aload_n hX rfl qJ0_charAt_5068e_7 ?_
    refine v_getV hX hT hi f_J0_9 qJ0_charAt_5068e_8 ?_
    refine v_iload_n hX rfl qJ0_charAt_5068e_11 ?_
    refine v_callSq hX hR k_J0_495 (c_latchar hG hi hj) rfl (Nat.le_of_ble_eq_true rfl) rfl (Nat.le_of_ble_eq_true rfl) ⟨Nat.le_of_ble_eq_true rfl, Nat.le_of_ble_eq_true rfl⟩ qJ0_charAt_5068e_12 ?_
    rintro _ _ ⟨rfl, rfl⟩
    exact v_nreturn hX (sByt_ch i hi j hj) qJ0_charAt_5068e_15 (hP _ _ ⟨rfl, rfl⟩)
