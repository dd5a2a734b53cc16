/-! the constants of text: what the tables and the first heap say of them -/
theorem gAd_ge {G : Glb} (j : Nat) : gAd G (1000000 + j) = gS G j := by
  unfold gAd
  rw [if_neg (by omega), Nat.add_sub_cancel_left]
theorem cv_ge {G : Glb} (j : Nat) : cv G (.ref (1000000 + j)) = .ref (gS G j) := congrArg Value.ref (gAd_ge j)
theorem sLen_lt : ∀ i, i < 13 → sLen.getD i 0 < 2 ^ 31 := by decide
section VSTR2
variable {X : Cx} {G : Glb} {own : String} {cc : ByteArray} {nL k n pc pc' : Nat} {rt : Option FieldType} {Q : State → Prop} {ls : List (Option Value)} {st : List Value} {h : AHp}
theorem old_q (hX : OKx X G own cc nL rt) {H : Heap} {locs : List Loc} (hW : Wd G h H) (hS : va_S (AsG G) (xs X).heap H locs) : ∀ a : Nat, a < (gH G).size → ¬ AsG G a → (xs X).heap[a]? = (gH G)[a]? := fun a _ hA => by
  have hlt : a < gB G := Nat.lt_of_not_le hA
  have hz : gB G ≤ (xs X).heap.size := hX.2.2.2.2.2.2.2.2
  rw [← hS.2.1 a (by omega) hA, hW.2.2.1 a hlt]
theorem v_ldcS (hX : OKx X G own cc nL rt) (hT : StK G (xs X)) (i : Nat) {ix : Nat} {tx : String} {b : List Int32} (hi : sTab[i]? = some (own, ix, tx, b)) (hd : Dq cc pc (.ldc ix) 2 pc') (kk : V X G nL k n Q pc' ls (.ref (1000000 + (2 + i)) :: st) h) : V X G nL k n Q pc ls st h := by
  obtain ⟨hd, rfl⟩ := hd
  intro H locs la hW hS hL
  have z := kk H locs la hW hS hL
  rw [List.map_cons, cv_ge] at z
  exact va_ldcS hX.1 hX.2.1 hX.2.2.2.2.1 (hT.2.2.2 i _ _ _ _ hi) hd z
theorem v_getsI (hX : OKx X G own cc nL rt) (hT : StK G (xs X)) {ix : Nat} (hw : Cond.fieldLink own ix "java/lang/String" "COMPACT_STRINGS" "Z" ∈ TG) (hd : Dq cc pc (.getstatic ix) 3 pc') (kk : V X G nL k n Q pc' ls (.int 1 :: st) h) : V X G nL k n Q pc ls st h := by
  obtain ⟨hd, rfl⟩ := hd
  intro H locs la hW hS hL
  exact va_gets hX.1 hX.2.1 (hT.1.kept (old_q hX hW hS)) hS hX.2.2.2.2.1 (hX.2.2.2.2.2.1 _ hw) (fun _ h => h) hd (kk H locs la hW hS hL)
theorem v_getsR (hX : OKx X G own cc nL rt) (hT : StK G (xs X)) {ix : Nat} (hw : Cond.fieldLink own ix "jdk/internal/util/Preconditions" "SIOOBE_FORMATTER" "Ljava/util/function/BiFunction;" ∈ TG) (hd : Dq cc pc (.getstatic ix) 3 pc') (kk : ∀ v, v = .null ∨ v = .ref (1000000 + 1) → V X G nL k n Q pc' ls (v :: st) h) : V X G nL k n Q pc ls st h := by
  obtain ⟨hd, rfl⟩ := hd
  intro H locs la hW hS hL
  rcases hT.2.1 with hz | hz
  · have z := kk .null (Or.inl rfl) H locs la hW hS hL
    rw [List.map_cons] at z
    exact va_gets hX.1 hX.2.1 (hz.kept (old_q hX hW hS)) hS hX.2.2.2.2.1 (hX.2.2.2.2.2.1 _ hw) (fun _ h => h) hd z
  · have z := kk (.ref (1000000 + 1)) (Or.inr rfl) H locs la hW hS hL
    rw [List.map_cons, cv_ge] at z
    exact va_gets hX.1 hX.2.1 (hz.kept (old_q hX hW hS)) hS hX.2.2.2.2.1 (hX.2.2.2.2.2.1 _ hw) (fun _ h => h) hd z
theorem v_getV (hX : OKx X G own cc nL rt) (hT : StK G (xs X)) {i : Nat} (hi : i < 13) {ix : Nat} (hw : Cond.fieldLink own ix "java/lang/String" "value" "[B" ∈ TG) (hd : Dq cc pc (.getfield ix) 3 pc') (kk : V X G nL k n Q pc' ls (.ref (1000000 + (20 + i)) :: st) h) : V X G nL k n Q pc ls (.ref (1000000 + (2 + i)) :: st) h := by
  obtain ⟨hd, rfl⟩ := hd
  intro H locs la hW hS hL
  have z := kk H locs la hW hS hL
  rw [List.map_cons, cv_ge] at z
  rw [List.map_cons, cv_ge]
  exact vk_getf hX.1 hX.2.1 ((hT.2.2.1.1 i hi).2.2.1.kept (old_q hX hW hS)) hS hX.2.2.2.2.1 (hX.2.2.2.2.2.1 _ hw) (fun _ h => h) hd z
theorem v_getC (hX : OKx X G own cc nL rt) (hT : StK G (xs X)) {i : Nat} (hi : i < 13) {ix : Nat} (hw : Cond.fieldLink own ix "java/lang/String" "coder" "B" ∈ TG) (hd : Dq cc pc (.getfield ix) 3 pc') (kk : V X G nL k n Q pc' ls (.int 0 :: st) h) : V X G nL k n Q pc ls (.ref (1000000 + (2 + i)) :: st) h := by
  obtain ⟨hd, rfl⟩ := hd
  intro H locs la hW hS hL
  rw [List.map_cons, cv_ge]
  exact vk_getf hX.1 hX.2.1 ((hT.2.2.1.1 i hi).2.1.kept (old_q hX hW hS)) hS hX.2.2.2.2.1 (hX.2.2.2.2.2.1 _ hw) (fun _ h => h) hd (kk H locs la hW hS hL)
theorem v_alenS (hX : OKx X G own cc nL rt) (hT : StK G (xs X)) {i : Nat} (hi : i < 13) (hd : Dq cc pc .arraylength 1 pc') (kk : V X G nL k n Q pc' ls (.int (nI (sLen.getD i 0)) :: st) h) : V X G nL k n Q pc ls (.ref (1000000 + (20 + i)) :: st) h := by
  obtain ⟨hd, rfl⟩ := hd
  intro H locs la hW hS hL
  rw [List.map_cons, cv_ge]
  exact va_tlen hX.1 hX.2.1 ((hT.2.2.1.1 i hi).2.2.2.kept (old_q hX hW hS)) hS rfl hd (kk H locs la hW hS hL)
theorem v_baldS (hX : OKx X G own cc nL rt) (hT : StK G (xs X)) {i : Nat} (hi : i < 13) {j : Nat} (hj : j < sLen.getD i 0) (hj2 : j < 2000000) (hd : Dq cc pc .baload 1 pc') (kk : V X G nL k n Q pc' ls (.int ((sByt.getD i []).getD j 0) :: st) h) : V X G nL k n Q pc ls (.int (nI j) :: .ref (1000000 + (20 + i)) :: st) h := by
  obtain ⟨hd, rfl⟩ := hd
  intro H locs la hW hS hL
  rw [List.map_cons, List.map_cons, cv_ge]
  exact va_tb hX.1 hX.2.1 ((hT.2.2.1.1 i hi).2.2.2.kept (old_q hX hW hS)) hS (vp_in_nI hj (by have := sLen_lt i hi; omega)) (by rw [nI_clamp (by omega)]; rfl) hd (kk H locs la hW hS hL)
def MVS (own : String) (ix : Nat) (M : Mth) (na : Nat) : Prop := MI M na ∧ Cond.methodLink own ix M.1 ∈ TG ∧ Cond.instanceMethod M.1 ∈ TG ∧ Cond.selects M.1.cls M.1 M.1 ∈ TG ∧ M.1.cls = "java/lang/String"
theorem v_callStr {stk : List Value} {P : Option Value → AHp → Prop} {d d' kc ks : Nat} {M : Mth} {ix na : Nat} {av : List Value} {i : Nat} (hX : OKx X G own cc nL rt) (hT : StK G (xs X)) (hR : xR X = rmC d kc ks) (hi : i < 13) (hm : MVS own ix M na) (hc : CP G M d' 0 0 (.ref (1000000 + (2 + i)) :: av) h P) (hsk : stk = av.reverse ++ .ref (1000000 + (2 + i)) :: st) (hd' : d' < d) (hlen : av.length = na) (hcat : (st.map fun v => v.category).sum ≤ 8) (hroom : k ≤ kc ∧ n ≤ ks) (hd : Dq cc pc (.invokevirtual ix) 3 pc') (kk : ∀ r h', P r h' → V X G nL k n Q pc' ls (r.toList ++ st) h') : V X G nL k n Q pc ls stk h := by
  subst hsk
  obtain ⟨hd, rfl⟩ := hd
  obtain ⟨hI, hl, hin, hse, hcl⟩ := hm
  refine v_run (mc := 0) (ms := 0) (a := (Value.ref (gAd G (1000000 + (2 + i))) :: av.map (cv G)).toArray) hX (fun H locs la hW hS hL => ?_) kk
  have hpre : PreV (xs X) H M.1.cls (gAd G (1000000 + (2 + i))) (Pcx G (.ref (1000000 + (2 + i)) :: av) h) (av.map (cv G)) := ⟨blind G _ h, (by
    have z := vk_recv (i := i) (hT.2.2.1.kept (old_q hX hW hS)) hi hS
    rw [gAd_ge, hcl]
    exact z), fun U hU hw => ⟨rfl, by rw [hU]; exact hW, hX.2.2.2.2.2.2.1.warm hw⟩⟩
  exact va_runV (bytes := M.2.1) (maxL := M.2.2.1) (ret := M.2.2.2) (n := na) (C := M.1.cls) (As := av.map (cv G)) (okFix hX) (hc (xl X)) ⟨callB_of na hX.2.2.2.2.2.1 (good_all hI.1) rfl rfl rfl (hX.2.2.2.2.2.1 _ hI.2.1) (hX.2.2.2.2.2.1 _ hl) hI.2.2.1 (roomC hR hd' hI.2.2.2), hX.2.2.2.2.2.1 _ hin, hX.2.2.2.2.2.1 _ hse⟩ hpre rfl (by rw [List.length_map]; exact hlen) hL.1 (by show List.map _ _ = _; rw [map_revV]) (lv_room (catS hcat)) hd (fitR (mc := 0) (ms := 0) hR hroom)
end VSTR2
