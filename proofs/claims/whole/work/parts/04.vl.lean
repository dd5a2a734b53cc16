def V (X : Cx) (G : Glb) (nL k n : Nat) (Q : State → Prop) (pc : Nat) (ls : List (Option Value)) (st : List Value) (h : AHp) : Prop :=
  ∀ (H : Heap) (locs : List Loc) (la : Array Slot), Wd G h H → va_S (AsG G) (xs X).heap H locs → LH G la nL ls → W (xp X) (xl X) (xe X) (xR X) (xs X) (xm X) (xa X) (xb X) (xM X) (xc X) H locs k n Q (F0 (xm X) pc la (st.map (cv G)))
/-- an instruction at its place, and the place behind it -/
def Dq (cc : ByteArray) (pc : Nat) (i : Instr) (len pc' : Nat) : Prop := decode cc pc = .ok (i, len) ∧ pc + len = pc'
section VL
variable {X : Cx} {G : Glb} {own : String} {cc : ByteArray} {nL k n pc pc' : Nat} {rt : Option FieldType} {Q : State → Prop} {ls : List (Option Value)} {st : List Value} {h : AHp}
theorem v_iconst (hX : OKx X G own cc nL rt) {i : Int} {v : Int32} (hv : Int32.ofInt i = v) (hd : Dq cc pc (.iconst i) 1 pc') (kk : V X G nL k n Q pc' ls (.int v :: st) h) : V X G nL k n Q pc ls (st) h := by
  obtain ⟨hd, rfl⟩ := hd
  intro H locs la hW hS hL
  exact lv_iconst hX.1 hX.2.1 hd hv (kk H locs la hW hS hL)
theorem v_bipush (hX : OKx X G own cc nL rt) {i : Int} {v : Int32} (hv : (Int8.ofInt i).toInt32 = v) (hd : Dq cc pc (.bipush i) 2 pc') (kk : V X G nL k n Q pc' ls (.int v :: st) h) : V X G nL k n Q pc ls (st) h := by
  obtain ⟨hd, rfl⟩ := hd
  intro H locs la hW hS hL
  exact lv_bipush hX.1 hX.2.1 hd hv (kk H locs la hW hS hL)
theorem v_sipush (hX : OKx X G own cc nL rt) {i : Int} {v : Int32} (hv : (Int16.ofInt i).toInt32 = v) (hd : Dq cc pc (.sipush i) 3 pc') (kk : V X G nL k n Q pc' ls (.int v :: st) h) : V X G nL k n Q pc ls (st) h := by
  obtain ⟨hd, rfl⟩ := hd
  intro H locs la hW hS hL
  exact lv_sipush hX.1 hX.2.1 hd hv (kk H locs la hW hS hL)
theorem v_ldc (hX : OKx X G own cc nL rt) {ix : Nat} {v : Int32} (hw : Cond.constant own ix v ∈ TG) (hd : Dq cc pc (.ldc ix) 2 pc') (kk : V X G nL k n Q pc' ls (.int v :: st) h) : V X G nL k n Q pc ls (st) h := by
  obtain ⟨hd, rfl⟩ := hd
  intro H locs la hW hS hL
  exact lv_ldc hX.1 hX.2.1 hX.2.2.2.2.1 (hX.2.2.2.2.2.1 _ hw) hd (kk H locs la hW hS hL)
theorem v_ldc2 (hX : OKx X G own cc nL rt) {ix : Nat} {v : Int64} (hw : Cond.constantLong own ix v ∈ TG) (hd : Dq cc pc (.ldc2_w ix) 3 pc') (kk : V X G nL k n Q pc' ls (.long v :: st) h) : V X G nL k n Q pc ls (st) h := by
  obtain ⟨hd, rfl⟩ := hd
  intro H locs la hW hS hL
  exact lv_ldc2 hX.1 hX.2.1 hX.2.2.2.2.1 (hX.2.2.2.2.2.1 _ hw) hd (kk H locs la hW hS hL)
theorem v_lconst (hX : OKx X G own cc nL rt) {i : Fin 2} {v : Int64} (hv : Int64.ofNat (i : Nat) = v) (hd : Dq cc pc (.lconst i) 1 pc') (kk : V X G nL k n Q pc' ls (.long v :: st) h) : V X G nL k n Q pc ls (st) h := by
  obtain ⟨hd, rfl⟩ := hd
  intro H locs la hW hS hL
  exact lv_lconst hX.1 hX.2.1 hd hv (kk H locs la hW hS hL)
theorem v_null (hX : OKx X G own cc nL rt)  (hd : Dq cc pc (.aconst_null) 1 pc') (kk : V X G nL k n Q pc' ls (.null :: st) h) : V X G nL k n Q pc ls (st) h := by
  obtain ⟨hd, rfl⟩ := hd
  intro H locs la hW hS hL
  exact lv_null hX.1 hX.2.1 hd (kk H locs la hW hS hL)
theorem v_iload_n (hX : OKx X G own cc nL rt) {i : Fin 4} {x : Int32} (hl : ls[i.val]? = some (some (.int x))) (hd : Dq cc pc (.iload_n i) 1 pc') (kk : V X G nL k n Q pc' ls (.int x :: st) h) : V X G nL k n Q pc ls (st) h := by
  obtain ⟨hd, rfl⟩ := hd
  intro H locs la hW hS hL
  exact lv_iload_n hX.1 hX.2.1 hd rfl (hL.at hl) (kk H locs la hW hS hL)
theorem v_iload (hX : OKx X G own cc nL rt) {i : Nat} {x : Int32} (hl : ls[i]? = some (some (.int x))) (hd : Dq cc pc (.iload i) 2 pc') (kk : V X G nL k n Q pc' ls (.int x :: st) h) : V X G nL k n Q pc ls (st) h := by
  obtain ⟨hd, rfl⟩ := hd
  intro H locs la hW hS hL
  exact lv_iload hX.1 hX.2.1 hd (hL.at hl) (kk H locs la hW hS hL)
theorem v_lload_n (hX : OKx X G own cc nL rt) {i : Fin 4} {x : Int64} (hl : ls[i.val]? = some (some (.long x))) (hd : Dq cc pc (.lload_n i) 1 pc') (kk : V X G nL k n Q pc' ls (.long x :: st) h) : V X G nL k n Q pc ls (st) h := by
  obtain ⟨hd, rfl⟩ := hd
  intro H locs la hW hS hL
  exact lv_lload_n hX.1 hX.2.1 hd rfl (hL.at hl) (kk H locs la hW hS hL)
theorem v_lload (hX : OKx X G own cc nL rt) {i : Nat} {x : Int64} (hl : ls[i]? = some (some (.long x))) (hd : Dq cc pc (.lload i) 2 pc') (kk : V X G nL k n Q pc' ls (.long x :: st) h) : V X G nL k n Q pc ls (st) h := by
  obtain ⟨hd, rfl⟩ := hd
  intro H locs la hW hS hL
  exact lv_lload hX.1 hX.2.1 hd (hL.at hl) (kk H locs la hW hS hL)
theorem v_aload_n (hX : OKx X G own cc nL rt) {i : Fin 4} {x : Nat} (hl : ls[i.val]? = some (some (.ref x))) (hd : Dq cc pc (.aload_n i) 1 pc') (kk : V X G nL k n Q pc' ls (.ref x :: st) h) : V X G nL k n Q pc ls (st) h := by
  obtain ⟨hd, rfl⟩ := hd
  intro H locs la hW hS hL
  exact lv_aload_n hX.1 hX.2.1 hd rfl (hL.at hl) (kk H locs la hW hS hL)
theorem v_aload (hX : OKx X G own cc nL rt) {i : Nat} {x : Nat} (hl : ls[i]? = some (some (.ref x))) (hd : Dq cc pc (.aload i) 2 pc') (kk : V X G nL k n Q pc' ls (.ref x :: st) h) : V X G nL k n Q pc ls (st) h := by
  obtain ⟨hd, rfl⟩ := hd
  intro H locs la hW hS hL
  exact lv_aload hX.1 hX.2.1 hd (hL.at hl) (kk H locs la hW hS hL)
theorem v_iadd (hX : OKx X G own cc nL rt) {x y : Int32} (hd : Dq cc pc (.iadd) 1 pc') (kk : V X G nL k n Q pc' ls (.int (x + y) :: st) h) : V X G nL k n Q pc ls (.int y :: .int x :: st) h := by
  obtain ⟨hd, rfl⟩ := hd
  intro H locs la hW hS hL
  exact lv_iadd hX.1 hX.2.1 hd (kk H locs la hW hS hL)
theorem v_isub (hX : OKx X G own cc nL rt) {x y : Int32} (hd : Dq cc pc (.isub) 1 pc') (kk : V X G nL k n Q pc' ls (.int (x - y) :: st) h) : V X G nL k n Q pc ls (.int y :: .int x :: st) h := by
  obtain ⟨hd, rfl⟩ := hd
  intro H locs la hW hS hL
  exact lv_isub hX.1 hX.2.1 hd (kk H locs la hW hS hL)
theorem v_imul (hX : OKx X G own cc nL rt) {x y : Int32} (hd : Dq cc pc (.imul) 1 pc') (kk : V X G nL k n Q pc' ls (.int (x * y) :: st) h) : V X G nL k n Q pc ls (.int y :: .int x :: st) h := by
  obtain ⟨hd, rfl⟩ := hd
  intro H locs la hW hS hL
  exact lv_imul hX.1 hX.2.1 hd (kk H locs la hW hS hL)
theorem v_iand (hX : OKx X G own cc nL rt) {x y : Int32} (hd : Dq cc pc (.iand) 1 pc') (kk : V X G nL k n Q pc' ls (.int (x &&& y) :: st) h) : V X G nL k n Q pc ls (.int y :: .int x :: st) h := by
  obtain ⟨hd, rfl⟩ := hd
  intro H locs la hW hS hL
  exact lv_iand hX.1 hX.2.1 hd (kk H locs la hW hS hL)
theorem v_ior (hX : OKx X G own cc nL rt) {x y : Int32} (hd : Dq cc pc (.ior) 1 pc') (kk : V X G nL k n Q pc' ls (.int (x ||| y) :: st) h) : V X G nL k n Q pc ls (.int y :: .int x :: st) h := by
  obtain ⟨hd, rfl⟩ := hd
  intro H locs la hW hS hL
  exact lv_ior hX.1 hX.2.1 hd (kk H locs la hW hS hL)
theorem v_ishl (hX : OKx X G own cc nL rt) {x y : Int32} (hd : Dq cc pc (.ishl) 1 pc') (kk : V X G nL k n Q pc' ls (.int (x <<< (y &&& 31)) :: st) h) : V X G nL k n Q pc ls (.int y :: .int x :: st) h := by
  obtain ⟨hd, rfl⟩ := hd
  intro H locs la hW hS hL
  exact lv_ishl hX.1 hX.2.1 hd (kk H locs la hW hS hL)
theorem v_iushr (hX : OKx X G own cc nL rt) {x y : Int32} (hd : Dq cc pc (.iushr) 1 pc') (kk : V X G nL k n Q pc' ls (.int ((x.toUInt32 >>> (y.toUInt32 &&& Int32.toUInt32 31)).toInt32) :: st) h) : V X G nL k n Q pc ls (.int y :: .int x :: st) h := by
  obtain ⟨hd, rfl⟩ := hd
  intro H locs la hW hS hL
  exact lv_iushr hX.1 hX.2.1 hd rfl (kk H locs la hW hS hL)
theorem v_idiv (hX : OKx X G own cc nL rt) {x y : Int32} (hy : ¬ y = 0) (hd : Dq cc pc (.idiv) 1 pc') (kk : V X G nL k n Q pc' ls (.int (x / y) :: st) h) : V X G nL k n Q pc ls (.int y :: .int x :: st) h := by
  obtain ⟨hd, rfl⟩ := hd
  intro H locs la hW hS hL
  exact lv_idiv hX.1 hX.2.1 hd hy (kk H locs la hW hS hL)
theorem v_irem (hX : OKx X G own cc nL rt) {x y : Int32} (hy : ¬ y = 0) (hd : Dq cc pc (.irem) 1 pc') (kk : V X G nL k n Q pc' ls (.int (x - x / y * y) :: st) h) : V X G nL k n Q pc ls (.int y :: .int x :: st) h := by
  obtain ⟨hd, rfl⟩ := hd
  intro H locs la hW hS hL
  exact lv_irem hX.1 hX.2.1 hd hy (kk H locs la hW hS hL)
theorem v_ineg (hX : OKx X G own cc nL rt) {x : Int32} (hd : Dq cc pc (.ineg) 1 pc') (kk : V X G nL k n Q pc' ls (.int (-x) :: st) h) : V X G nL k n Q pc ls (.int x :: st) h := by
  obtain ⟨hd, rfl⟩ := hd
  intro H locs la hW hS hL
  exact lv_ineg hX.1 hX.2.1 hd (kk H locs la hW hS hL)
theorem v_ladd (hX : OKx X G own cc nL rt) {x y : Int64} (hd : Dq cc pc (.ladd) 1 pc') (kk : V X G nL k n Q pc' ls (.long (x + y) :: st) h) : V X G nL k n Q pc ls (.long y :: .long x :: st) h := by
  obtain ⟨hd, rfl⟩ := hd
  intro H locs la hW hS hL
  exact lv_ladd hX.1 hX.2.1 hd (kk H locs la hW hS hL)
theorem v_lsub (hX : OKx X G own cc nL rt) {x y : Int64} (hd : Dq cc pc (.lsub) 1 pc') (kk : V X G nL k n Q pc' ls (.long (x - y) :: st) h) : V X G nL k n Q pc ls (.long y :: .long x :: st) h := by
  obtain ⟨hd, rfl⟩ := hd
  intro H locs la hW hS hL
  exact lv_lsub hX.1 hX.2.1 hd (kk H locs la hW hS hL)
theorem v_lmul (hX : OKx X G own cc nL rt) {x y : Int64} (hd : Dq cc pc (.lmul) 1 pc') (kk : V X G nL k n Q pc' ls (.long (x * y) :: st) h) : V X G nL k n Q pc ls (.long y :: .long x :: st) h := by
  obtain ⟨hd, rfl⟩ := hd
  intro H locs la hW hS hL
  exact lv_lmul hX.1 hX.2.1 hd (kk H locs la hW hS hL)
theorem v_ldiv (hX : OKx X G own cc nL rt) {x y : Int64} (hy : ¬ y = 0) (hd : Dq cc pc (.ldiv) 1 pc') (kk : V X G nL k n Q pc' ls (.long (x / y) :: st) h) : V X G nL k n Q pc ls (.long y :: .long x :: st) h := by
  obtain ⟨hd, rfl⟩ := hd
  intro H locs la hW hS hL
  exact lv_ldiv hX.1 hX.2.1 hd hy (kk H locs la hW hS hL)
theorem v_lrem (hX : OKx X G own cc nL rt) {x y : Int64} (hy : ¬ y = 0) (hd : Dq cc pc (.lrem) 1 pc') (kk : V X G nL k n Q pc' ls (.long (x - x / y * y) :: st) h) : V X G nL k n Q pc ls (.long y :: .long x :: st) h := by
  obtain ⟨hd, rfl⟩ := hd
  intro H locs la hW hS hL
  exact lv_lrem hX.1 hX.2.1 hd hy (kk H locs la hW hS hL)
theorem v_i2l (hX : OKx X G own cc nL rt) {x : Int32} (hd : Dq cc pc (.i2l) 1 pc') (kk : V X G nL k n Q pc' ls (.long (x.toInt64) :: st) h) : V X G nL k n Q pc ls (.int x :: st) h := by
  obtain ⟨hd, rfl⟩ := hd
  intro H locs la hW hS hL
  exact lv_i2l hX.1 hX.2.1 hd rfl (kk H locs la hW hS hL)
theorem v_l2i (hX : OKx X G own cc nL rt) {x : Int64} (hd : Dq cc pc (.l2i) 1 pc') (kk : V X G nL k n Q pc' ls (.int (x.toInt32) :: st) h) : V X G nL k n Q pc ls (.long x :: st) h := by
  obtain ⟨hd, rfl⟩ := hd
  intro H locs la hW hS hL
  exact lv_l2i hX.1 hX.2.1 hd rfl (kk H locs la hW hS hL)
theorem v_i2b (hX : OKx X G own cc nL rt) {x : Int32} (hd : Dq cc pc (.i2b) 1 pc') (kk : V X G nL k n Q pc' ls (.int (x.toInt8.toInt32) :: st) h) : V X G nL k n Q pc ls (.int x :: st) h := by
  obtain ⟨hd, rfl⟩ := hd
  intro H locs la hW hS hL
  exact lv_i2b hX.1 hX.2.1 hd rfl (kk H locs la hW hS hL)
theorem v_i2s (hX : OKx X G own cc nL rt) {x : Int32} (hd : Dq cc pc (.i2s) 1 pc') (kk : V X G nL k n Q pc' ls (.int (x.toInt16.toInt32) :: st) h) : V X G nL k n Q pc ls (.int x :: st) h := by
  obtain ⟨hd, rfl⟩ := hd
  intro H locs la hW hS hL
  exact lv_i2s hX.1 hX.2.1 hd rfl (kk H locs la hW hS hL)
theorem v_dup (hX : OKx X G own cc nL rt) {v : Value} (hv : v.category = 1) (hd : Dq cc pc (.dup) 1 pc') (kk : V X G nL k n Q pc' ls (v :: v :: st) h) : V X G nL k n Q pc ls (v :: st) h := by
  obtain ⟨hd, rfl⟩ := hd
  intro H locs la hW hS hL
  exact lv_dup hX.1 hX.2.1 hd (by rw [cv_cat]; exact hv) (kk H locs la hW hS hL)
theorem v_pop (hX : OKx X G own cc nL rt) {v : Value} (hv : v.category = 1) (hd : Dq cc pc (.pop) 1 pc') (kk : V X G nL k n Q pc' ls (st) h) : V X G nL k n Q pc ls (v :: st) h := by
  obtain ⟨hd, rfl⟩ := hd
  intro H locs la hW hS hL
  exact lv_pop hX.1 hX.2.1 hd (by rw [cv_cat]; exact hv) (kk H locs la hW hS hL)
theorem v_istore_n (hX : OKx X G own cc nL rt) {i : Fin 4} {x : Int32} (hn : i.val < nL) (hq : noD ls = true) {ls' : List (Option Value)} (hl' : lst ls i.val (.int x) = ls') (hd : Dq cc pc (.istore_n i) 1 pc') (kk : V X G nL k n Q pc' ls' st h) : V X G nL k n Q pc ls (.int x :: st) h := by
  obtain ⟨hd, rfl⟩ := hd
  subst hl'
  intro H locs la hW hS hL
  exact lv_istore_n hX.1 hX.2.1 hd rfl hL hn rfl (fun la' hL' => kk H locs la' hW hS (LH.st hL' (noD.no hq)))
theorem v_istore (hX : OKx X G own cc nL rt) {i : Nat} {x : Int32} (hn : i < nL) (hq : noD ls = true) {ls' : List (Option Value)} (hl' : lst ls i (.int x) = ls') (hd : Dq cc pc (.istore i) 2 pc') (kk : V X G nL k n Q pc' ls' st h) : V X G nL k n Q pc ls (.int x :: st) h := by
  obtain ⟨hd, rfl⟩ := hd
  subst hl'
  intro H locs la hW hS hL
  exact lv_istore hX.1 hX.2.1 hd  hL hn rfl (fun la' hL' => kk H locs la' hW hS (LH.st hL' (noD.no hq)))
theorem v_astore_n (hX : OKx X G own cc nL rt) {i : Fin 4} {x : Nat} (hn : i.val < nL) (hq : noD ls = true) {ls' : List (Option Value)} (hl' : lst ls i.val (.ref x) = ls') (hd : Dq cc pc (.astore_n i) 1 pc') (kk : V X G nL k n Q pc' ls' st h) : V X G nL k n Q pc ls (.ref x :: st) h := by
  obtain ⟨hd, rfl⟩ := hd
  subst hl'
  intro H locs la hW hS hL
  exact lv_astore_n hX.1 hX.2.1 hd rfl hL hn rfl (fun la' hL' => kk H locs la' hW hS (LH.st hL' (noD.no hq)))
theorem v_astore (hX : OKx X G own cc nL rt) {i : Nat} {x : Nat} (hn : i < nL) (hq : noD ls = true) {ls' : List (Option Value)} (hl' : lst ls i (.ref x) = ls') (hd : Dq cc pc (.astore i) 2 pc') (kk : V X G nL k n Q pc' ls' st h) : V X G nL k n Q pc ls (.ref x :: st) h := by
  obtain ⟨hd, rfl⟩ := hd
  subst hl'
  intro H locs la hW hS hL
  exact lv_astore hX.1 hX.2.1 hd  hL hn rfl (fun la' hL' => kk H locs la' hW hS (LH.st hL' (noD.no hq)))
theorem v_lstore_n (hX : OKx X G own cc nL rt) {i : Fin 4} {x : Int64} (hn : i.val + 1 < nL) (hq : noD ls = true) {ls' : List (Option Value)} (hl' : lstL ls i.val x = ls') (hd : Dq cc pc (.lstore_n i) 1 pc') (kk : V X G nL k n Q pc' ls' st h) : V X G nL k n Q pc ls (.long x :: st) h := by
  obtain ⟨hd, rfl⟩ := hd
  subst hl'
  intro H locs la hW hS hL
  exact lv_lstore_n hX.1 hX.2.1 hd rfl hL hn rfl (fun la' hL' => kk H locs la' hW hS (LH.stL hL' (noD.no hq)))
theorem v_lstore (hX : OKx X G own cc nL rt) {i : Nat} {x : Int64} (hn : i + 1 < nL) (hq : noD ls = true) {ls' : List (Option Value)} (hl' : lstL ls i x = ls') (hd : Dq cc pc (.lstore i) 2 pc') (kk : V X G nL k n Q pc' ls' st h) : V X G nL k n Q pc ls (.long x :: st) h := by
  obtain ⟨hd, rfl⟩ := hd
  subst hl'
  intro H locs la hW hS hL
  exact lv_lstore hX.1 hX.2.1 hd  hL hn rfl (fun la' hL' => kk H locs la' hW hS (LH.stL hL' (noD.no hq)))
theorem v_iinc (hX : OKx X G own cc nL rt) {i : Nat} {d : Int} {x v : Int32} (hx : ls[i]? = some (some (.int x))) (hv : x + Int32.ofInt d = v) (hn : i < nL) (hq : noD ls = true) {ls' : List (Option Value)} (hl' : lst ls i (.int v) = ls') (hd : Dq cc pc (.iinc i d) 3 pc') (kk : V X G nL k n Q pc' ls' st h) : V X G nL k n Q pc ls st h := by
  obtain ⟨hd, rfl⟩ := hd
  subst hl'
  intro H locs la hW hS hL
  obtain ⟨j, hj⟩ := List.getElem?_of_mem ((asc_mem (G := G) ls 0 i (.int x)).mpr ⟨i, .int x, by omega, hx, rfl⟩)
  exact lv_iinc hX.1 hX.2.1 hd hL hj hv hn rfl (fun la' hL' => kk H locs la' hW hS (LH.st hL' (noD.no hq)))
theorem v_if_eq (hX : OKx X G own cc nL rt) {x : Int32} {off : Int} (tgt : Nat) (hd : Dq cc pc (.ifCond .eq off) 3 pc') (ht : (pc : Int) + off = (tgt : Int)) (kt : x = 0 → V X G nL k n Q tgt ls st h) (kf : ¬ (x = 0) → V X G nL k n Q pc' ls st h) : V X G nL k n Q pc ls (.int x :: st) h := by
  obtain ⟨hd, rfl⟩ := hd
  intro H locs la hW hS hL
  exact lv_if_eq hX.1 hX.2.1 hd ht (fun c => kt c H locs la hW hS hL) (fun c => kf c H locs la hW hS hL)
theorem v_if_lt (hX : OKx X G own cc nL rt) {x : Int32} {off : Int} (tgt : Nat) (hd : Dq cc pc (.ifCond .lt off) 3 pc') (ht : (pc : Int) + off = (tgt : Int)) (kt : x < 0 → V X G nL k n Q tgt ls st h) (kf : ¬ (x < 0) → V X G nL k n Q pc' ls st h) : V X G nL k n Q pc ls (.int x :: st) h := by
  obtain ⟨hd, rfl⟩ := hd
  intro H locs la hW hS hL
  exact lv_if_lt hX.1 hX.2.1 hd ht (fun c => kt c H locs la hW hS hL) (fun c => kf c H locs la hW hS hL)
theorem v_if_ge (hX : OKx X G own cc nL rt) {x : Int32} {off : Int} (tgt : Nat) (hd : Dq cc pc (.ifCond .ge off) 3 pc') (ht : (pc : Int) + off = (tgt : Int)) (kt : 0 ≤ x → V X G nL k n Q tgt ls st h) (kf : ¬ (0 ≤ x) → V X G nL k n Q pc' ls st h) : V X G nL k n Q pc ls (.int x :: st) h := by
  obtain ⟨hd, rfl⟩ := hd
  intro H locs la hW hS hL
  exact lv_if_ge hX.1 hX.2.1 hd ht (fun c => kt c H locs la hW hS hL) (fun c => kf c H locs la hW hS hL)
theorem v_if_gt (hX : OKx X G own cc nL rt) {x : Int32} {off : Int} (tgt : Nat) (hd : Dq cc pc (.ifCond .gt off) 3 pc') (ht : (pc : Int) + off = (tgt : Int)) (kt : 0 < x → V X G nL k n Q tgt ls st h) (kf : ¬ (0 < x) → V X G nL k n Q pc' ls st h) : V X G nL k n Q pc ls (.int x :: st) h := by
  obtain ⟨hd, rfl⟩ := hd
  intro H locs la hW hS hL
  exact lv_if_gt hX.1 hX.2.1 hd ht (fun c => kt c H locs la hW hS hL) (fun c => kf c H locs la hW hS hL)
theorem v_if_le (hX : OKx X G own cc nL rt) {x : Int32} {off : Int} (tgt : Nat) (hd : Dq cc pc (.ifCond .le off) 3 pc') (ht : (pc : Int) + off = (tgt : Int)) (kt : x ≤ 0 → V X G nL k n Q tgt ls st h) (kf : ¬ (x ≤ 0) → V X G nL k n Q pc' ls st h) : V X G nL k n Q pc ls (.int x :: st) h := by
  obtain ⟨hd, rfl⟩ := hd
  intro H locs la hW hS hL
  exact lv_if_le hX.1 hX.2.1 hd ht (fun c => kt c H locs la hW hS hL) (fun c => kf c H locs la hW hS hL)
theorem v_icmp_eq (hX : OKx X G own cc nL rt) {x y : Int32} {off : Int} (tgt : Nat) (hd : Dq cc pc (.if_icmp .eq off) 3 pc') (ht : (pc : Int) + off = (tgt : Int)) (kt : x = y → V X G nL k n Q tgt ls st h) (kf : ¬ (x = y) → V X G nL k n Q pc' ls st h) : V X G nL k n Q pc ls (.int y :: .int x :: st) h := by
  obtain ⟨hd, rfl⟩ := hd
  intro H locs la hW hS hL
  exact lv_icmp_eq hX.1 hX.2.1 hd ht (fun c => kt c H locs la hW hS hL) (fun c => kf c H locs la hW hS hL)
theorem v_icmp_lt (hX : OKx X G own cc nL rt) {x y : Int32} {off : Int} (tgt : Nat) (hd : Dq cc pc (.if_icmp .lt off) 3 pc') (ht : (pc : Int) + off = (tgt : Int)) (kt : x < y → V X G nL k n Q tgt ls st h) (kf : ¬ (x < y) → V X G nL k n Q pc' ls st h) : V X G nL k n Q pc ls (.int y :: .int x :: st) h := by
  obtain ⟨hd, rfl⟩ := hd
  intro H locs la hW hS hL
  exact lv_icmp_lt hX.1 hX.2.1 hd ht (fun c => kt c H locs la hW hS hL) (fun c => kf c H locs la hW hS hL)
theorem v_icmp_ge (hX : OKx X G own cc nL rt) {x y : Int32} {off : Int} (tgt : Nat) (hd : Dq cc pc (.if_icmp .ge off) 3 pc') (ht : (pc : Int) + off = (tgt : Int)) (kt : y ≤ x → V X G nL k n Q tgt ls st h) (kf : ¬ (y ≤ x) → V X G nL k n Q pc' ls st h) : V X G nL k n Q pc ls (.int y :: .int x :: st) h := by
  obtain ⟨hd, rfl⟩ := hd
  intro H locs la hW hS hL
  exact lv_icmp_ge hX.1 hX.2.1 hd ht (fun c => kt c H locs la hW hS hL) (fun c => kf c H locs la hW hS hL)
theorem v_icmp_gt (hX : OKx X G own cc nL rt) {x y : Int32} {off : Int} (tgt : Nat) (hd : Dq cc pc (.if_icmp .gt off) 3 pc') (ht : (pc : Int) + off = (tgt : Int)) (kt : y < x → V X G nL k n Q tgt ls st h) (kf : ¬ (y < x) → V X G nL k n Q pc' ls st h) : V X G nL k n Q pc ls (.int y :: .int x :: st) h := by
  obtain ⟨hd, rfl⟩ := hd
  intro H locs la hW hS hL
  exact lv_icmp_gt hX.1 hX.2.1 hd ht (fun c => kt c H locs la hW hS hL) (fun c => kf c H locs la hW hS hL)
theorem v_icmp_le (hX : OKx X G own cc nL rt) {x y : Int32} {off : Int} (tgt : Nat) (hd : Dq cc pc (.if_icmp .le off) 3 pc') (ht : (pc : Int) + off = (tgt : Int)) (kt : x ≤ y → V X G nL k n Q tgt ls st h) (kf : ¬ (x ≤ y) → V X G nL k n Q pc' ls st h) : V X G nL k n Q pc ls (.int y :: .int x :: st) h := by
  obtain ⟨hd, rfl⟩ := hd
  intro H locs la hW hS hL
  exact lv_icmp_le hX.1 hX.2.1 hd ht (fun c => kt c H locs la hW hS hL) (fun c => kf c H locs la hW hS hL)

theorem v_if_ne (hX : OKx X G own cc nL rt) {x : Int32} {off : Int} (tgt : Nat) (hd : Dq cc pc (.ifCond .ne off) 3 pc') (ht : (pc : Int) + off = (tgt : Int)) (kt : ¬ x = 0 → V X G nL k n Q tgt ls st h) (kf : x = 0 → V X G nL k n Q pc' ls st h) : V X G nL k n Q pc ls (.int x :: st) h := by
  obtain ⟨hd, rfl⟩ := hd
  intro H locs la hW hS hL
  exact lv_if_ne hX.1 hX.2.1 hd ht (fun c => kt c H locs la hW hS hL) (fun c => kf c H locs la hW hS hL)
theorem v_icmp_ne (hX : OKx X G own cc nL rt) {x y : Int32} {off : Int} (tgt : Nat) (hd : Dq cc pc (.if_icmp .ne off) 3 pc') (ht : (pc : Int) + off = (tgt : Int)) (kt : ¬ x = y → V X G nL k n Q tgt ls st h) (kf : x = y → V X G nL k n Q pc' ls st h) : V X G nL k n Q pc ls (.int y :: .int x :: st) h := by
  obtain ⟨hd, rfl⟩ := hd
  intro H locs la hW hS hL
  exact lv_icmp_ne hX.1 hX.2.1 hd ht (fun c => kt c H locs la hW hS hL) (fun c => kf c H locs la hW hS hL)
theorem v_goto (hX : OKx X G own cc nL rt) {off : Int} (tgt : Nat) (hd : Dq cc pc (.goto off) 3 pc') (ht : (pc : Int) + off = (tgt : Int)) (kk : V X G nL k n Q tgt ls st h) : V X G nL k n Q pc ls st h := by
  obtain ⟨hd, rfl⟩ := hd
  intro H locs la hW hS hL
  exact lv_goto hX.1 hX.2.1 hd ht (kk H locs la hW hS hL)
theorem v_ifnull (hX : OKx X G own cc nL rt) {x : Nat} {off : Int} (hd : Dq cc pc (.ifnull off) 3 pc') (kk : V X G nL k n Q pc' ls st h) : V X G nL k n Q pc ls (.ref x :: st) h := by
  obtain ⟨hd, rfl⟩ := hd
  intro H locs la hW hS hL
  exact lv_ifnull hX.1 hX.2.1 hd (kk H locs la hW hS hL)
theorem v_ifnullN (hX : OKx X G own cc nL rt) {off : Int} (tgt : Nat) (hd : Dq cc pc (.ifnull off) 3 pc') (ht : (pc : Int) + off = (tgt : Int)) (kk : V X G nL k n Q tgt ls st h) : V X G nL k n Q pc ls (.null :: st) h := by
  obtain ⟨hd, rfl⟩ := hd
  intro H locs la hW hS hL
  exact lv_ifnullN hX.1 hX.2.1 hd ht (kk H locs la hW hS hL)
theorem v_ifnonnull (hX : OKx X G own cc nL rt) {x : Nat} {off : Int} (tgt : Nat) (hd : Dq cc pc (.ifnonnull off) 3 pc') (ht : (pc : Int) + off = (tgt : Int)) (kk : V X G nL k n Q tgt ls st h) : V X G nL k n Q pc ls (.ref x :: st) h := by
  obtain ⟨hd, rfl⟩ := hd
  intro H locs la hW hS hL
  exact lv_ifnonnull hX.1 hX.2.1 hd ht (kk H locs la hW hS hL)
theorem v_ifnonnullN (hX : OKx X G own cc nL rt) {off : Int} (hd : Dq cc pc (.ifnonnull off) 3 pc') (kk : V X G nL k n Q pc' ls st h) : V X G nL k n Q pc ls (.null :: st) h := by
  obtain ⟨hd, rfl⟩ := hd
  intro H locs la hW hS hL
  exact lv_ifnonnullN hX.1 hX.2.1 hd (kk H locs la hW hS hL)
theorem v_lcmp (hX : OKx X G own cc nL rt) {x y : Int64} (hd : Dq cc pc .lcmp 1 pc') (kk : V X G nL k n Q pc' ls (.int (lg_cmp x y) :: st) h) : V X G nL k n Q pc ls (.long y :: .long x :: st) h := by
  obtain ⟨hd, rfl⟩ := hd
  intro H locs la hW hS hL
  exact W.lcmp hX.1 hX.2.1 hd (kk H locs la hW hS hL)
theorem v_tableOut (hX : OKx X G own cc nL rt) {dflt lo hi : Int} {offs : Array Int} {len : Nat} {x : Int32} (tgt : Nat) (hd : Dq cc pc (.tableswitch dflt lo hi offs) len pc') (hx : x.toInt < lo ∨ hi < x.toInt) (ht : (pc : Int) + dflt = (tgt : Int)) (kk : V X G nL k n Q tgt ls st h) : V X G nL k n Q pc ls (.int x :: st) h := by
  obtain ⟨hd, rfl⟩ := hd
  intro H locs la hW hS hL
  exact lv_tableOut hX.1 hX.2.1 hd hx ht (kk H locs la hW hS hL)
theorem v_tableIn (hX : OKx X G own cc nL rt) {dflt lo hi : Int} {offs : Array Int} {len : Nat} {x : Int32} {off : Int} (tgt : Nat) (hd : Dq cc pc (.tableswitch dflt lo hi offs) len pc') (h1 : ¬ x.toInt < lo) (h2 : ¬ hi < x.toInt) (ho : offs[(x.toInt - lo).toNat]? = some off) (ht : (pc : Int) + off = (tgt : Int)) (kk : V X G nL k n Q tgt ls st h) : V X G nL k n Q pc ls (.int x :: st) h := by
  obtain ⟨hd, rfl⟩ := hd
  intro H locs la hW hS hL
  exact lv_tableIn hX.1 hX.2.1 hd h1 h2 ho ht (kk H locs la hW hS hL)
theorem v_lookup (hX : OKx X G own cc nL rt) {dflt : Int} {ps : Array (Int × Int)} {len : Nat} {x : Int32} {off : Int} (tgt : Nat) (hd : Dq cc pc (.lookupswitch dflt ps) len pc') (hp : (ps.toList.zip (ps.toList.drop 1)).all (fun (a, next) => a.1 < next.1) = true) (ho : Op.lookupswitch.offset ps.toList dflt x.toInt = off) (ht : (pc : Int) + off = (tgt : Int)) (kk : V X G nL k n Q tgt ls st h) : V X G nL k n Q pc ls (.int x :: st) h := by
  obtain ⟨hd, rfl⟩ := hd
  intro H locs la hW hS hL
  exact lv_lookup hX.1 hX.2.1 hd hp ho ht (kk H locs la hW hS hL)
end VL
