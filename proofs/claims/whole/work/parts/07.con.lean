/-! contracts -/
abbrev Mth : Type := MethodName × ByteArray × Nat × Option FieldType
def rmC (d mc ms : Nat) : Room := { frames := d, cells := mc, slots := ms, locals := 40 * d }
def Pcx (G : Glb) (av : List Value) (h : AHp) : Array Value → State → Prop := fun v U => v = (av.map (cv G)).toArray ∧ Wd G h U.heap ∧ Kn G U
def Qcx (G : Glb) (r : Option Value) (h' : AHp) : Array Value → State → Outcome → State → Prop := fun _ s o t => o = .returned (r.map (cv G)) ∧ Wd G h' t.heap ∧ Kn G t ∧ va_F (AsG G) s t
abbrev wsM (M : Mth) : List Cond := Cond.code M.1 M.2.1 M.2.2.1 M.2.2.2 :: TG
/-- what M leaves, told by a predicate of its answer and the heap behind it -/
def Qp (G : Glb) (P : Option Value → AHp → Prop) : Array Value → State → Outcome → State → Prop := fun a s o t => ∃ r h', P r h' ∧ Qcx G r h' a s o t
/-- from av and h the method M comes to its end, and P holds of its answer and of the heap then -/
def CP (G : Glb) (M : Mth) (d mc ms : Nat) (av : List Value) (h : AHp) (P : Option Value → AHp → Prop) : Prop := ∀ l : Launch, Met l M.1 (wsM M) (rmC d mc ms) (Pcx G av h) (Qp G P) mc ms (AsG G)
abbrev QM (X : Cx) (G : Glb) (P : Option Value → AHp → Prop) (mc ms : Nat) : State → Prop := MQ (xb X) (Qp G P) (xa X) (xs X) mc ms (AsG G)
def ent (av : List Value) : List (Option Value) := av.flatMap fun v => if v.category = 2 then [some v, none] else [some v]
def enL (av : List Value) (nL : Nat) : List (Option Value) := ent av ++ List.replicate (nL - (ent av).length) none
theorem asc_nones {G : Glb} : ∀ (n i : Nat), asc G i (List.replicate n none) = [] := by
  intro n
  induction n with
  | zero => intro i; rfl
  | succ n ih => intro i; rw [List.replicate_succ, asc]; exact ih (i + 1)
theorem asc_ent {G : Glb} (n : Nat) : ∀ (av : List Value) (i : Nat), asc G i (ent av ++ List.replicate n none) = lv_args i (av.map (cv G)) := by
  intro av
  induction av with
  | nil => intro i; exact asc_nones n i
  | cons v vs ih =>
    intro i
    have e : ent (v :: vs) = (if v.category = 2 then [some v, none] else [some v]) ++ ent vs := by simp [ent]
    rw [e, List.map_cons, lv_args, cv_cat]
    by_cases hc : v.category = 2
    · rw [if_pos hc, if_pos hc]
      simp only [List.cons_append, List.nil_append, asc]
      rw [ih]
    · rw [if_neg hc, if_neg hc]
      simp only [List.cons_append, List.nil_append, asc]
      rw [ih]
theorem sl_len {G : Glb} : ∀ av : List Value, (lg_sl (av.map (cv G))).length = (ent av).length := by
  intro av
  induction av with
  | nil => rfl
  | cons v vs ih =>
    have e : ent (v :: vs) = (if v.category = 2 then [some v, none] else [some v]) ++ ent vs := by simp [ent]
    have e2 : lg_sl ((v :: vs).map (cv G)) = (if v.category = 2 then [Slot.val (cv G v), .second] else [Slot.val (cv G v)]) ++ lg_sl (vs.map (cv G)) := by simp [lg_sl, cv_cat]
    rw [e, e2, List.length_append, List.length_append, ih]
    by_cases hc : v.category = 2 <;> simp [hc]
theorem blind (G : Glb) (av : List Value) (h : AHp) : FrameBlind (Pcx G av h) := fun a U g mk q => ⟨q.1, q.2.1, Kn.same (s := U) (U := U.calling g mk a) rfl q.2.2⟩
theorem CP.of {G : Glb} {y : MethodName} {cc : ByteArray} {nL : Nat} {rt : Option FieldType} {d mc ms : Nat} {av : List Value} {h : AHp} {P : Option Value → AHp → Prop} (hy : plainName y.cls = true) (hn : (ent av).length ≤ nL)
    (body : ∀ X : Cx, OKx X G y.cls cc nL rt → xR X = rmC d mc ms → (xM X).name = y.name → V X G nL 0 0 (QM X G P mc ms) 0 (enL av nL) [] h) : CP G (y, cc, nL, rt) d mc ms av h P := by
  intro l
  refine Met.ofW (cc := cc) (maxL := nL) (ret := rt) hy rfl ?_
  intro p e s m args below meth c s₁ B hml hv
  obtain ⟨rfl, hW, hK⟩ := hv
  have hts := atoms_spec (ws := wsM (y, cc, nL, rt)) B.pre
  have hz : gB G ≤ s.heap.size := by rw [hW.1]; exact Nat.le_add_right _ _
  have hX : OKx (p, l, e, rmC d mc ms, s, m, (av.map (cv G)).toArray, below, meth, c) G y.cls cc nL rt := ⟨B.exec, B.bytes, B.returns, hml, findClass_of_methodNamed B.named, fun w hw => hts w (List.mem_cons_of_mem _ hw), hK, B.notSynchronized, hz⟩
  have hb := body _ hX rfl (name_of_methodNamed B.named B.method).1
  rw [lg_entry_eq]
  refine hb s.heap [] _ hW va_S.rf ?_
  have hl := lv_entry (av.map (cv G)) (n := nL) (by rw [sl_len]; exact hn)
  show lv_has _ nL (asc G 0 (enL av nL))
  rw [enL, asc_ent]
  exact hl
section VR
variable {X : Cx} {G : Glb} {own : String} {cc : ByteArray} {nL k n pc pc' : Nat} {ls : List (Option Value)} {st : List Value} {h : AHp} {P : Option Value → AHp → Prop}
theorem v_ireturn (hX : OKx X G own cc nL (some .int)) {v : Int32} (hd : Dq cc pc .ireturn 1 pc') (hp : P (some (.int v)) h) : V X G nL k n (QM X G P k n) pc ls [.int v] h := by
  intro H locs la hW hS hL
  exact W.iret hX.1 hX.2.1 hX.2.2.1 (fun t ht hw => ⟨_, _, hp, rfl, by rw [ht]; exact hW, hX.2.2.2.2.2.2.1.warm hw, hS.F ht⟩) hS.2.2 hd.1 hX.2.2.2.2.2.2.2.1
theorem v_zreturn (hX : OKx X G own cc nL (some .boolean)) {v : Int32} (hv : v = 0 ∨ v = 1) (hd : Dq cc pc .ireturn 1 pc') (hp : P (some (.int v)) h) : V X G nL k n (QM X G P k n) pc ls [.int v] h := by
  intro H locs la hW hS hL
  exact W.zret hX.1 hX.2.1 hX.2.2.1 (by rcases hv with rfl | rfl <;> rfl) (fun t ht hw => ⟨_, _, hp, rfl, by rw [ht]; exact hW, hX.2.2.2.2.2.2.1.warm hw, hS.F ht⟩) hS.2.2 hd.1 hX.2.2.2.2.2.2.2.1
theorem v_lreturn (hX : OKx X G own cc nL (some .long)) {v : Int64} (hd : Dq cc pc .lreturn 1 pc') (hp : P (some (.long v)) h) : V X G nL k n (QM X G P k n) pc ls [.long v] h := by
  intro H locs la hW hS hL
  exact W.lret hX.1 hX.2.1 hX.2.2.1 (fun t ht hw => ⟨_, _, hp, rfl, by rw [ht]; exact hW, hX.2.2.2.2.2.2.1.warm hw, hS.F ht⟩) hS.2.2 hd.1 hX.2.2.2.2.2.2.2.1
theorem v_return (hX : OKx X G own cc nL none) (hd : Dq cc pc .return_ 1 pc') (hp : P none h) : V X G nL k n (QM X G P k n) pc ls [] h := by
  intro H locs la hW hS hL
  exact W.vret hX.1 hX.2.1 hX.2.2.1 (fun t ht hw => ⟨_, _, hp, rfl, by rw [ht]; exact hW, hX.2.2.2.2.2.2.1.warm hw, hS.F ht⟩) hS.2.2 hd.1 hX.2.2.2.2.2.2.2.1
theorem v_areturn {C : String} (hX : OKx X G own cc nL (some (.object C))) {v : Value} (hv : v = .null ∨ ∃ a, v = .ref a) (hd : Dq cc pc .areturn 1 pc') (hp : P (some v) h) : V X G nL k n (QM X G P k n) pc ls [v] h := by
  intro H locs la hW hS hL
  exact W.aret hX.1 hX.2.1 hX.2.2.1 (Or.inl ⟨_, rfl⟩) (by rcases hv with rfl | ⟨a, rfl⟩; exact Or.inl rfl; exact Or.inr ⟨_, rfl⟩) (fun t ht hw => ⟨_, _, hp, rfl, by rw [ht]; exact hW, hX.2.2.2.2.2.2.1.warm hw, hS.F ht⟩) hS.2.2 hd.1 hX.2.2.2.2.2.2.2.1
/-- rounds up what has been made -/
theorem v_widen {rt : Option FieldType} {Q : State → Prop} {k' n' : Nat} (h1 : k ≤ k') (h2 : n ≤ n') (kk : V X G nL k' n' Q pc ls st h) : V X G nL k n Q pc ls st h := fun H locs la hW hS hL => W.widen h1 h2 (kk H locs la hW hS hL)
end VR
/-! calls -/
theorem good_all {y : MethodName} {cc : ByteArray} {nL : Nat} {rt : Option FieldType} (h : Cond.code y cc nL rt ∈ TG) : GoodIn TG (wsM (y, cc, nL, rt)) := fun w hw => by
  rcases List.mem_cons.mp hw with rfl | hw
  · exact ⟨h, good_of_word (tg_good h)⟩
  · exact ⟨hw, good_of_word (tg_good hw)⟩
/-- all that the tables say of a method of ours: n arguments -/
def MI (M : Mth) (n : Nat) : Prop := Cond.code M.1 M.2.1 M.2.2.1 M.2.2.2 ∈ TG ∧ Cond.initialized M.1.cls ∈ TG ∧ (M.1.cls ≠ "java/lang/invoke/MethodHandle" ∧ M.1.cls ≠ "java/lang/invoke/VarHandle" ∧ (parseMethodDescriptor M.1.desc).map (fun d => d.parameters.length) = some n) ∧ M.2.2.1 ≤ 21
section VC
variable {X : Cx} {G : Glb} {own : String} {cc : ByteArray} {nL k n pc pc' : Nat} {rt : Option FieldType} {Q : State → Prop} {ls : List (Option Value)} {st : List Value} {h h' : AHp} {r : Option Value} {d d' mc ms kc ks : Nat} {M : Mth} {ix na : Nat} {av : List Value}
theorem map_rev {G : Glb} {av st : List Value} : (av.reverse ++ st).map (cv G) = (av.map (cv G)).reverse ++ st.map (cv G) := by simp
theorem roomC (hR : xR X = rmC d kc ks) (hd : d' < d) (hm : M.2.2.1 ≤ 21) : (rmC d' mc ms).frames + 1 ≤ (xR X).frames ∧ 8 + (M.2.2.1 + 11) + (rmC d' mc ms).locals ≤ (xR X).locals := by
  rw [hR]
  refine ⟨hd, ?_⟩
  show 8 + (M.2.2.1 + 11) + 40 * d' ≤ 40 * d
  omega
theorem catS {st : List Value} {G : Glb} (h : (st.map fun v => v.category).sum ≤ 8) : ((st.map (cv G)).map fun v => v.category).sum ≤ 8 := by
  rw [List.map_map]
  have : (fun v : Value => v.category) ∘ cv G = fun v => v.category := by funext v; exact cv_cat
  rw [this]; exact h
theorem v_run {av : List Value} (hX : OKx X G own cc nL rt) {a : Array Value} {P : Option Value → AHp → Prop} (hr : ∀ (H : Heap) (locs : List Loc) (la : Array Slot), Wd G h H → va_S (AsG G) (xs X).heap H locs → LH G la nL ls → va_Run (xp X) (xl X) (xe X) (xR X) (xs X) (xm X) (xa X) (xb X) (xM X) (xc X) H locs k n mc ms (F0 (xm X) pc la (av.map (cv G))) (st.map (cv G)) (Qp G P a) (AsG G))
    (kk : ∀ r h', P r h' → V X G nL (k + mc) (n + ms) Q (pc + 3) ls (r.toList ++ st) h') : V X G nL k n Q pc ls av h := by
  intro H locs la hW hS hL T hT Z
  obtain ⟨v, st₀, t, T', L, h0, X', hLo, e1, e2, ⟨r, h', hP, hv, hWt, hKt, hz, hk⟩, stp⟩ := hr H locs la hW hS hL T hT Z
  have ev : v = r.map (cv G) := by cases hv; rfl
  subst ev
  rw [h0] at hz hk
  obtain ⟨t2, a1, b1⟩ := kk r h' hP T'.heap (locs ++ L) la (by rw [e1]; exact hWt) ⟨Nat.le_trans hS.1 (by rw [e1]; exact hz), fun q h1 h2 => by rw [e1, hk q (Nat.lt_of_lt_of_le h1 hS.1) h2]; exact hS.2.1 q h1 h2, fun q hq => by
      rcases List.mem_append.mp hq with h | h
      · exact hS.2.2 q h
      · exact hLo q h⟩ hL T' rfl X'
  refine ⟨t2, stp t2 ?_, b1⟩
  have : (r.map (cv G)).toList ++ st.map (cv G) = (r.toList ++ st).map (cv G) := by cases r <;> simp
  show Steps _ _ _ (T'.setTop { (F0 (xm X) pc la (av.map (cv G))) with pc := pc + 3, stack := (r.map (cv G)).toList ++ st.map (cv G) }) t2
  rw [this]
  exact a1
end VC
