/-! fields and arrays -/
theorem fls_len {G : Glb} {h : AHp} {a : Nat} : ∀ (ts : List Nat) (k : Nat), (fls G h a k ts).length = ts.length := by
  intro ts
  induction ts with
  | nil => intro k; rfl
  | cons t ts ih => intro k; simp [fls, ih]
theorem fls_at {G : Glb} {h : AHp} {a : Nat} : ∀ (ts : List Nat) (k j t : Nat), ts[j]? = some t → (fls G h a k ts)[j]? = some (fdv G h a t (k + j)) := by
  intro ts
  induction ts with
  | nil => intro k j t hj; simp at hj
  | cons u ts ih =>
    intro k j t hj
    cases j with
    | zero => simp at hj; subst hj; simp [fls]
    | succ j =>
      simp only [fls, List.getElem?_cons_succ] at hj ⊢
      rw [ih (k + 1) j t hj]
      congr 2
      omega
theorem fls_ext {G : Glb} {h h' : AHp} {a a' : Nat} : ∀ (ts : List Nat) (k : Nat), (∀ j t, ts[j]? = some t → fdv G h a t (k + j) = fdv G h' a' t (k + j)) → fls G h a k ts = fls G h' a' k ts := by
  intro ts
  induction ts with
  | nil => intro k _; rfl
  | cons u ts ih =>
    intro k hj
    simp only [fls]
    rw [show fdv G h a u k = fdv G h' a' u k from hj 0 u rfl, ih (k + 1) (fun j t h1 => by have := hj (j + 1) t (by simpa using h1); rw [show k + 1 + j = k + (j + 1) by omega]; exact this)]
theorem fls_set {G : Glb} {h h' : AHp} {a : Nat} {v : Value} : ∀ (ts : List Nat) (k j t : Nat), ts[j]? = some t → fdv G h' a t (k + j) = v → (∀ i u, ts[i]? = some u → i ≠ j → fdv G h a u (k + i) = fdv G h' a u (k + i)) → (fls G h a k ts).set j v = fls G h' a k ts := by
  intro ts
  induction ts with
  | nil => intro k j t hj; simp at hj
  | cons u ts ih =>
    intro k j t hj hv hn
    cases j with
    | zero =>
      simp at hj
      subst hj
      simp only [fls, List.set_cons_zero]
      rw [show fdv G h' a u k = v from hv]
      congr 1
      exact fls_ext ts (k + 1) (fun j t h1 => by have := hn (j + 1) t (by simpa using h1) (by omega); rw [show k + 1 + j = k + (j + 1) by omega]; exact this)
    | succ j =>
      simp only [fls, List.set_cons_succ]
      rw [show fdv G h a u k = fdv G h' a u k from hn 0 u rfl (by omega)]
      congr 1
      refine ih (k + 1) j t (by simpa using hj) (by rw [show k + 1 + j = k + (j + 1) by omega]; exact hv) (fun i w h1 h2 => ?_)
      have := hn (i + 1) w (by simpa using h1) (by omega)
      rw [show k + 1 + i = k + (i + 1) by omega]
      exact this
theorem celE_obj {G : Glb} {h : AHp} {a c : Nat} (hk : hpK h a = c) (hc : c < 100) : celE G h a = .inr (c, fls G h a 0 (lyt c)) := by subst hk; exact if_pos hc
theorem celE_int {G : Glb} {h : AHp} {a c : Nat} (hk : hpK h a = c) (hc : c = 100 ∨ c = 101) : celE G h a = .inl (gA G c, (hpL h a, .inl (hpI h a))) := by
  unfold celE
  rw [hk, if_neg (by omega), if_pos (by omega)]
theorem celE_ref {G : Glb} {h : AHp} {a c : Nat} (hk : hpK h a = c) (hc : c = 102 ∨ c = 103) : celE G h a = .inl (gA G c, (hpL h a, .inr (.inr (.inr (.inr (fun i => (hpR h a i).map (gAd G))))))) := by
  unfold celE
  rw [hk, if_neg (by omega), if_neg (by omega)]
def tyT (t : FieldType) : Nat := match t with
  | .int => 0
  | .object _ => 1
  | .array _ => 1
  | .long => 2
  | .boolean => 3
  | _ => 9
theorem tyT_int {t : FieldType} (h : tyT t = 0) : t = .int := by cases t <;> first | rfl | cases h
theorem tyT_long {t : FieldType} (h : tyT t = 2) : t = .long := by cases t <;> first | rfl | cases h
theorem tyT_bool {t : FieldType} (h : tyT t = 3) : t = .boolean := by cases t <;> first | rfl | cases h
theorem tyT_ref {t : FieldType} (h : tyT t = 1) {v : Value} (hv : v = .null ∨ ∃ a, v = .ref a) : narrow t v = v ∧ fits t v = true ∧ defaultValue t = .null := by
  cases t <;> first | cases h | skip
  all_goals rcases hv with rfl | ⟨a, rfl⟩ <;> exact ⟨rfl, rfl, rfl⟩
/-- a class of ours, and all that is decided of it -/
def ClOK (ci : Nat) (C : String) (T : u_T) (N : Nat) (ty : Nat → FieldType) : Prop := vwCl[ci]? = some (C, T, N) ∧ (∀ w ∈ u_ws C T N, w ∈ TG) ∧ (∀ k, k < N → parseFieldDescriptor (T k).2.2.1 = some (ty k)) ∧ (∀ a, a < N → ∀ b, b < N → a ≠ b → (T a).2.1 ≠ (T b).2.1) ∧ (lyt ci).length = N ∧ ci < 100 ∧ (∀ k, k < N → (lyt ci).getD k 8 = tyT (ty k))
/-- the field k (of tag t) of class ci, by the pool's entry ix of own -/
def FL (own : String) (ix ci k t : Nat) (fin : Bool) : Prop := ∃ (C : String) (T : u_T) (N : Nat) (ty : Nat → FieldType) (ref : String), ClOK ci C T N ty ∧ k < N ∧ (lyt ci)[k]? = some t ∧ (T k).2.2.2 = fin ∧ Cond.fieldLink own ix ref (T k).2.1 (T k).2.2.1 ∈ TG ∧ ((T k).1 = ref ∨ Cond.sameField ref (T k).1 (T k).2.1 (T k).2.2.1 ∈ TG) ∧ (fin = true → (T k).1 = own)
/-- the same, to be read -/
def FG (own : String) (ix ci k t : Nat) : Prop := ∃ (C : String) (T : u_T) (N : Nat) (ty : Nat → FieldType) (ref : String), ClOK ci C T N ty ∧ k < N ∧ (lyt ci)[k]? = some t ∧ Cond.fieldLink own ix ref (T k).2.1 (T k).2.2.1 ∈ TG ∧ ((T k).1 = ref ∨ Cond.sameField ref (T k).1 (T k).2.1 (T k).2.2.1 ∈ TG)
theorem FL.ty {own : String} {ix ci k t : Nat} {C : String} {T : u_T} {N : Nat} {ty : Nat → FieldType} (hc : ClOK ci C T N ty) (hk : k < N) (ht : (lyt ci)[k]? = some t) : tyT (ty k) = t := by
  rw [← hc.2.2.2.2.2.2 k hk]
  simp [List.getD, ht]
theorem va_at.here {D : va_G} {cl : List vw_C} {a : Nat} {e : va_E} {H : Heap} (h : va_at D cl (a, e) H) : va_P D cl [(a, e)] H := fun k q hq => by
  have hz : k < 1 := (List.getElem?_eq_some_iff.mp hq).1
  rw [show k = 0 by omega] at hq
  cases hq
  exact h
theorem Wd.at {G : Glb} {h : AHp} {H : Heap} (hW : Wd G h H) {a c : Nat} (hk : Kd h a c) : va_at (gD G) vwCl (gAd G a, celE G h a) H := by
  rw [gAd_lt (Nat.lt_trans hk.2 hW.2.1)]
  exact hW.2.2.2 a hk.2
section VH
variable {X : Cx} {G : Glb} {own : String} {cc : ByteArray} {nL k n pc pc' : Nat} {rt : Option FieldType} {Q : State → Prop} {ls : List (Option Value)} {st : List Value} {h : AHp}
theorem v_get (hX : OKx X G own cc nL rt) {ix ci fk t a : Nat} {v : Value} (hf : FG own ix ci fk t) (hk : Kd h a ci) (hv : fdv G h a t fk = cv G v) (hd : Dq cc pc (.getfield ix) 3 pc') (kk : V X G nL k n Q pc' ls (v :: st) h) : V X G nL k n Q pc ls (.ref a :: st) h := by
  obtain ⟨hd, rfl⟩ := hd
  obtain ⟨C, T, N, ty, ref, hc, hN, ht, hl, hs⟩ := hf
  intro H locs la hW hS hL
  have hat := hW.at hk
  rw [celE_obj hk.1 hc.2.2.2.2.2.1] at hat
  have he := fls_at (G := G) (h := h) (a := a) (lyt ci) 0 fk t ht
  rw [Nat.zero_add, hv] at he
  refine va_get (D := gD G) (cl := vwCl) (C := C) (T := T) (N := N) (ref := ref) hX.1 hX.2.1 hX.2.2.2.2.2.1 hc.2.1 hX.2.2.2.2.1 hX.2.2.2.2.2.2.1.1 hat.here 0 rfl hc.1 fk hN (hX.2.2.2.2.2.1 _ hl) ?_ he hd (kk H locs la hW hS hL)
  rcases hs with rfl | hs
  · exact fun x h => h
  · exact fun x h => u_same (hX.2.2.2.2.2.1 _ hs) x h
theorem v_getI (hX : OKx X G own cc nL rt) {ix ci fk t a : Nat} (hf : FG own ix ci fk t) (ht : t = 0 ∨ t = 3) (hk : Kd h a ci) (hd : Dq cc pc (.getfield ix) 3 pc') (kk : V X G nL k n Q pc' ls (.int (hpI h a fk) :: st) h) : V X G nL k n Q pc ls (.ref a :: st) h := v_get hX hf hk (by rcases ht with rfl | rfl <;> rfl) hd kk
theorem v_getJ (hX : OKx X G own cc nL rt) {ix ci fk a : Nat} (hf : FG own ix ci fk 2) (hk : Kd h a ci) (hd : Dq cc pc (.getfield ix) 3 pc') (kk : V X G nL k n Q pc' ls (.long (hpJ h a fk) :: st) h) : V X G nL k n Q pc ls (.ref a :: st) h := v_get hX hf hk rfl hd kk
theorem v_getR (hX : OKx X G own cc nL rt) {ix ci fk a b : Nat} (hf : FG own ix ci fk 1) (hk : Kd h a ci) (hr : hpR h a fk = some b) (hd : Dq cc pc (.getfield ix) 3 pc') (kk : V X G nL k n Q pc' ls (.ref b :: st) h) : V X G nL k n Q pc ls (.ref a :: st) h := v_get hX hf hk (by show va_rf ((hpR h a fk).map (gAd G)) = _; rw [hr]; rfl) hd kk
/-- the world behind a write into one cell -/
theorem Wd.put {G : Glb} {h h' : AHp} {H H1 : Heap} {a : Nat} (hW : Wd G h H) (ha : a < hpN h) (hn : hpN h' = hpN h) (hz : H1.size = H.size) (oq : ∀ q : Nat, q ≠ gB G + a → H1[q]? = H[q]?) (h1 : va_at (gD G) vwCl (gB G + a, celE G h' a) H1) (ho : ∀ b, b ≠ a → celE G h' b = celE G h b) : Wd G h' H1 := by
  refine ⟨by rw [hz, hn]; exact hW.1, by rw [hn]; exact hW.2.1, fun q hq => ?_, fun b hb => ?_⟩
  · rw [oq q (by omega)]; exact hW.2.2.1 q hq
  · by_cases hba : b = a
    · subst hba; exact h1
    · rw [ho b hba]
      exact (hW.2.2.2 b (by rw [← hn]; exact hb)).kept (oq (gB G + b) (by omega))
theorem cel_stI {G : Glb} {h : AHp} {a i : Nat} {x : Int32} {b : Nat} (hb : b ≠ a) : celE G (stI h a i x) b = celE G h b := by
  have e1 : hpI (stI h a i x) b = hpI h b := by funext j; show up2 h.1 a i x b j = h.1 b j; exact if_neg (fun z => hb z.1)
  unfold celE
  show (if hpK h b < 100 then (Sum.inr (hpK h b, fls G (stI h a i x) b 0 (lyt (hpK h b))) : va_E) else if hpK h b < 102 then .inl (gA G (hpK h b), (hpL h b, .inl (hpI (stI h a i x) b))) else .inl (gA G (hpK h b), (hpL h b, .inr (.inr (.inr (.inr (fun i => (hpR h b i).map (gAd G)))))))) = _
  rw [e1, fls_ext (h := stI h a i x) (h' := h) (lyt (hpK h b)) 0 (fun j t _ => by unfold fdv; rw [e1]; rfl)]
theorem cel_stJ {G : Glb} {h : AHp} {a i : Nat} {x : Int64} {b : Nat} (hb : b ≠ a) : celE G (stJ h a i x) b = celE G h b := by
  have e1 : hpJ (stJ h a i x) b = hpJ h b := by funext j; show up2 h.2.2.1 a i x b j = h.2.2.1 b j; exact if_neg (fun z => hb z.1)
  unfold celE
  show (if hpK h b < 100 then (Sum.inr (hpK h b, fls G (stJ h a i x) b 0 (lyt (hpK h b))) : va_E) else if hpK h b < 102 then .inl (gA G (hpK h b), (hpL h b, .inl (hpI h b))) else .inl (gA G (hpK h b), (hpL h b, .inr (.inr (.inr (.inr (fun i => (hpR h b i).map (gAd G)))))))) = _
  rw [fls_ext (h := stJ h a i x) (h' := h) (lyt (hpK h b)) 0 (fun j t _ => by unfold fdv; rw [e1]; rfl)]
theorem cel_stR {G : Glb} {h : AHp} {a i : Nat} {x : Option Nat} {b : Nat} (hb : b ≠ a) : celE G (stR h a i x) b = celE G h b := by
  have e1 : hpR (stR h a i x) b = hpR h b := by funext j; show up2 h.2.1 a i x b j = h.2.1 b j; exact if_neg (fun z => hb z.1)
  unfold celE
  show (if hpK h b < 100 then (Sum.inr (hpK h b, fls G (stR h a i x) b 0 (lyt (hpK h b))) : va_E) else if hpK h b < 102 then .inl (gA G (hpK h b), (hpL h b, .inl (hpI h b))) else .inl (gA G (hpK h b), (hpL h b, .inr (.inr (.inr (.inr (fun i2 => (hpR (stR h a i x) b i2).map (gAd G)))))))) = _
  rw [e1, fls_ext (h := stR h a i x) (h' := h) (lyt (hpK h b)) 0 (fun j t _ => by unfold fdv; rw [e1]; rfl)]
end VH
