/-! fields and arrays -/
theorem fls_len {G : Glb} {h : AHp} {a : Nat} : ∀ (ts : List Nat) (k : Nat), (fls G h a k ts).length = ts.length := by
  intro ts
  induction ts with
  | nil => intro k; rfl
  | cons t ts ih => intro k; simp [fls, ih]
theorem fls_at {G : Glb} {h : AHp} {a : Nat} : ∀ (ts : List Nat) (k j t : Nat), ts[j]? = some t → (fls G h a k ts)[j]? = some (fdv G h a t (k + j)) := by
  intro ts
  induction ts with
  | nil => intro k j t hj; simp at hj
  | cons u ts ih =>
    intro k j t hj
    cases j with
    | zero => simp at hj; subst hj; simp [fls]
    | succ j =>
      simp only [fls, List.getElem?_cons_succ] at hj ⊢
      rw [ih (k + 1) j t hj]
      congr 2
      omega
theorem fls_ext {G : Glb} {h h' : AHp} {a a' : Nat} : ∀ (ts : List Nat) (k : Nat), (∀ j t, ts[j]? = some t → fdv G h a t (k + j) = fdv G h' a' t (k + j)) → fls G h a k ts = fls G h' a' k ts := by
  intro ts
  induction ts with
  | nil => intro k _; rfl
  | cons u ts ih =>
    intro k hj
    simp only [fls]
    rw [show fdv G h a u k = fdv G h' a' u k from hj 0 u rfl, ih (k + 1) (fun j t h1 => by have := hj (j + 1) t (by simpa using h1); rw [show k + 1 + j = k + (j + 1) by omega]; exact this)]
theorem fls_set {G : Glb} {h h' : AHp} {a : Nat} {v : Value} : ∀ (ts : List Nat) (k j t : Nat), ts[j]? = some t → fdv G h' a t (k + j) = v → (∀ i u, ts[i]? = some u → i ≠ j → fdv G h a u (k + i) = fdv G h' a u (k + i)) → (fls G h a k ts).set j v = fls G h' a k ts := by
  intro ts
  induction ts with
  | nil => intro k j t hj; simp at hj
  | cons u ts ih =>
    intro k j t hj hv hn
    cases j with
    | zero =>
      simp at hj
      subst hj
      simp only [fls, List.set_cons_zero]
      rw [show fdv G h' a u k = v from hv]
      congr 1
      exact fls_ext ts (k + 1) (fun j t h1 => by have := hn (j + 1) t (by simpa using h1) (by omega); rw [show k + 1 + j = k + (j + 1) by omega]; exact this)
    | succ j =>
      simp only [fls, List.set_cons_succ]
      rw [show fdv G h a u k = fdv G h' a u k from hn 0 u rfl (by omega)]
      congr 1
      refine ih (k + 1) j t (by simpa using hj) (by rw [show k + 1 + j = k + (j + 1) by omega]; exact hv) (fun i w h1 h2 => ?_)
      have := hn (i + 1) w (by simpa using h1) (by omega)
      rw [show k + 1 + i = k + (i + 1) by omega]
      exact this
theorem celE_obj {G : Glb} {h : AHp} {a c : Nat} (hk : hpK h a = c) (hc : c < 100) : celE G h a = .inr (c, fls G h a 0 (lyt c)) := by subst hk; exact if_pos hc
theorem celE_int {G : Glb} {h : AHp} {a c : Nat} (hk : hpK h a = c) (hc : c = 100 ∨ c = 101) : celE G h a = .inl (gA G c, (hpL h a, .inl (hpI h a))) := by
  unfold celE
  rw [hk, if_neg (by omega), if_pos (by omega)]
theorem celE_ref {G : Glb} {h : AHp} {a c : Nat} (hk : hpK h a = c) (hc : c = 102 ∨ c = 103) : celE G h a = .inl (gA G c, (hpL h a, .inr (.inr (.inr (.inr (fun i => (hpR h a i).map (gAd G))))))) := by
  unfold celE
  rw [hk, if_neg (by omega), if_neg (by omega)]
/-- a class of ours, and all that is decided of it -/
def ClOK (ci : Nat) (C : String) (T : u_T) (N : Nat) (ty : Nat → FieldType) : Prop := vwCl[ci]? = some (C, T, N) ∧ (∀ w ∈ u_ws C T N, w ∈ TG) ∧ (∀ k, k < N → parseFieldDescriptor (T k).2.2.1 = some (ty k)) ∧ (∀ a, a < N → ∀ b, b < N → a ≠ b → (T a).2.1 ≠ (T b).2.1) ∧ (lyt ci).length = N ∧ ci < 100 ∧ (∀ k, k < N → (match (lyt ci).getD k 9 with | 0 => ty k = .int | 1 => (ty k).isReference = true ∧ defaultValue (ty k) = .null ∧ (∀ v : Value, (v = .null ∨ ∃ a, v = .ref a) → narrow (ty k) v = v ∧ fits (ty k) v = true) | 2 => ty k = .long | 3 => ty k = .boolean | _ => False))
/-- the field k (of tag t) of class ci, by the pool's entry ix of own -/
def FL (own : String) (ix ci k t : Nat) (fin : Bool) : Prop := ∃ (C : String) (T : u_T) (N : Nat) (ty : Nat → FieldType) (ref : String), ClOK ci C T N ty ∧ k < N ∧ (lyt ci)[k]? = some t ∧ (T k).2.2.2 = fin ∧ Cond.fieldLink own ix ref (T k).2.1 (T k).2.2.1 ∈ TG ∧ ((T k).1 = ref ∨ Cond.sameField ref (T k).1 (T k).2.1 (T k).2.2.1 ∈ TG) ∧ (fin = true → (T k).1 = own ∧ ref = own)
