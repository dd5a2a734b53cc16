/-! what a text its parser makes: its code runs, tells the same -/
/-- cs brings one worth on the stack, v of the names, where N more have room -/
def Runs (cs : List Int32) (v : (Nat → Int32) → Int32) (N : Nat) : Prop := ∀ (f env : Nat → Int32) (i : Nat) (s : List Int32), (∀ q x, cs[q]? = some x → f (i + q) = x) → s.length + N ≤ 31 → evn f env cs.length i s = some (v env :: s)
theorem Runs.mono {cs : List Int32} {v : (Nat → Int32) → Int32} {N M : Nat} (h : Runs cs v N) (hm : N ≤ M) : Runs cs v M := fun f env i s hf hs => h f env i s hf (by omega)
theorem evn_add (f env : Nat → Int32) : ∀ a b i s, evn f env (a + b) i s = (evn f env a i s).bind (evn f env b (i + a)) := by
  intro a
  induction a with
  | zero => intro b i s; rw [Nat.zero_add]; rfl
  | succ a ih =>
    intro b i s
    rw [show a + 1 + b = (a + b) + 1 by omega]
    unfold evn
    cases ev1 env (f i) s with
    | none => rfl
    | some s' =>
      show evn f env (a + b) (i + 1) s' = (evn f env a (i + 1) s').bind _
      rw [ih b (i + 1) s', show i + 1 + a = i + (a + 1) by omega]
theorem Runs.num {x : Int32} (h : 0 ≤ x) : Runs [x] (fun _ => x) 1 := by
  intro f env i s hf hs
  have e := hf 0 x rfl
  show (ev1 env (f i) s).bind (evn f env 0 (i + 1)) = _
  rw [show f i = x from e]
  unfold ev1
  rw [if_pos h, if_pos (by omega)]
  rfl
theorem Runs.nam {x : Int32} (h1 : -6 ≤ x) (h2 : x < 0) : Runs [x] (fun env => env (tn (-1 - x))) 1 := by
  intro f env i s hf hs
  have e := hf 0 x rfl
  show (ev1 env (f i) s).bind (evn f env 0 (i + 1)) = _
  rw [show f i = x from e]
  unfold ev1
  rw [if_neg (Int32.not_le.mpr h2), if_pos h1, if_pos (by omega)]
  rfl
theorem Runs.one {cs : List Int32} {v : (Nat → Int32) → Int32} {N : Nat} (h : Runs cs v N) {c : Int32} {g : Int32 → Int32} (hg : ∀ env x s, ev1 env c (x :: s) = some (g x :: s)) : Runs (cs ++ [c]) (fun env => g (v env)) N := by
  intro f env i s hf hs
  rw [List.length_append, evn_add, h f env i s (fun q x hq => hf q x (by rw [List.getElem?_append_left (List.getElem?_eq_some_iff.mp hq).1]; exact hq)) hs]
  have e := hf cs.length c (by simp)
  show (ev1 env (f (i + cs.length)) (v env :: s)).bind (evn f env 0 (i + cs.length + 1)) = _
  rw [e, hg]
  rfl
theorem Runs.neg {cs : List Int32} {v : (Nat → Int32) → Int32} {N : Nat} (h : Runs cs v N) : Runs (cs ++ [-15]) (fun env => - v env) N := h.one (g := fun x => -x) (fun env x s => by
  unfold ev1
  rw [if_neg (by decide), if_neg (by decide), if_neg (by decide), if_pos rfl]
  rfl)
theorem Runs.nt {cs : List Int32} {v : (Nat → Int32) → Int32} {N : Nat} (h : Runs cs v N) : Runs (cs ++ [-9]) (fun env => bz (v env = 0)) N := h.one (g := fun x => bz (x = 0)) (fun env x s => by
  unfold ev1
  rw [if_neg (by decide), if_neg (by decide), if_pos rfl]
  rfl)
def isOp (c : Int32) : Prop := ¬ 0 ≤ c ∧ ¬ -6 ≤ c ∧ ¬ c = -9 ∧ ¬ c = -15
theorem Runs.two {cs cs2 : List Int32} {v v2 : (Nat → Int32) → Int32} {N : Nat} (h : Runs cs v (N + 1)) (h2 : Runs cs2 v2 N) {c : Int32} (hc : isOp c) : Runs (cs ++ cs2 ++ [c]) (fun env => joinI c (v env) (v2 env)) (N + 1) := by
  intro f env i s hf hs
  have l1 : ∀ q x, cs[q]? = some x → f (i + q) = x := fun q x hq => hf q x (by
    have := (List.getElem?_eq_some_iff.mp hq).1
    rw [List.append_assoc, List.getElem?_append_left this]; exact hq)
  have l2 : ∀ q x, cs2[q]? = some x → f (i + cs.length + q) = x := fun q x hq => by
    have hl := (List.getElem?_eq_some_iff.mp hq).1
    have := hf (cs.length + q) x (by
      rw [List.append_assoc, List.getElem?_append_right (by omega), show cs.length + q - cs.length = q by omega, List.getElem?_append_left hl]; exact hq)
    rwa [← Nat.add_assoc] at this
  have l3 : f (i + cs.length + cs2.length) = c := by
    have := hf (cs.length + cs2.length) c (by
      rw [List.getElem?_append_right (by simp)]
      simp)
    rwa [← Nat.add_assoc] at this
  rw [show (cs ++ cs2 ++ [c]).length = cs.length + (cs2.length + 1) by simp [Nat.add_assoc], evn_add, h f env i s l1 hs]
  show evn f env (cs2.length + 1) (i + cs.length) (v env :: s) = _
  rw [evn_add, h2 f env (i + cs.length) (v env :: s) l2 (by simp; omega)]
  show (ev1 env (f (i + cs.length + cs2.length)) (v2 env :: v env :: s)).bind (evn f env 0 _) = _
  rw [l3]
  unfold ev1
  rw [if_neg hc.1, if_neg hc.2.1, if_neg hc.2.2.1, if_neg hc.2.2.2]
  rfl
/-- what a sub-parser keeps -/
def SubOK (n : Nat) (sub : Nat → PR) (N : Nat) : Prop := ∀ i j cs v, sub i = .inr (j, cs, v) → i < j ∧ j ≤ n ∧ i + cs.length ≤ j ∧ Runs cs v N
section LV
variable {K W : Nat → Int32} {n : Nat}
theorem kLt {c : Int32} (hK : ∀ i, n ≤ i → K i = 0) {i : Nat} (h : K i = c) (hc : ¬ c = 0) : i < n := Nat.lt_of_not_le fun z => hc (h.symm.trans (hK i z))
theorem pOne_ok (hK : ∀ i, n ≤ i → K i = 0) (h2 : ∀ i, K i = 2 → 0 ≤ W i) (h3 : ∀ i, K i = 3 → -6 ≤ W i ∧ W i < 0) {room : Bool} {l1 lo : Nat → PR} {N : Nat} (o1 : room = true → SubOK n l1 N) (oo : room = true → SubOK n lo N) (hN : 1 ≤ N) : SubOK n (pOne K W room l1 lo) N := by
  intro i j cs v h
  unfold pOne at h
  by_cases e2 : K i = 2
  · rw [if_pos e2] at h
    cases h
    have := kLt hK e2 (by decide)
    exact ⟨by omega, by omega, by simp, (Runs.num (h2 i e2)).mono hN⟩
  rw [if_neg e2] at h
  by_cases e3 : K i = 3
  · rw [if_pos e3] at h
    cases h
    have := kLt hK e3 (by decide)
    exact ⟨by omega, by omega, by simp, (Runs.nam (h3 i e3).1 (h3 i e3).2).mono hN⟩
  rw [if_neg e3] at h
  by_cases e4 : K i = 45
  · rw [if_pos e4] at h
    cases room with
    | false => cases h
    | true =>
      have h : neP (l1 (i + 1)) = .inr (j, cs, v) := h
      cases e : l1 (i + 1) with
      | inl f => rw [e] at h; cases h
      | inr t =>
        obtain ⟨j', cs', v'⟩ := t
        rw [e] at h
        cases h
        obtain ⟨g1, g2, g3, g4⟩ := o1 rfl _ _ _ _ e
        exact ⟨by omega, g2, by simp; omega, g4.neg⟩
  rw [if_neg e4] at h
  by_cases e5 : K i = 40
  · rw [if_pos e5] at h
    cases room with
    | false => cases h
    | true =>
      have h : clP K (lo (i + 1)) = .inr (j, cs, v) := h
      cases e : lo (i + 1) with
      | inl f => rw [e] at h; cases h
      | inr t =>
        obtain ⟨j', cs', v'⟩ := t
        rw [e] at h
        have h : (if K j' = 41 then (.inr (j' + 1, cs', v') : PR) else .inl j') = .inr (j, cs, v) := h
        obtain ⟨g1, g2, g3, g4⟩ := oo rfl _ _ _ _ e
        by_cases e6 : K j' = 41
        · rw [if_pos e6] at h
          cases h
          have := kLt hK e6 (by decide)
          exact ⟨by omega, by omega, by omega, g4⟩
        · rw [if_neg e6] at h; cases h
  rw [if_neg e5] at h; cases h
theorem pLoop_ok (hK : ∀ i, n ≤ i → K i = 0) {op : Int32 → Option Int32} (hop : ∀ k c, op k = some c → ¬ k = 0 ∧ isOp c) {sub : Nat → PR} {N : Nat} (os : SubOK n sub N) : ∀ f i i0 cs v, i0 < i → i ≤ n → i0 + cs.length ≤ i → Runs cs v (N + 1) → ∀ j cs' v', pLoop K op sub f i cs v = .inr (j, cs', v') → i0 < j ∧ j ≤ n ∧ i0 + cs'.length ≤ j ∧ Runs cs' v' (N + 1) := by
  intro f
  induction f with
  | zero => intro i i0 cs v a1 a2 a3 a4 j cs' v' h; cases h; exact ⟨a1, a2, a3, a4⟩
  | succ f ih =>
    intro i i0 cs v a1 a2 a3 a4 j cs' v' h
    unfold pLoop at h
    cases e : op (K i) with
    | none => rw [e] at h; cases h; exact ⟨a1, a2, a3, a4⟩
    | some c =>
      rw [e] at h
      cases e2 : sub (i + 1) with
      | inl g => rw [e2] at h; cases h
      | inr t =>
        obtain ⟨j1, c1, v1⟩ := t
        rw [e2] at h
        obtain ⟨g1, g2, g3, g4⟩ := os _ _ _ _ e2
        exact ih j1 i0 _ _ (by omega) g2 (by simp; omega) (a4.two g4 (hop _ _ e).2) j cs' v' h
theorem pSeq_ok (hK : ∀ i, n ≤ i → K i = 0) {op : Int32 → Option Int32} (hop : ∀ k c, op k = some c → ¬ k = 0 ∧ isOp c) {sub : Nat → PR} {N : Nat} (os : SubOK n sub N) : SubOK n (pSeq K n op sub) (N + 1) := by
  intro i j cs v h
  unfold pSeq at h
  cases e : sub i with
  | inl g => rw [e] at h; cases h
  | inr t =>
    obtain ⟨j1, c1, v1⟩ := t
    rw [e] at h
    obtain ⟨g1, g2, g3, g4⟩ := os _ _ _ _ e
    exact pLoop_ok hK hop os n j1 i c1 v1 g1 g2 g3 (g4.mono (by omega)) j cs v h
theorem isOp_l : isOp (-7) ∧ isOp (-8) ∧ isOp (-10) ∧ isOp (-11) ∧ isOp (-12) ∧ isOp (-13) ∧ isOp (-14) := by unfold isOp; decide
theorem opO_s {k c : Int32} (h : opO k = some c) : k = 7 ∧ c = -7 := by
  unfold opO at h; split at h
  · cases h; exact ⟨by assumption, rfl⟩
  · cases h
theorem opA_s {k c : Int32} (h : opA k = some c) : k = 8 ∧ c = -8 := by
  unfold opA at h; split at h
  · cases h; exact ⟨by assumption, rfl⟩
  · cases h
theorem opT_s {k c : Int32} (h : opT k = some c) : k = 42 ∧ c = -14 := by
  unfold opT at h; split at h
  · cases h; exact ⟨by assumption, rfl⟩
  · cases h
theorem opS_s {k c : Int32} (h : opS k = some c) : (k = 43 ∧ c = -12) ∨ (k = 45 ∧ c = -13) := by
  unfold opS at h; split at h
  · cases h; exact Or.inl ⟨by assumption, rfl⟩
  · split at h
    · cases h; exact Or.inr ⟨by assumption, rfl⟩
    · cases h
theorem opO_ok : ∀ k c, opO k = some c → ¬ k = 0 ∧ isOp c := fun k c h => by obtain ⟨rfl, rfl⟩ := opO_s h; exact ⟨by decide, isOp_l.1⟩
theorem opA_ok : ∀ k c, opA k = some c → ¬ k = 0 ∧ isOp c := fun k c h => by obtain ⟨rfl, rfl⟩ := opA_s h; exact ⟨by decide, isOp_l.2.1⟩
theorem opT_ok : ∀ k c, opT k = some c → ¬ k = 0 ∧ isOp c := fun k c h => by obtain ⟨rfl, rfl⟩ := opT_s h; exact ⟨by decide, isOp_l.2.2.2.2.2.2⟩
theorem opS_ok : ∀ k c, opS k = some c → ¬ k = 0 ∧ isOp c := fun k c h => by
  rcases opS_s h with ⟨rfl, rfl⟩ | ⟨rfl, rfl⟩
  · exact ⟨by decide, isOp_l.2.2.2.2.1⟩
  · exact ⟨by decide, isOp_l.2.2.2.2.2.1⟩
theorem pCmp_ok {sub : Nat → PR} {N : Nat} (os : SubOK n sub N) : SubOK n (pCmp K sub) (N + 1) := by
  intro i j cs v h
  unfold pCmp at h
  cases e : sub i with
  | inl g => rw [e] at h; cases h
  | inr t =>
    obtain ⟨j1, c1, v1⟩ := t
    rw [e] at h
    obtain ⟨g1, g2, g3, g4⟩ := os _ _ _ _ e
    have bi : ∀ c, isOp c → biP c c1 v1 (sub (j1 + 1)) = .inr (j, cs, v) → i < j ∧ j ≤ n ∧ i + cs.length ≤ j ∧ Runs cs v (N + 1) := fun c hc h => by
      cases e2 : sub (j1 + 1) with
      | inl g => rw [e2] at h; cases h
      | inr t =>
        obtain ⟨j2, c2, v2⟩ := t
        rw [e2] at h
        cases h
        obtain ⟨y1, y2, y3, y4⟩ := os _ _ _ _ e2
        exact ⟨by omega, y2, by simp; omega, (g4.mono (by omega)).two y4 hc⟩
    have h : (if K j1 = 60 then biP (-10) c1 v1 (sub (j1 + 1)) else if K j1 = 61 then biP (-11) c1 v1 (sub (j1 + 1)) else .inr (j1, c1, v1)) = .inr (j, cs, v) := h
    by_cases e3 : K j1 = 60
    · rw [if_pos e3] at h; exact bi _ isOp_l.2.2.1 h
    rw [if_neg e3] at h
    by_cases e4 : K j1 = 61
    · rw [if_pos e4] at h; exact bi _ isOp_l.2.2.2.1 h
    rw [if_neg e4] at h
    cases h
    exact ⟨g1, g2, g3, g4.mono (by omega)⟩
theorem pNot_ok {room : Bool} {ln cmp : Nat → PR} {N : Nat} (ol : room = true → SubOK n ln N) (oc : SubOK n cmp N) : SubOK n (pNot K room ln cmp) N := by
  intro i j cs v h
  unfold pNot at h
  by_cases e : K i = 9
  · rw [if_pos e] at h
    cases room with
    | false => cases h
    | true =>
      have h : ntP (ln (i + 1)) = .inr (j, cs, v) := h
      cases e2 : ln (i + 1) with
      | inl f => rw [e2] at h; cases h
      | inr t =>
        obtain ⟨j', cs', v'⟩ := t
        rw [e2] at h
        cases h
        obtain ⟨g1, g2, g3, g4⟩ := ol rfl _ _ _ _ e2
        exact ⟨by omega, g2, by simp; omega, g4.nt⟩
  · rw [if_neg e] at h
    exact oc _ _ _ _ h
theorem SubOK.mono {sub : Nat → PR} {N M : Nat} (h : SubOK n sub N) (hm : N ≤ M) : SubOK n sub M := fun i j cs v e => by
  obtain ⟨g1, g2, g3, g4⟩ := h i j cs v e
  exact ⟨g1, g2, g3, g4.mono hm⟩
theorem lev_ok (hK : ∀ i, n ≤ i → K i = 0) (h2 : ∀ i, K i = 2 → 0 ≤ W i) (h3 : ∀ i, K i = 3 → -6 ≤ W i ∧ W i < 0) : ∀ k, SubOK n (lev K W n k).1 (5 * k + 1) ∧ SubOK n (lev K W n k).2.1 (5 * k + 4) ∧ SubOK n (lev K W n k).2.2 (5 * k + 6) := by
  intro k
  induction k with
  | zero =>
    have a1 : SubOK n (pOne K W false (fun i => .inl i) (fun i => .inl i)) 1 := pOne_ok hK h2 h3 (fun z => by cases z) (fun z => by cases z) (by omega)
    have a2 : SubOK n (lvN K n false (pOne K W false (fun i => .inl i) (fun i => .inl i)) (fun i => .inl i)) 4 := pNot_ok (fun z => by cases z) (pCmp_ok (pSeq_ok hK opS_ok (pSeq_ok hK opT_ok a1)))
    exact ⟨a1, a2, pSeq_ok hK opO_ok (pSeq_ok hK opA_ok a2)⟩
  | succ k ih =>
    obtain ⟨i1, i2, i3⟩ := ih
    have a1 : SubOK n (pOne K W true (lev K W n k).1 (lev K W n k).2.2) (5 * (k + 1) + 1) := pOne_ok hK h2 h3 (fun _ => i1.mono (by omega)) (fun _ => i3.mono (by omega)) (by omega)
    have a2 : SubOK n (lvN K n true (pOne K W true (lev K W n k).1 (lev K W n k).2.2) (lev K W n k).2.1) (5 * (k + 1) + 4) := pNot_ok (fun _ => i2.mono (by omega)) (pCmp_ok (pSeq_ok hK opS_ok (pSeq_ok hK opT_ok a1)))
    exact ⟨a1, a2, pSeq_ok hK opO_ok (pSeq_ok hK opA_ok a2)⟩
end LV
